/-! ===== RULES: new cells, calls; a contract out of a walk (printed by wip/p28/mkcalls.py) ===== -/
def ab_tk (t : FieldType) : Bool := match t with
  | .int => true
  | .boolean => true
  | .object _ => true
  | .array _ => true
  | _ => false
theorem ab_tk9 : (List.range 8).all (fun ci => (List.range (ab_nf ci)).all (fun f => ab_tk (ab_ty ci f))) = true := by decide +kernel
theorem ab_fv_new {base b ci f : Nat} {h : ab_H} (hc : ci < 8) (hf : f < ab_nf ci) : ab_fv base (ab_hn h b) b ci f = defaultValue (ab_ty ci f) := by
  have h1 := List.all_eq_true.mp (List.all_eq_true.mp ab_tk9 ci (List.mem_range.mpr hc)) f (List.mem_range.mpr hf)
  unfold ab_fv ab_fk
  cases ht : ab_ty ci f <;> rw [ht] at h1 <;> first | (simp [ab_hn, defaultValue]; done) | (simp [ab_tk] at h1)
theorem ab_ce_hn {cA : ClassId} {base b k : Nat} {h : ab_H} (hk : k ≠ b) : ab_ce cA base (ab_hn h b) k = ab_ce cA base h k := by
  have e1 : (ab_hn h b).1 k = h.1 k := by funext j; simp [ab_hn, hk]
  have e2 : (ab_hn h b).2 k = h.2 k := by funext j; simp [ab_hn, hk]
  have e3 : ∀ ci, ab_ob base (ab_hn h b) k ci = ab_ob base h k ci := by
    intro ci
    unfold ab_ob
    congr 1
    funext f
    unfold ab_fv
    rw [e1, e2]
  unfold ab_ce
  rw [e1, e3]
theorem ab_Wd.new {D : va_G} {cA : ClassId} {base n : Nat} {h : ab_H} {H H' : Heap} (w : ab_Wd D cA base n 0 h H) (hn : n < 192) (z : H'.size = H.size + 1) (o : ∀ q : Nat, q < H.size → H'[q]? = H[q]?) (hb : va_at D vwCl (base + n, ab_ce cA base (ab_hn h n) n) H') : ab_Wd D cA base (n + 1) 0 (ab_hn h n) H' := by
  have w1 := w.1.2
  refine ⟨⟨hn, by rw [z]; omega⟩, fun k hk => ?_⟩
  rcases Nat.lt_succ_iff_lt_or_eq.mp hk with h1 | h1
  · rw [ab_ce_hn (by omega)]
    exact (w.2 k h1).kept (o _ (by show base + k < H.size; omega))
  · subst h1; exact hb
theorem ab_S.new {base : Nat} {H0 H H' : Heap} {locs : List Loc} (S : ab_S base H0 H locs) (z : H.size ≤ H'.size) (hb : base ≤ H.size) (o : ∀ q : Nat, q < H.size → H'[q]? = H[q]?) : ab_S base H0 H' locs :=
  ⟨Nat.le_trans S.1 z, fun q h1 h2 => (o q (Nat.lt_of_lt_of_le h1 S.1)).trans (S.2.1 q h1 h2), S.2.2⟩
theorem ar_new {d k pc n bc bs : Nat} {ls : List (Option Value)} {st : List Value} {h : ab_H} {Q : Option Value → ab_H → Prop} {ci idx : Nat} (hd : decode (ab_cod k) pc = .ok (.new idx, 3)) (hc : ci < 8) (hs : ab_sh n = ci) (hw1 : Jvm.Cond.classLink (ab_yn k).cls idx (ab_cn ci) ∈ ab_Tg) (hw2 : Jvm.Cond.instantiable (ab_cn ci) (ab_nf ci) ∈ ab_Tg) (hw3 : Jvm.Cond.initialized (ab_cn ci) ∈ ab_Tg)
    (hk : ab_W d k (pc + 3) (n + 1) bc bs ls (.ref n :: st) (ab_hn h n) Q) : ab_W d k pc n (bc + 1) (bs + ab_nf ci) ls st h Q := by
  intro p l e R s m args below meth c D cA base mcT msT H locs cells slots xx Z lsr C hxx h1 h2 w S L he
  obtain ⟨hx1, hb1, hr1, hml, hown, hts, hnw, hlk, hmn, hK, hR⟩ := id C
  obtain rfl : xx = 0 := hxx (by omega)
  have h192 : n < 192 := ab_sh_lt (by omega)
  have hS1 : H.size = base + n := by have := w.1.2; omega
  have g := fun H' w' S' he' => hk p l e R s m args below meth c D cA base mcT msT H' locs (cells + 1) (slots + ab_nf ci) 0 Z lsr C (fun _ => rfl) (by omega) (by omega) w' S' L he'
  have hKn := hK.1 ci _ (ab_cl hc)
  refine W.newcK hx1 hb1 hown (hts _ hw1) (hts _ hw2) (hts _ hw3) rfl hd (by have := hR.2.2.2.1; omega) (by have := hR.2.2.2.2; omega) hKn.2.1 hS1 fun H1 kC hkC e1 z1 o1 => ?_
  refine g H1 (w.new h192 (by omega) (fun q hq => o1 q (by omega)) ?_) (S.new (by omega) (by omega) (fun q hq => o1 q (by omega))) (fun r h' H' locs' cells' slots' pc' ls' q1 q2 => he r h' H' locs' cells' slots' pc' ls' q1 (by rw [show n + (bc + 1) = n + 1 + bc by omega]; exact q2))
  rw [ab_ce_o hc hs]
  refine ⟨_, ab_cl hc, (u_born (ab_ty ci) hts (ab_lays hc) hKn hkC e1 (ab_tyo hc)).to (fun f hf => ?_)⟩
  show defaultValue (ab_ty ci f) = (ab_ob base (ab_hn h n) n ci).getD f .null
  rw [List.getD_eq_getElem?_getD, ab_ob_at hf, ab_fv_new hc hf]
  rfl
theorem ar_newa {d k pc n bc bs : Nat} {ls : List (Option Value)} {st : List Value} {h : ab_H} {Q : Option Value → ab_H → Prop} {x : Int32} {N : Nat} (hd : decode (ab_cod k) pc = .ok (.newarray .int, 2)) (hn : ¬ x < 0) (hN : x.toNatClampNeg = N) (hN2 : N ≤ 1000) (hs : ab_sh n = 100 + N) (hw : Jvm.Cond.arrayClass .int ∈ ab_Tg)
    (hk : ab_W d k (pc + 2) (n + 1) bc bs ls (.ref n :: st) (ab_hn h n) Q) : ab_W d k pc n (bc + 1) (bs + N) ls (.int x :: st) h Q := by
  intro p l e R s m args below meth c D cA base mcT msT H locs cells slots xx Z lsr C hxx h1 h2 w S L he
  obtain ⟨hx1, hb1, hr1, hml, hown, hts, hnw, hlk, hmn, hK, hR⟩ := id C
  obtain rfl : xx = 0 := hxx (by omega)
  have h192 : n < 192 := ab_sh_lt (by omega)
  have hS1 : H.size = base + n := by have := w.1.2; omega
  have g := fun H' w' S' he' => hk p l e R s m args below meth c D cA base mcT msT H' locs (cells + 1) (slots + N) 0 Z lsr C (fun _ => rfl) (by omega) (by omega) w' S' L he'
  refine va_newaK hx1 hb1 (atype := .int) (hts _ hw) rfl hd rfl hn hN (by show N * 4 ≤ 536870912; omega) (by have := hR.2.2.2.1; omega) (by have := hR.2.2.2.2; omega) hS1 fun H1 cA' e1 z1 o1 hAr hNm => ?_
  have hcA : cA' = cA := by
    have h3 := (hK.2 0 _ rfl).2
    exact Option.some.inj (hNm.symm.trans h3)
  subst hcA
  refine g H1 (w.new h192 (by omega) (fun q hq => o1 q (by omega)) ?_) (S.new (by omega) (by omega) (fun q hq => o1 q (by omega))) (fun r h' H' locs' cells' slots' pc' ls' q1 q2 => he r h' H' locs' cells' slots' pc' ls' q1 (by rw [show n + (bc + 1) = n + 1 + bc by omega]; exact q2))
  rw [ab_ce_a (by omega), hs, Nat.add_sub_cancel_left]
  show H1[base + n]? = some (vp_cell _ _)
  rw [e1, vp_cell_i]
  congr 2
  funext j
  simp [ab_hn, defaultValue, newarray.typeOf]
def ab_st1 (st : List Value) : Bool := decide ((st.map fun v => v.category).sum ≤ 8)
theorem ab_st1_ok {base : Nat} {st : List Value} (h : ab_st1 st = true) : ((st.map (ab_em base)).map fun v => v.category).sum ≤ 8 := by
  have e : (st.map (ab_em base)).map (fun v => v.category) = st.map fun v => v.category := by
    rw [List.map_map]
    exact List.map_congr_left (fun v _ => ab_em_cat)
  rw [e]
  exact of_decide_eq_true h
theorem ar_objInit {d k pc n bc bs : Nat} {ls : List (Option Value)} {st : List Value} {h : ab_H} {Q : Option Value → ab_H → Prop} {idx b : Nat} (hd : decode (ab_cod k) pc = .ok (.invokespecial idx, 3)) (hd1 : 1 ≤ d) (hst : ab_st1 st = true) (hw1 : Jvm.Cond.methodLink (ab_yn k).cls idx objectInit ∈ ab_Tg) (hw2 : Jvm.Cond.instanceMethod objectInit ∈ ab_Tg) (hw3 : Jvm.Cond.code objectInit ⟨#[0xb1]⟩ 1 none ∈ ab_Tg)
    (hk : ab_W d k (pc + 3) n bc bs ls st h Q) : ab_W d k pc n bc bs ls (.ref b :: st) h Q := by
  intro p l e R s m args below meth c D cA base mcT msT H locs cells slots xx Z lsr C hxx h1 h2 w S L he
  obtain ⟨hx1, hb1, hr1, hml, hown, hts, hnw, hlk, hmn, hK, hbs, hfr, hlo, hR⟩ := id C
  have g := hk p l e R s m args below meth c D cA base mcT msT H locs cells slots xx Z lsr C hxx h1 h2 w S L he
  refine W.objInit hx1 hb1 hown (hts _ hw1) (hts _ hw2) (hts _ hw3) rfl (by rw [hml]; exact L.1) rfl hd (by omega) ?_ g
  have h9 := ab_st1_ok (base := base) hst
  show 2 * 0 + _ + 12 ≤ _
  omega
theorem ar_raw {d k pc n bc bs : Nat} {ls : List (Option Value)} {st : List Value} {h : ab_H} {Q : Option Value → ab_H → Prop} {idx : Nat} {x : UInt32} (hd : decode (ab_cod k) pc = .ok (.invokestatic idx, 3)) (hd1 : 1 ≤ d) (hst : ab_st1 st = true) (hw1 : Jvm.Cond.methodLink (ab_yn k).cls idx ⟨"java/lang/Float", "floatToRawIntBits", "(F)I"⟩ ∈ ab_Tg) (hw2 : Jvm.Cond.native ⟨"java/lang/Float", "floatToRawIntBits", "(F)I"⟩ ∈ ab_Tg) (hw3 : Jvm.Cond.static ⟨"java/lang/Float", "floatToRawIntBits", "(F)I"⟩ ∈ ab_Tg) (hw4 : Jvm.Cond.initialized "java/lang/Float" ∈ ab_Tg)
    (hk : ab_W d k (pc + 3) n bc bs ls (.int x.toInt32 :: st) h Q) : ab_W d k pc n bc bs ls (.float x :: st) h Q := by
  intro p l e R s m args below meth c D cA base mcT msT H locs cells slots xx Z lsr C hxx h1 h2 w S L he
  obtain ⟨hx1, hb1, hr1, hml, hown, hts, hnw, hlk, hmn, hK, hbs, hfr, hlo, hR⟩ := id C
  have g := hk p l e R s m args below meth c D cA base mcT msT H locs cells slots xx Z lsr C hxx h1 h2 w S L he
  refine vn_f2i hx1 hb1 (by rw [hml]; exact L.1.symm) hown (hts _ hw1) (hts _ hw2) (hts _ hw3) (hts _ hw4) (by omega) ?_ hd g
  have h9 := ab_st1_ok (base := base) hst
  omega
theorem ab_yP_len : ab_yl.length = 131 := by decide +kernel
def ab_yck (y : Nat) : Bool := plainFor (ab_yn y) && (decide ((ab_yn y).cls ≠ "java/lang/invoke/MethodHandle") && (decide ((ab_yn y).cls ≠ "java/lang/invoke/VarHandle") && decide (ab_ml y ≤ 20)))
set_option maxRecDepth 100000 in
theorem ab_yck_ok : (List.range 131).all (fun y => decide (y < 2) || ab_yck y) = true := by decide +kernel
theorem ab_yok {y : Nat} (hy : 2 ≤ y ∧ y < 131) : Jvm.Cond.code (ab_yn y) (ab_cod y) (ab_ml y) (ab_rt y) ∈ ab_Tg ∧ plainFor (ab_yn y) = true ∧ (ab_yn y).cls ≠ "java/lang/invoke/MethodHandle" ∧ (ab_yn y).cls ≠ "java/lang/invoke/VarHandle" ∧ ab_ml y ≤ 20 := by
  have h := List.all_eq_true.mp ab_yck_ok y (List.mem_range.mpr hy.2)
  simp only [ab_yck, Bool.or_eq_true, Bool.and_eq_true, decide_eq_true_eq] at h
  rcases h with h | h
  · omega
  refine ⟨?_, h.1, h.2.1, h.2.2.1, h.2.2.2⟩
  have hl : y < ab_yl.length := by rw [ab_yP_len]; exact hy.2
  have h2 := ab_yq (ab_yl[y]) (List.getElem_mem hl)
  have h3 : ab_y y = ab_yl[y] := by unfold ab_y; rw [List.getD_eq_getElem?_getD, List.getElem?_eq_getElem hl]; rfl
  rw [← h3] at h2
  exact h2
/-- a contract by its body, for a method that no row of the natives stands for -/
theorem ab_ofW {l : Launch} {y : MethodName} {ws ws' : List Jvm.Cond} {rm : Room} {Pc : Array Value → State → Prop} {Qc : Array Value → State → Outcome → State → Prop} {mc ms : Nat} {free : Addr → Prop} {cc : ByteArray} {maxL : Nat} {ret : Option FieldType}
    (hy : plainFor y = true) (hw : ws = Jvm.Cond.code y cc maxL ret :: ws')
    (body : ∀ p e s m args below meth c s₁, BodyLoose p l y (headSpec ws rm) cc maxL ret e s m args below meth c s₁ → c.maxLocals = maxL → Pc args s →
      W p l e (headSpec ws rm).room s m args below meth c s.heap [] 0 0 (MQ below Qc args s mc ms free) (entryFrame m args maxL)) : Met l y ws rm Pc Qc mc ms free := by
  refine MetFree.of_bodySF (code := cc) (maxLocals := maxL) (ret := ret) hy ?_ ?_
  · intro args s m h hn
    obtain ⟨meth, c, h1, h2, h3, h4, h5, h6, -, -⟩ := Cond.code_spec hn (atoms_spec (ws := ws) h _ (by rw [hw]; exact List.mem_cons_self))
    exact ⟨meth, c, h1, h2, h3, h4, h5, h6⟩
  · intro p e s m args below meth c s₁ B hml hP _
    have hh0 : s₁.heap = s.heap := by rw [B.state]; rfl
    obtain ⟨t, a1, o, b1, b2, b3⟩ := body p e s m args below meth c s₁ B hml hP s₁ hh0 (Stand.of_body B)
    exact ⟨t, o, a1, b1, b2, ⟨b3.1, b3.2⟩⟩
abbrev ab_Pc (D : va_G) (cA : ClassId) (base n xx : Nat) (as : List Value) (h : ab_H) : Array Value → State → Prop := fun a U => a = (as.map (ab_em base)).toArray ∧ base ≤ U.heap.size ∧ ab_Wd D cA base n xx h U.heap ∧ va_K D vwCl [(cA, .int)] U ∧ ∀ w ∈ ab_nw, va_Nw w U
abbrev ab_Qc (D : va_G) (cA : ClassId) (base n xx : Nat) (Q : Option Value → ab_H → Prop) : Array Value → State → Outcome → State → Prop := fun _ st o t => ∃ (r : Option Value) (h' : ab_H), o = .returned (r.map (ab_em base)) ∧ Q r h' ∧ ab_Wd D cA base n xx h' t.heap ∧ ∀ q, q < st.heap.size → (q < base ∨ base + 192 ≤ q) → t.heap[q]? = st.heap[q]?
theorem ab_blind {D : va_G} {cA : ClassId} {base n xx : Nat} {as : List Value} {h : ab_H} : FrameBlind (ab_Pc D cA base n xx as h) := by
  intro a U g mk q
  obtain ⟨q1, q2, q3, q4, q5⟩ := q
  exact ⟨q1, q2, q3, va_K.moved (u := U) (U := U.calling g mk a) (Vm.Alike.refl U.vm) q4, fun w hw => va_Nw.same (ab_nw_tab hw) (rfl : U.vm = (U.calling g mk a).vm) (q5 w hw)⟩
theorem ab_back {d k pc n bc bs mc ms : Nat} {ls : List (Option Value)} {st : List Value} {h : ab_H} {Q Q' : Option Value → ab_H → Prop} {p : Program} {l : Launch} {e : Env} {R : Room} {s : State} {m : MethodId} {args : Array Value} {below : List Frame} {meth : Method} {c : Code} {D : va_G} {cA : ClassId} {base mcT msT : Nat} {H : Heap} {locs : List Loc} {cells slots xx : Nat} {Z : State → Prop} {lsr : Array Slot} {st0 : List Value} {a : Array Value}
    (C : ab_Cx d k p R s m args meth c D cA base mcT msT) (hxx : bc + mc ≠ 0 → xx = 0) (h1 : cells + (bc + mc) ≤ mcT) (h2 : slots + (bs + ms) ≤ msT) (w : ab_Wd D cA base n xx h H) (S : ab_S base s.heap H locs) (L : ab_Lv base (ab_lo k) lsr (ab_ml k) ls)
    (he : ∀ (r : Option Value) (h' : ab_H) (H' : Heap) (locs' : List Loc) (cells' slots' pc' : Nat) (ls' : Array Slot), Q r h' → ab_Wd D cA base (n + (bc + mc)) xx h' H' → ab_S base s.heap H' locs' → cells' ≤ mcT → slots' ≤ msT → ab_rI k pc' r →
      W p l e R s m args below meth c H' locs' cells' slots' Z (F0 m pc' ls' (r.toList.map (ab_em base))))
    (hr : va_Run p l e R s m args below meth c H locs cells slots mc ms (F0 m pc lsr st0) (st.map (ab_em base)) (ab_Qc D cA base (n + mc) xx Q' a) (ab_A base))
    (hk : ∀ r h', Q' r h' → ab_W d k (pc + 3) (n + mc) bc bs ls (r.toList ++ st) h' Q) : W p l e R s m args below meth c H locs cells slots Z (F0 m pc lsr st0) := by
  intro T hT X
  obtain ⟨v, s0, t, T', L', g0, X', hL, g1, g2, ⟨r, h', hv, hq, hw, ho⟩, g⟩ := hr T hT X
  have hv' : v = r.map (ab_em base) := by cases hv; rfl
  subst hv'
  have hz : T'.heap.size = base + (n + mc) + xx := by rw [g1]; exact hw.1.2
  have hz0 : H.size = base + n + xx := w.1.2
  have S' : ab_S base s.heap T'.heap (locs ++ L') := by
    refine ⟨Nat.le_trans S.1 (by omega), fun q e1 e2 => ?_, fun q hq => ?_⟩
    · have hqb : q < base ∨ base + 192 ≤ q := by
        rcases Nat.lt_or_ge q base with z | z
        · exact Or.inl z
        · rcases Nat.lt_or_ge q (base + 192) with z2 | z2
          · exact absurd ⟨z, z2⟩ e2
          · exact Or.inr z2
      rw [g1, ho q (by rw [g0]; exact Nat.lt_of_lt_of_le e1 S.1) hqb, g0]
      exact S.2.1 q e1 e2
    · rcases List.mem_append.mp hq with z | z
      · exact S.2.2 q z
      · exact hL q z
  have gg := hk r h' hq p l e R s m args below meth c D cA base mcT msT T'.heap (locs ++ L') (cells + mc) (slots + ms) xx Z lsr C (fun _ => hxx (by omega)) (by omega) (by omega) (by rw [g1]; exact hw) S' L
    (fun r2 h2' H' locs' cells' slots' pc' ls' q1 q2 => he r2 h2' H' locs' cells' slots' pc' ls' q1 (by rw [show n + (bc + mc) = n + mc + bc by omega]; exact q2))
  obtain ⟨t2, a1, b1⟩ := gg T' rfl X'
  refine ⟨t2, g t2 ?_, b1⟩
  have e : (r.toList ++ st).map (ab_em base) = (r.map (ab_em base)).toList ++ st.map (ab_em base) := by cases r <;> rfl
  rw [e] at a1
  exact a1
theorem ab_pc {d k n y : Nat} {p : Program} {R : Room} {s : State} {m : MethodId} {args : Array Value} {meth : Method} {c : Code} {D : va_G} {cA : ClassId} {base mcT msT xx : Nat} {H : Heap} {as : List Value} {h : ab_H}
    (C : ab_Cx d k p R s m args meth c D cA base mcT msT) (w : ab_Wd D cA base n xx h H) : ∀ U : State, U.heap = H → s.WarmedH U.vm → ab_Pc D cA base n xx as h (as.map (ab_em base)).toArray U := by
  intro U hU hW
  obtain ⟨hx1, hb1, hr1, hml, hown, hts, hnw, hlk, hmn, hK, hbs, hR⟩ := C
  refine ⟨rfl, by rw [hU, w.1.2]; omega, by rw [hU]; exact w, va_K.moved hW.alike hK, fun z hz => ab_nw_warm hW hz (hnw z hz)⟩
theorem ar_max {d k pc n bc bs : Nat} {ls : List (Option Value)} {st : List Value} {h : ab_H} {Q : Option Value → ab_H → Prop} {idx : Nat} {x y : Int32} (hd : decode (ab_cod k) pc = .ok (.invokestatic idx, 3)) (hd1 : 1 ≤ d) (hst : ab_st1 st = true) (hw1 : Jvm.Cond.methodLink (ab_yn k).cls idx Lib.Math.max.name ∈ ab_Tg) (hw2 : Jvm.Cond.static Lib.Math.max.name ∈ ab_Tg) (hw3 : Jvm.Cond.initialized "java/lang/Math" ∈ ab_Tg) (hw4 : Jvm.Cond.code Lib.Math.max.name Lib.Math.max.code 2 (some .int) ∈ ab_Tg)
    (hk : ab_W d k (pc + 3) n bc bs ls (.int (if x < y then y else x) :: st) h Q) : ab_W d k pc n bc bs ls (.int y :: .int x :: st) h Q := by
  intro p l e R s m args below meth c D cA base mcT msT H locs cells slots xx Z lsr C hxx h1 h2 w S L he
  obtain ⟨hx1, hb1, hr1, hml, hown, hts, hnw, hlk, hmn, hK, hbs, hfr, hlo, hR⟩ := id C
  have g := hk p l e R s m args below meth c D cA base mcT msT H locs cells slots xx Z lsr C hxx h1 h2 w S L he
  have h9 := ab_st1_ok (base := base) hst
  exact va_mmax hx1 hb1 (by rw [hml]; exact L.1.symm) hown (hts _ hw1) (hts _ hw2) (hts _ hw3) (hts _ hw4) (by omega) (by omega) (by omega) (by omega) hd g
theorem ar_min {d k pc n bc bs : Nat} {ls : List (Option Value)} {st : List Value} {h : ab_H} {Q : Option Value → ab_H → Prop} {idx : Nat} {x y : Int32} (hd : decode (ab_cod k) pc = .ok (.invokestatic idx, 3)) (hd1 : 1 ≤ d) (hst : ab_st1 st = true) (hw1 : Jvm.Cond.methodLink (ab_yn k).cls idx Lib.Math.min.name ∈ ab_Tg) (hw2 : Jvm.Cond.static Lib.Math.min.name ∈ ab_Tg) (hw3 : Jvm.Cond.initialized "java/lang/Math" ∈ ab_Tg) (hw4 : Jvm.Cond.code Lib.Math.min.name Lib.Math.min.code 2 (some .int) ∈ ab_Tg)
    (hk : ab_W d k (pc + 3) n bc bs ls (.int (if y < x then y else x) :: st) h Q) : ab_W d k pc n bc bs ls (.int y :: .int x :: st) h Q := by
  intro p l e R s m args below meth c D cA base mcT msT H locs cells slots xx Z lsr C hxx h1 h2 w S L he
  obtain ⟨hx1, hb1, hr1, hml, hown, hts, hnw, hlk, hmn, hK, hbs, hfr, hlo, hR⟩ := id C
  have g := hk p l e R s m args below meth c D cA base mcT msT H locs cells slots xx Z lsr C hxx h1 h2 w S L he
  have h9 := ab_st1_ok (base := base) hst
  exact va_mmin hx1 hb1 (by rw [hml]; exact L.1.symm) hown (hts _ hw1) (hts _ hw2) (hts _ hw3) (hts _ hw4) (by omega) (by omega) (by omega) (by omega) hd g
set_option maxHeartbeats 1000000 in
theorem ar_cV {d k pc n bc bs : Nat} {ls : List (Option Value)} {st : List Value} {h : ab_H} {Q : Option Value → ab_H → Prop} {y idx na : Nat} {as : List Value} {b ci : Nat} {Q2 : Option Value → ab_H → Prop} (hd : decode (ab_cod k) pc = .ok (.invokevirtual idx, 3)) (hy : 2 ≤ y ∧ y < 131) (hd1 : 1 ≤ d) (hst : ab_st1 st = true) (hw1 : Jvm.Cond.methodLink (ab_yn k).cls idx (ab_yn y) ∈ ab_Tg) (hw2 : Jvm.Cond.instanceMethod (ab_yn y) ∈ ab_Tg) (hw4 : Jvm.Cond.initialized (ab_yn y).cls ∈ ab_Tg) (hw3 : Jvm.Cond.selects (ab_yn y).cls (ab_yn y) (ab_yn y) ∈ ab_Tg) (hc : ci < 8) (hcn : ab_cn ci = (ab_yn y).cls) (hb : b < n) (hs : ab_sh b = ci) (hna : (parseMethodDescriptor (ab_yn y).desc).map (fun d => d.parameters.length) = some na) (hal : as.length = na) (hcall : ab_C (d - 1) y n (.ref b :: as) h Q2) (hk : ∀ r h', Q2 r h' → ab_W d k (pc + 3) (n + ab_mc y) bc bs ls (r.toList ++ st) h' Q) : ab_W d k pc n (bc + ab_mc y) (bs + ab_ms y) ls (as.reverse ++ .ref b :: st) h Q := by
  intro p l e R s m args below meth c D cA base mcT msT H locs cells slots xx Z lsr C hxx h1 h2 w S L he
  obtain ⟨hx1, hb1, hr1, hml, hown, hts, hnw, hlk, hmn, hK, hbs, hfr, hlo, hR⟩ := id C
  obtain ⟨y1, y2, y3, y4, y5⟩ := ab_yok hy
  have hM := hcall (d - 1) (Nat.le_refl _) l D cA base xx (fun _ => hxx (by omega))
  have hpc := ab_pc (y := y) (as := (.ref b :: as)) C w
  have cb := callB_of (R := R) (rm := { frames := d - 1, cells := ab_mc y, slots := ab_ms y, locals := 40 * (d - 1) }) na hts (ab_good y1) rfl rfl rfl (hts _ hw4) (hts _ hw1) ⟨y3, y4, hna⟩ ⟨by show d - 1 + 1 ≤ R.frames; omega, by show 8 + (ab_ml y + 11) + 40 * (d - 1) ≤ R.locals; omega⟩
  have hP := w.one hb
  rw [ab_ce_o hc hs] at hP
  have hrc := va_recv hK hP (q0 := 0) (ab_cl hc) rfl
  have hrc2 : ∃ cell : Cell, H[base + b]? = some cell ∧ cell.vm.isStatics = false ∧ s.vm.findClass (ab_yn y).cls = some cell.cls := by rw [← hcn]; exact hrc
  have est : (as.reverse ++ .ref b :: st).map (ab_em base) = (as.map (ab_em base)).reverse ++ .ref (base + b) :: st.map (ab_em base) := by simp [ab_em]
  refine ab_back (mc := ab_mc y) (ms := ab_ms y) C hxx h1 h2 w S L he (va_runV (C := (ab_yn y).cls) (As := as.map (ab_em base)) (rest := st.map (ab_em base)) ⟨hx1, hb1, hml, hown, hts⟩ hM ⟨cb, hts _ hw2, hts _ hw3⟩ ⟨ab_blind, hrc2, hpc⟩ rfl (by rw [List.length_map]; exact hal) L.1 est (lv_room (ab_st1_ok hst)) hd ⟨by omega, by omega⟩) hk
set_option maxHeartbeats 1000000 in
theorem ar_cS {d k pc n bc bs : Nat} {ls : List (Option Value)} {st : List Value} {h : ab_H} {Q : Option Value → ab_H → Prop} {y idx na : Nat} {as : List Value} {Q2 : Option Value → ab_H → Prop} (hd : decode (ab_cod k) pc = .ok (.invokestatic idx, 3)) (hy : 2 ≤ y ∧ y < 131) (hd1 : 1 ≤ d) (hst : ab_st1 st = true) (hw1 : Jvm.Cond.methodLink (ab_yn k).cls idx (ab_yn y) ∈ ab_Tg) (hw2 : Jvm.Cond.static (ab_yn y) ∈ ab_Tg) (hw4 : Jvm.Cond.initialized (ab_yn y).cls ∈ ab_Tg) (hna : (parseMethodDescriptor (ab_yn y).desc).map (fun d => d.parameters.length) = some na) (hal : as.length = na) (hcall : ab_C (d - 1) y n as h Q2) (hk : ∀ r h', Q2 r h' → ab_W d k (pc + 3) (n + ab_mc y) bc bs ls (r.toList ++ st) h' Q) : ab_W d k pc n (bc + ab_mc y) (bs + ab_ms y) ls (as.reverse ++ st) h Q := by
  intro p l e R s m args below meth c D cA base mcT msT H locs cells slots xx Z lsr C hxx h1 h2 w S L he
  obtain ⟨hx1, hb1, hr1, hml, hown, hts, hnw, hlk, hmn, hK, hbs, hfr, hlo, hR⟩ := id C
  obtain ⟨y1, y2, y3, y4, y5⟩ := ab_yok hy
  have hM := hcall (d - 1) (Nat.le_refl _) l D cA base xx (fun _ => hxx (by omega))
  have hpc := ab_pc (y := y) (as := as) C w
  have cb := callB_of (R := R) (rm := { frames := d - 1, cells := ab_mc y, slots := ab_ms y, locals := 40 * (d - 1) }) na hts (ab_good y1) rfl rfl rfl (hts _ hw4) (hts _ hw1) ⟨y3, y4, hna⟩ ⟨by show d - 1 + 1 ≤ R.frames; omega, by show 8 + (ab_ml y + 11) + 40 * (d - 1) ≤ R.locals; omega⟩
  have est : (as.reverse ++ st).map (ab_em base) = (as.map (ab_em base)).reverse ++ st.map (ab_em base) := by simp [ab_em]
  refine ab_back (mc := ab_mc y) (ms := ab_ms y) C hxx h1 h2 w S L he (va_runS (As := as.map (ab_em base)) (rest := st.map (ab_em base)) ⟨hx1, hb1, hml, hown, hts⟩ hM ⟨cb, hts _ hw2⟩ ⟨ab_blind, hpc⟩ rfl (by rw [List.length_map]; exact hal) L.1 est (lv_room (ab_st1_ok hst)) hd ⟨by omega, by omega⟩) hk
set_option maxHeartbeats 1000000 in
theorem ar_cSN {d k pc n bc bs : Nat} {ls : List (Option Value)} {st : List Value} {h : ab_H} {Q : Option Value → ab_H → Prop} {y idx na : Nat} {as : List Value} {Q2 : Option Value → ab_H → Prop} (hd : decode (ab_cod k) pc = .ok (.invokestatic idx, 3)) (hy : 2 ≤ y ∧ y < 131) (hd1 : 1 ≤ d) (hst : ab_st1 st = true) {host : String} (hw1 : Jvm.Cond.methodLinkNest (ab_yn k).cls idx (ab_yn y) host ∈ ab_nw) (hw2 : Jvm.Cond.static (ab_yn y) ∈ ab_Tg) (hw4 : Jvm.Cond.initialized (ab_yn y).cls ∈ ab_Tg) (hna : (parseMethodDescriptor (ab_yn y).desc).map (fun d => d.parameters.length) = some na) (hal : as.length = na) (hcall : ab_C (d - 1) y n as h Q2) (hk : ∀ r h', Q2 r h' → ab_W d k (pc + 3) (n + ab_mc y) bc bs ls (r.toList ++ st) h' Q) : ab_W d k pc n (bc + ab_mc y) (bs + ab_ms y) ls (as.reverse ++ st) h Q := by
  intro p l e R s m args below meth c D cA base mcT msT H locs cells slots xx Z lsr C hxx h1 h2 w S L he
  obtain ⟨hx1, hb1, hr1, hml, hown, hts, hnw, hlk, hmn, hK, hbs, hfr, hlo, hR⟩ := id C
  obtain ⟨y1, y2, y3, y4, y5⟩ := ab_yok hy
  have hM := hcall (d - 1) (Nat.le_refl _) l D cA base xx (fun _ => hxx (by omega))
  have hpc := ab_pc (y := y) (as := as) C w
  have cb := va_cnB (R := R) (rm := { frames := d - 1, cells := ab_mc y, slots := ab_ms y, locals := 40 * (d - 1) }) na hts (ab_good y1) rfl rfl rfl (hnw _ hw1) (hts _ hw4) ⟨y3, y4, hna⟩ ⟨by show d - 1 + 1 ≤ R.frames; omega, by show 8 + (ab_ml y + 11) + 40 * (d - 1) ≤ R.locals; omega⟩
  have est : (as.reverse ++ st).map (ab_em base) = (as.map (ab_em base)).reverse ++ st.map (ab_em base) := by simp [ab_em]
  refine ab_back (mc := ab_mc y) (ms := ab_ms y) C hxx h1 h2 w S L he (va_runSN (As := as.map (ab_em base)) (rest := st.map (ab_em base)) ⟨hx1, hb1, hml, hown, hts⟩ hM ⟨cb, hts _ hw2, trivial⟩ ⟨ab_blind, hpc⟩ rfl (by rw [List.length_map]; exact hal) L.1 est (lv_room (ab_st1_ok hst)) hd ⟨by omega, by omega⟩) hk
set_option maxHeartbeats 1000000 in
theorem ar_cI {d k pc n bc bs : Nat} {ls : List (Option Value)} {st : List Value} {h : ab_H} {Q : Option Value → ab_H → Prop} {y idx na : Nat} {as : List Value} {b : Nat} {Q2 : Option Value → ab_H → Prop} (hd : decode (ab_cod k) pc = .ok (.invokespecial idx, 3)) (hy : 2 ≤ y ∧ y < 131) (hd1 : 1 ≤ d) (hst : ab_st1 st = true) (hw1 : Jvm.Cond.methodLink (ab_yn k).cls idx (ab_yn y) ∈ ab_Tg) (hw2 : Jvm.Cond.instanceMethod (ab_yn y) ∈ ab_Tg) (hw4 : Jvm.Cond.initialized (ab_yn y).cls ∈ ab_Tg) (hin : (ab_yn y).name = "<init>") (hrt : ab_rt y = none) (hna : (parseMethodDescriptor (ab_yn y).desc).map (fun d => d.parameters.length) = some na) (hal : as.length = na) (hcall : ab_C (d - 1) y n (.ref b :: as) h Q2) (hk : ∀ r h', Q2 r h' → ab_W d k (pc + 3) (n + ab_mc y) bc bs ls (r.toList ++ st) h' Q) : ab_W d k pc n (bc + ab_mc y) (bs + ab_ms y) ls (as.reverse ++ .ref b :: st) h Q := by
  intro p l e R s m args below meth c D cA base mcT msT H locs cells slots xx Z lsr C hxx h1 h2 w S L he
  obtain ⟨hx1, hb1, hr1, hml, hown, hts, hnw, hlk, hmn, hK, hbs, hfr, hlo, hR⟩ := id C
  obtain ⟨y1, y2, y3, y4, y5⟩ := ab_yok hy
  have hM := hcall (d - 1) (Nat.le_refl _) l D cA base xx (fun _ => hxx (by omega))
  have hpc := ab_pc (y := y) (as := (.ref b :: as)) C w
  rw [hrt] at hM y1
  have cb := callB_of (R := R) (rm := { frames := d - 1, cells := ab_mc y, slots := ab_ms y, locals := 40 * (d - 1) }) na hts (ab_good y1) rfl rfl rfl (hts _ hw4) (hts _ hw1) ⟨y3, y4, hna⟩ ⟨by show d - 1 + 1 ≤ R.frames; omega, by show 8 + (ab_ml y + 11) + 40 * (d - 1) ≤ R.locals; omega⟩
  have est : (as.reverse ++ .ref b :: st).map (ab_em base) = (as.map (ab_em base)).reverse ++ .ref (base + b) :: st.map (ab_em base) := by simp [ab_em]
  refine ab_back (mc := ab_mc y) (ms := ab_ms y) C hxx h1 h2 w S L he (va_runI (As := as.map (ab_em base)) (rest := st.map (ab_em base)) ⟨hx1, hb1, hml, hown, hts⟩ hM ⟨cb, hin, hts _ hw2⟩ ⟨ab_blind, hpc⟩ rfl (by rw [List.length_map]; exact hal) L.1 est (lv_room (ab_st1_ok hst)) hd ⟨by omega, by omega⟩) hk
set_option maxHeartbeats 1000000 in
theorem ar_cIN {d k pc n bc bs : Nat} {ls : List (Option Value)} {st : List Value} {h : ab_H} {Q : Option Value → ab_H → Prop} {y idx na : Nat} {as : List Value} {b : Nat} {Q2 : Option Value → ab_H → Prop} (hd : decode (ab_cod k) pc = .ok (.invokespecial idx, 3)) (hy : 2 ≤ y ∧ y < 131) (hd1 : 1 ≤ d) (hst : ab_st1 st = true) {host : String} (hw1 : Jvm.Cond.methodLinkNest (ab_yn k).cls idx (ab_yn y) host ∈ ab_nw) (hw2 : Jvm.Cond.instanceMethod (ab_yn y) ∈ ab_Tg) (hw4 : Jvm.Cond.initialized (ab_yn y).cls ∈ ab_Tg) (hin : (ab_yn y).name = "<init>") (hrt : ab_rt y = none) (hna : (parseMethodDescriptor (ab_yn y).desc).map (fun d => d.parameters.length) = some na) (hal : as.length = na) (hcall : ab_C (d - 1) y n (.ref b :: as) h Q2) (hk : ∀ r h', Q2 r h' → ab_W d k (pc + 3) (n + ab_mc y) bc bs ls (r.toList ++ st) h' Q) : ab_W d k pc n (bc + ab_mc y) (bs + ab_ms y) ls (as.reverse ++ .ref b :: st) h Q := by
  intro p l e R s m args below meth c D cA base mcT msT H locs cells slots xx Z lsr C hxx h1 h2 w S L he
  obtain ⟨hx1, hb1, hr1, hml, hown, hts, hnw, hlk, hmn, hK, hbs, hfr, hlo, hR⟩ := id C
  obtain ⟨y1, y2, y3, y4, y5⟩ := ab_yok hy
  have hM := hcall (d - 1) (Nat.le_refl _) l D cA base xx (fun _ => hxx (by omega))
  have hpc := ab_pc (y := y) (as := (.ref b :: as)) C w
  rw [hrt] at hM y1
  have cb := va_cnB (R := R) (rm := { frames := d - 1, cells := ab_mc y, slots := ab_ms y, locals := 40 * (d - 1) }) na hts (ab_good y1) rfl rfl rfl (hnw _ hw1) (hts _ hw4) ⟨y3, y4, hna⟩ ⟨by show d - 1 + 1 ≤ R.frames; omega, by show 8 + (ab_ml y + 11) + 40 * (d - 1) ≤ R.locals; omega⟩
  have est : (as.reverse ++ .ref b :: st).map (ab_em base) = (as.map (ab_em base)).reverse ++ .ref (base + b) :: st.map (ab_em base) := by simp [ab_em]
  refine ab_back (mc := ab_mc y) (ms := ab_ms y) C hxx h1 h2 w S L he (va_runIN (As := as.map (ab_em base)) (rest := st.map (ab_em base)) ⟨hx1, hb1, hml, hown, hts⟩ hM ⟨cb, hin, hts _ hw2⟩ ⟨ab_blind, hpc⟩ rfl (by rw [List.length_map]; exact hal) L.1 est (lv_room (ab_st1_ok hst)) hd ⟨by omega, by omega⟩) hk
-- a contract out of a walk
theorem ab_args : ∀ (as : List Value) (base i j N : Nat) (v : Value), (∀ u ∈ as, u.category = 1) → ab_lg (as.map some ++ List.replicate N none) i = some v → v.category = 1 ∧ (j + i, ab_em base v) ∈ lv_args j (as.map (ab_em base))
  | [], base, i, j, N, v, hc, h => by
    exfalso
    have : ∀ (N i : Nat), ab_lg (List.replicate N none) i = none := by
      intro N
      induction N with
      | zero => intro i; cases i <;> rfl
      | succ N ih => intro i; cases i with
        | zero => rfl
        | succ i => exact ih i
    rw [List.map_nil, List.nil_append, this] at h
    cases h
  | a :: as, base, 0, j, N, v, hc, h => by
    cases h
    exact ⟨hc _ List.mem_cons_self, List.mem_cons_self⟩
  | a :: as, base, i + 1, j, N, v, hc, h => by
    have ha : (ab_em base a).category = 1 := by rw [ab_em_cat]; exact hc a List.mem_cons_self
    obtain ⟨h1, h2⟩ := ab_args as base i (j + 1) N v (fun u hu => hc u (List.mem_cons_of_mem _ hu)) h
    refine ⟨h1, ?_⟩
    show _ ∈ (j, ab_em base a) :: lv_args (if (ab_em base a).category = 2 then j + 2 else j + 1) (as.map (ab_em base))
    rw [if_neg (by omega), show j + (i + 1) = j + 1 + i by omega]
    exact List.mem_cons_of_mem _ h2
theorem ab_slen : ∀ (vs : List Value), (∀ v ∈ vs, v.category = 1) → (lg_sl vs).length = vs.length
  | [], _ => rfl
  | v :: vs, hc => by
    have h1 := ab_slen vs (fun u hu => hc u (List.mem_cons_of_mem _ hu))
    have h2 := hc v List.mem_cons_self
    simp only [lg_sl, List.flatMap_cons] at h1 ⊢
    rw [List.length_append, h1, if_neg (by omega)]
    simp
    omega
def ab_al (k : Nat) (as : List Value) : List (Option Value) := as.map some ++ List.replicate (ab_ml k - as.length) none
/-- a contract out of a walk from the entry; ls: the locals as the arguments make them -/
theorem ab_ofL {d y n : Nat} {as : List Value} {ls : List (Option Value)} {h : ab_H} {Q : Option Value → ab_H → Prop} (hy : 2 ≤ y ∧ y < 131) (hlen : ∀ base, (lg_sl (as.map (ab_em base))).length ≤ ab_ml y) (hLv : ∀ base lsr, lv_has lsr (ab_ml y) (lv_args 0 (as.map (ab_em base))) → ab_Lv base (ab_lo y) lsr (ab_ml y) ls) (hw : ab_W d y 0 n (ab_mc y) (ab_ms y) ls [] h Q) : ab_C d y n as h Q := by
  intro d' hd' l D cA base xx hxx
  obtain ⟨y1, y2, y3, y4, y5⟩ := ab_yok hy
  refine ab_ofW (cc := ab_cod y) (maxL := ab_ml y) (ret := ab_rt y) y2 rfl ?_
  intro p e s m args below meth c s₁ B hml hv
  obtain ⟨rfl, hbs, hwd, hK, hnw⟩ := hv
  have hts : ∀ w ∈ ab_Tg, w.before (as.map (ab_em base)).toArray s = true := fun w hw => atoms_spec (ws := .code (ab_yn y) (ab_cod y) (ab_ml y) (ab_rt y) :: ab_Tg) B.pre w (List.mem_cons_of_mem _ hw)
  have C : ab_Cx d y p { frames := d', cells := ab_mc y, slots := ab_ms y, locals := 40 * d' } s m (as.map (ab_em base)).toArray meth c D cA base (ab_mc y) (ab_ms y) :=
    ⟨B.exec, B.bytes, B.returns, hml, findClass_of_methodNamed B.named, hts, hnw, B.notSynchronized, (name_of_methodNamed B.named B.method).1, hK, trivial, hd', Nat.mul_le_mul_left _ hd', Nat.le_refl _, Nat.le_refl _⟩
  have hlv := lv_entry (as.map (ab_em base)) (hlen base)
  rw [lg_entry_eq]
  have L := hLv base _ hlv
  refine hw p l e { frames := d', cells := ab_mc y, slots := ab_ms y, locals := 40 * d' } s m (as.map (ab_em base)).toArray below meth c D cA base (ab_mc y) (ab_ms y) s.heap [] 0 0 xx _ _ C hxx (by omega) (by omega) hwd va_S.rf L ?_
  intro r h' H' locs' cells' slots' pc' ls' hq w' S' hcs hss hr
  refine W.widen (k := ab_mc y) (n := ab_ms y) hcs hss ?_
  have hpost : ∀ t : State, t.heap = H' → ab_Qc D cA base (n + ab_mc y) xx Q (as.map (ab_em base)).toArray s (.returned (r.map (ab_em base))) t := by
    intro t ht
    refine ⟨r, h', rfl, hq, by rw [ht]; exact w', fun q hq1 hq2 => ?_⟩
    rw [ht]
    exact S'.2.1 q hq1 (fun hA => by have h3 := hA.1; have h4 := hA.2; omega)
  cases r with
  | none => exact W.vret B.exec B.bytes (B.returns.trans hr.2) (fun t ht _ => hpost t ht) S'.2.2 hr.1 (hlocks := B.notSynchronized)
  | some v =>
    cases v with
    | int x =>
      obtain ⟨g1, ty, g2, g3⟩ := hr
      exact W.zret (v := x) B.exec B.bytes (B.returns.trans g2) g3 (fun t ht _ => hpost t ht) S'.2.2 g1 (hlocks := B.notSynchronized)
    | ref a =>
      obtain ⟨g1, ⟨CC, g2⟩, g3⟩ := hr
      exact W.aret (v := .ref (base + a)) B.exec B.bytes (B.returns.trans g2) (Or.inl ⟨CC, rfl⟩) (Or.inr ⟨_, rfl⟩) (fun t ht _ => hpost t ht) S'.2.2 g1 (hlocks := B.notSynchronized)
    | null =>
      obtain ⟨g1, ⟨CC, g2⟩, g3⟩ := hr
      exact W.aret (v := .null) B.exec B.bytes (B.returns.trans g2) (Or.inl ⟨CC, rfl⟩) (Or.inl rfl) (fun t ht _ => hpost t ht) S'.2.2 g1 (hlocks := B.notSynchronized)
    | long x => exact W.lret (v := x) B.exec B.bytes (B.returns.trans hr.2) (fun t ht _ => hpost t ht) S'.2.2 hr.1 (hlocks := B.notSynchronized)
    | float x => obtain ⟨-, -, g3⟩ := hr; rcases g3 with g3 | ⟨_, g3⟩ <;> cases g3
    | double x => obtain ⟨-, -, g3⟩ := hr; rcases g3 with g3 | ⟨_, g3⟩ <;> cases g3
    | retAddr x => obtain ⟨-, -, g3⟩ := hr; rcases g3 with g3 | ⟨_, g3⟩ <;> cases g3
theorem ab_of {d y n : Nat} {as : List Value} {h : ab_H} {Q : Option Value → ab_H → Prop} (hy : 2 ≤ y ∧ y < 131) (hc : ∀ v ∈ as, v.category = 1) (hl : as.length ≤ ab_ml y) (hw : ab_W d y 0 n (ab_mc y) (ab_ms y) (ab_al y as) [] h Q) : ab_C d y n as h Q := by
  have hc' : ∀ base, ∀ v ∈ as.map (ab_em base), v.category = 1 := by
    intro base v hv
    obtain ⟨u, hu, rfl⟩ := List.mem_map.mp hv
    rw [ab_em_cat]; exact hc u hu
  refine ab_ofL hy (fun base => by rw [ab_slen _ (hc' base), List.length_map]; exact hl) (fun base lsr hlv => ?_) hw
  refine ⟨hlv.1, hlv.2.1, fun i v hi => ?_⟩
  obtain ⟨e1, e2⟩ := ab_args as base i 0 _ v hc hi
  rw [Nat.zero_add] at e2
  exact ⟨Or.inl e1, hlv.2.2 _ e2⟩
