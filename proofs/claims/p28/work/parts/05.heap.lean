/-! ===== RULES of the heap ===== -/
def ab_lay9 : Bool := (List.range 8).all (fun ci => (u_ws (ab_cn ci) (ab_tx ci) (ab_nf ci)).all (fun w => decide (w ∈ lw_tbl) && goodWord w))
set_option maxRecDepth 100000 in
theorem ab_lay9_ok : ab_lay9 = true := by decide +kernel
theorem ab_lays {ci : Nat} (hc : ci < 8) : ∀ w ∈ u_ws (ab_cn ci) (ab_tx ci) (ab_nf ci), w ∈ ab_Tg := by
  intro w hw
  have h1 := List.all_eq_true.mp (List.all_eq_true.mp ab_lay9_ok ci (List.mem_range.mpr hc)) w hw
  simp only [Bool.and_eq_true, decide_eq_true_eq] at h1
  exact List.mem_filter.mpr h1
theorem ab_cl {ci : Nat} (hc : ci < 8) : vwCl[ci]? = some (ab_cn ci, ab_tx ci, ab_nf ci) := by
  match ci, hc with
  | 0, _ => rfl
  | 1, _ => rfl
  | 2, _ => rfl
  | 3, _ => rfl
  | 4, _ => rfl
  | 5, _ => rfl
  | 6, _ => rfl
  | 7, _ => rfl
theorem ab_tyo {ci : Nat} (hc : ci < 8) : ∀ k, k < ab_nf ci → parseFieldDescriptor (ab_tx ci k).2.2.1 = some (ab_ty ci k) := by
  match ci, hc with
  | 0, _ => exact tyX0_ok
  | 1, _ => exact tyX1_ok
  | 2, _ => exact tyX2_ok
  | 3, _ => exact tyX3_ok
  | 4, _ => exact tyX4_ok
  | 5, _ => exact tyX5_ok
  | 6, _ => exact tyX6_ok
  | 7, _ => exact tyX7_ok
theorem ab_nmo {ci : Nat} (hc : ci < 8) : ∀ a, a < ab_nf ci → ∀ b, b < ab_nf ci → a ≠ b → (ab_tx ci a).2.1 ≠ (ab_tx ci b).2.1 := by
  match ci, hc with
  | 0, _ => exact nmX0
  | 1, _ => exact nmX1
  | 2, _ => exact nmX2
  | 3, _ => exact nmX3
  | 4, _ => exact nmX4
  | 5, _ => exact nmX5
  | 6, _ => exact nmX6
  | 7, _ => exact nmX7
theorem ab_ce_o {cA : ClassId} {base b ci : Nat} {h : ab_H} (hc : ci < 8) (hs : ab_sh b = ci) : ab_ce cA base h b = .inr (ci, ab_ob base h b ci) := by
  unfold ab_ce
  rw [hs, if_neg (by omega)]
theorem ab_ce_a {cA : ClassId} {base b : Nat} {h : ab_H} (hs : 100 ≤ ab_sh b) : ab_ce cA base h b = .inl (cA, ab_sh b - 100, .inl (h.1 b)) := by
  unfold ab_ce
  rw [if_pos hs]
theorem ab_ob_at {base b ci f : Nat} {h : ab_H} (hf : f < ab_nf ci) : (ab_ob base h b ci)[f]? = some (ab_fv base h b ci f) := by
  unfold ab_ob
  rw [List.getElem?_map, List.getElem?_range hf]
  rfl
theorem ab_ob_len {base b ci : Nat} {h : ab_H} : (ab_ob base h b ci).length = ab_nf ci := by simp [ab_ob]
/-- one cell of the world as a small world -/
theorem ab_Wd.one {D : va_G} {cA : ClassId} {base n xx b : Nat} {h : ab_H} {H : Heap} (w : ab_Wd D cA base n xx h H) (hb : b < n) : va_P D vwCl [(base + b, ab_ce cA base h b)] H := by
  intro k q hq
  have hk : k < 1 := (List.getElem?_eq_some_iff.mp hq).1
  rw [show k = 0 by omega] at hq
  cases hq
  exact w.2 b hb
def ab_lk (k idx : Nat) (T : String × String × String × Bool) : Prop := Jvm.Cond.fieldLink (ab_yn k).cls idx T.1 T.2.1 T.2.2.1 ∈ ab_Tg ∨ ∃ host, Jvm.Cond.fieldLinkNest (ab_yn k).cls idx T.1 T.2.1 T.2.2.1 host ∈ ab_nw
theorem ar_get {d k pc n bc bs : Nat} {ls : List (Option Value)} {st : List Value} {h : ab_H} {Q : Option Value → ab_H → Prop} {ci f idx b : Nat} {v : Value} (hd : decode (ab_cod k) pc = .ok (.getfield idx, 3)) (hc : ci < 8) (hf : f < ab_nf ci) (hb : b < n) (hs : ab_sh b = ci)
    (hl : ab_lk k idx (ab_tx ci f)) (hv : ∀ base, ab_fv base h b ci f = ab_em base v) (hk : ab_W d k (pc + 3) n bc bs ls (v :: st) h Q) : ab_W d k pc n bc bs ls (.ref b :: st) h Q := by
  intro p l e R s m args below meth c D cA base mcT msT H locs cells slots xx Z lsr C hxx h1 h2 w S L he
  have hP := w.one hb
  rw [ab_ce_o hc hs] at hP
  have g := hk p l e R s m args below meth c D cA base mcT msT H locs cells slots xx Z lsr C hxx h1 h2 w S L he
  rcases hl with hl | ⟨host, hl⟩
  · exact va_get C.1 C.2.1 C.2.2.2.2.2.1 (ab_lays hc) C.2.2.2.2.1 C.2.2.2.2.2.2.2.2.2.1 hP 0 rfl (ab_cl hc) f hf (C.2.2.2.2.2.1 _ hl) (fun _ h9 => h9) (by rw [ab_ob_at hf, hv]) hd g
  · exact va_getN C.1 C.2.1 C.2.2.2.2.2.1 (ab_lays hc) C.2.2.2.2.1 C.2.2.2.2.2.2.2.2.2.1 hP 0 rfl (ab_cl hc) f hf (va_Nw.use rfl (C.2.2.2.2.2.2.1 _ hl)) (fun _ h9 => h9) (by rw [ab_ob_at hf, hv]) hd g
/-- the cells of a heap that differs at one cell -/
theorem ab_Wd.put {D : va_G} {cA : ClassId} {base n xx b : Nat} {h h' : ab_H} {H H' : Heap} (w : ab_Wd D cA base n xx h H) (z : H'.size = H.size) (o : ∀ q : Nat, q ≠ base + b → H'[q]? = H[q]?) (hx : ∀ k, k ≠ b → ab_ce cA base h' k = ab_ce cA base h k) (hb : va_at D vwCl (base + b, ab_ce cA base h' b) H') : ab_Wd D cA base n xx h' H' := by
  refine ⟨⟨w.1.1, z.trans w.1.2⟩, fun k hk => ?_⟩
  by_cases hkb : k = b
  · subst hkb; exact hb
  · rw [hx k hkb]
    exact (w.2 k hk).kept (o _ (by show base + k ≠ base + b; omega))
theorem ab_ce_hi {cA : ClassId} {base b i k : Nat} {h : ab_H} {v : Int32} (hk : k ≠ b) : ab_ce cA base (ab_hi h b i v) k = ab_ce cA base h k := by
  have e1 : (ab_hi h b i v).1 k = h.1 k := by funext j; simp [ab_hi, hk]
  have e2 : (ab_hi h b i v).2 k = h.2 k := rfl
  have e3 : ∀ ci, ab_ob base (ab_hi h b i v) k ci = ab_ob base h k ci := by
    intro ci
    unfold ab_ob
    congr 1
    funext f
    unfold ab_fv
    rw [e1, e2]
  unfold ab_ce
  rw [e1, e3]
theorem ab_ce_hr {cA : ClassId} {base b i k r : Nat} {h : ab_H} (hk : k ≠ b) : ab_ce cA base (ab_hr h b i r) k = ab_ce cA base h k := by
  have e1 : (ab_hr h b i r).1 k = h.1 k := rfl
  have e2 : (ab_hr h b i r).2 k = h.2 k := by funext j; simp [ab_hr, hk]
  have e3 : ∀ ci, ab_ob base (ab_hr h b i r) k ci = ab_ob base h k ci := by
    intro ci
    unfold ab_ob
    congr 1
    funext f
    unfold ab_fv
    rw [e1, e2]
  unfold ab_ce
  rw [e1, e3]
theorem ab_ob_hi {base b ci f : Nat} {h : ab_H} {x : Int32} (hf : f < ab_nf ci) (hk : ab_fk ci f ≠ 1) : ab_ob base (ab_hi h b f x) b ci = (ab_ob base h b ci).set f (.int x) := by
  apply List.ext_getElem?
  intro j
  by_cases hj : j < ab_nf ci
  · rw [ab_ob_at hj]
    by_cases hjf : j = f
    · subst hjf
      rw [List.getElem?_set_self (by rw [ab_ob_len]; exact hf)]
      simp [ab_fv, hk, ab_hi]
    · rw [List.getElem?_set_ne (Ne.symm hjf), ab_ob_at hj]
      unfold ab_fv
      rw [show (ab_hi h b f x).1 b j = h.1 b j from by simp [ab_hi, hjf], show (ab_hi h b f x).2 b j = h.2 b j from rfl]
  · rw [List.getElem?_eq_none (by rw [ab_ob_len]; omega), List.getElem?_eq_none (by rw [List.length_set, ab_ob_len]; omega)]
theorem ab_ob_hr {base b ci f r : Nat} {h : ab_H} (hf : f < ab_nf ci) (hk : ab_fk ci f = 1) (hr : r ≠ ab_nul) : ab_ob base (ab_hr h b f r) b ci = (ab_ob base h b ci).set f (.ref (base + r)) := by
  apply List.ext_getElem?
  intro j
  by_cases hj : j < ab_nf ci
  · rw [ab_ob_at hj]
    by_cases hjf : j = f
    · subst hjf
      rw [List.getElem?_set_self (by rw [ab_ob_len]; exact hf)]
      simp [ab_fv, hk, ab_hr, hr]
    · rw [List.getElem?_set_ne (Ne.symm hjf), ab_ob_at hj]
      unfold ab_fv
      rw [show (ab_hr h b f r).1 b j = h.1 b j from rfl, show (ab_hr h b f r).2 b j = h.2 b j from by simp [ab_hr, hjf]]
  · rw [List.getElem?_eq_none (by rw [ab_ob_len]; omega), List.getElem?_eq_none (by rw [List.length_set, ab_ob_len]; omega)]
theorem ab_S.put {base b f : Nat} {H0 H H' : Heap} {locs : List Loc} (S : ab_S base H0 H locs) (hb : b < 192) (z : H'.size = H.size) (o : ∀ q : Nat, q ≠ base + b → H'[q]? = H[q]?) : ab_S base H0 H' (locs ++ [⟨base + b, f⟩]) := va_S.put S z o ⟨Nat.le_add_right _ _, by omega⟩
/-- putfield: the value as the machine has it is x, in the abstract heap h' -/
theorem ar_put {d k pc n bc bs : Nat} {ls : List (Option Value)} {st : List Value} {h h' : ab_H} {Q : Option Value → ab_H → Prop} {ci f idx b : Nat} {v : Value} (hd : decode (ab_cod k) pc = .ok (.putfield idx, 3)) (hc : ci < 8) (hf : f < ab_nf ci) (hb : b < n) (hs : ab_sh b = ci)
    (hl : ab_lk k idx (ab_tx ci f)) (hfi : (ab_tx ci f).2.2.2 = false ∨ ((ab_tx ci f).2.2.2 = true ∧ (ab_yn k).name = "<init>" ∧ (ab_tx ci f).1 = (ab_yn k).cls ∧ Jvm.Cond.fieldLink (ab_yn k).cls idx (ab_tx ci f).1 (ab_tx ci f).2.1 (ab_tx ci f).2.2.1 ∈ ab_Tg))
    (hn : ∀ base, narrow (ab_ty ci f) (ab_em base v) = ab_em base v) (hfit : ∀ base, fits (ab_ty ci f) (ab_em base v) = true)
    (ho : ∀ base, ab_ob base h' b ci = (ab_ob base h b ci).set f (ab_em base v)) (hx : ∀ cA base k, k ≠ b → ab_ce cA base h' k = ab_ce cA base h k)
    (hk : ab_W d k (pc + 3) n bc bs ls st h' Q) : ab_W d k pc n bc bs ls (v :: .ref b :: st) h Q := by
  intro p l e R s m args below meth c D cA base mcT msT H locs cells slots xx Z lsr C hxx h1 h2 w S L he
  obtain ⟨hx1, hb1, hr1, hml, hown, hts, hnw, hlk, hmn, hK, hR⟩ := id C
  have hP0 := w.2 b hb
  have g := fun H' locs' w' S' => hk p l e R s m args below meth c D cA base mcT msT H' locs' cells slots xx Z lsr C hxx h1 h2 w' S' L he
  rw [ab_ce_o hc hs] at hP0
  obtain ⟨r, h3, cell, q1, q2, q3, q4⟩ := hP0
  have hap := va_apart (own := (ab_yn k).cls) hts (ab_lays hc) (ab_ty ci) (ab_tyo hc) (ab_nmo hc) hK (ab_cl hc)
  have hr : r = (ab_cn ci, ab_tx ci, ab_nf ci) := Option.some.inj (h3.symm.trans (ab_cl hc))
  subst hr
  obtain ⟨hS, hfc, kC, hkC, hkind⟩ := hK.1 ci _ (ab_cl hc)
  obtain ⟨cf, kf, fi, fd, hi, hsl⟩ := hS f hf
  have hlay := hts _ ((ab_lays hc) _ (u_in_lay hf))
  have hst := (u_facts hfc hkC (u_lays hts (ab_lays hc) hf) hi).1
  have hfl : f < (ab_ob base h b ci).length := by rw [ab_ob_len]; exact hf
  have fin : ∀ (H' : Heap), H'[base + b]? = some (cell.setSlot (D.2 ci f) (ab_em base v)) → H'.size = H.size → (∀ q, q ≠ base + b → H'[q]? = H[q]?) → W p l e R s m args below meth c H' (locs ++ [⟨base + b, fd.slot⟩]) cells slots Z (F0 m (pc + 3) lsr (st.map (ab_em base))) := by
    intro H' e1 e2 e3
    refine g H' _ (w.put e2 e3 (fun k hk => hx cA base k hk) ?_) (S.put (Nat.lt_of_lt_of_le hb w.1.1) e2 e3)
    rw [ab_ce_o hc hs, ho]
    exact ⟨_, ab_cl hc, t_OB.to (V := updV (vp_V (ab_ob base h b ci)) f (ab_em base v)) ⟨_, e1, q2, q3, t_set q4 hap hf _⟩ (fun j _ => vp_updV_set hfl _ j)⟩
  rcases hfi with hfin | ⟨hfin, hini, hdecl, hl2⟩
  · unfold u_lay at hlay
    rw [if_neg (by rw [hfin]; decide)] at hlay
    have h6 := u_store hfc hkC hkind hlay hi (ab_tyo hc f hf) (hn base) (hfit base)
    rcases hl with hl | ⟨host, hl⟩
    · refine W.putK hx1 hb1 (f := fd) ⟨hown, hts _ hl, ⟨_, _, _, hi⟩, hst⟩ (by rw [q2]; exact h6) q1 q3 (by rw [hsl]; exact k2_hasslot (q4 f hf)) rfl rfl hd fun H' e1 e2 e3 => ?_
      exact fin H' (by rw [← hsl]; exact e1) e2 e3
    · refine va_WputK hx1 hb1 (f := fd) hown (va_Nw.use rfl (hnw _ hl)) hi hst (by rw [q2]; exact h6) q1 q3 (by rw [hsl]; exact k2_hasslot (q4 f hf)) rfl rfl hd fun H' e1 e2 e3 => ?_
      exact fin H' (by rw [← hsl]; exact e1) e2 e3
  · unfold u_lay at hlay
    rw [if_pos hfin] at hlay
    have hcf : m.cls = cf := by
      obtain ⟨_, _, c', _, _, _, -, -, hf', -, -, -, hown2, -⟩ := Cond.laysFinal_spec hlay
      have e1 : c' = cf := by have := hi.symm.trans hf'; simp at this; exact this.1.symm
      rw [hdecl] at hown2
      rw [← e1]; exact Option.some.inj (hown.symm.trans hown2)
    have h6 := u_fits hfc hkC hkind (Or.inr hlay) hi (ab_tyo hc f hf) (hn base) (hfit base)
    refine W.putFinK hx1 hb1 hown (hts _ hl2) hi hst hcf (hmn.trans hini) (by rw [q2]; exact h6) q1 q3 (by rw [hsl]; exact k2_hasslot (q4 f hf)) rfl rfl hd fun H' e1 e2 e3 => ?_
    exact fin H' (by rw [← hsl]; exact e1) e2 e3
theorem ab_ofNat (n : Nat) : Int32.ofNat n = Int32.ofInt (n : Int) := by
  apply Int32.toBitVec_inj.mp
  simp [Int32.ofInt, Int32.ofNat]
theorem ar_alen {d k pc n bc bs : Nat} {ls : List (Option Value)} {st : List Value} {h : ab_H} {Q : Option Value → ab_H → Prop} {b : Nat} (hd : decode (ab_cod k) pc = .ok (.arraylength, 1)) (hb : b < n) (hs : 100 ≤ ab_sh b)
    (hk : ab_W d k (pc + 1) n bc bs ls (.int (Int32.ofInt ((ab_sh b - 100 : Nat) : Int)) :: st) h Q) : ab_W d k pc n bc bs ls (.ref b :: st) h Q := by
  intro p l e R s m args below meth c D cA base mcT msT H locs cells slots xx Z lsr C hxx h1 h2 w S L he
  have hP := w.one hb
  rw [ab_ce_a hs] at hP
  have g := hk p l e R s m args below meth c D cA base mcT msT H locs cells slots xx Z lsr C hxx h1 h2 w S L he
  exact va_alen C.1 C.2.1 C.2.2.2.2.2.2.2.2.2.1 hP 0 0 rfl rfl (ab_ofNat _) hd g
theorem ar_iald {d k pc n bc bs : Nat} {ls : List (Option Value)} {st : List Value} {h : ab_H} {Q : Option Value → ab_H → Prop} {b : Nat} {i : Int32} (hd : decode (ab_cod k) pc = .ok (.iaload, 1)) (hb : b < n) (hs : 100 ≤ ab_sh b) (hi : vp_in i (ab_sh b - 100))
    (hk : ab_W d k (pc + 1) n bc bs ls (.int (h.1 b i.toNatClampNeg) :: st) h Q) : ab_W d k pc n bc bs ls (.int i :: .ref b :: st) h Q := by
  intro p l e R s m args below meth c D cA base mcT msT H locs cells slots xx Z lsr C hxx h1 h2 w S L he
  have hP := w.one hb
  rw [ab_ce_a hs] at hP
  have g := hk p l e R s m args below meth c D cA base mcT msT H locs cells slots xx Z lsr C hxx h1 h2 w S L he
  exact va_iald C.1 C.2.1 C.2.2.2.2.2.2.2.2.2.1 hP 0 0 rfl rfl hi hd g
theorem ar_iast {d k pc n bc bs : Nat} {ls : List (Option Value)} {st : List Value} {h : ab_H} {Q : Option Value → ab_H → Prop} {b : Nat} {i x : Int32} (hd : decode (ab_cod k) pc = .ok (.iastore, 1)) (hb : b < n) (hs : 100 ≤ ab_sh b) (hi : vp_in i (ab_sh b - 100))
    (hk : ab_W d k (pc + 1) n bc bs ls st (ab_hi h b i.toNatClampNeg x) Q) : ab_W d k pc n bc bs ls (.int x :: .int i :: .ref b :: st) h Q := by
  intro p l e R s m args below meth c D cA base mcT msT H locs cells slots xx Z lsr C hxx h1 h2 w S L he
  have g := fun H' locs' w' S' => hk p l e R s m args below meth c D cA base mcT msT H' locs' cells slots xx Z lsr C hxx h1 h2 w' S' L he
  have hP := w.2 b hb
  rw [ab_ce_a hs] at hP
  have hP' : H[base + b]? = some (vp_cell cA (ab_sh b - 100, .inl (h.1 b))) := hP
  refine W.iast C.1 C.2.1 hP' ((C.2.2.2.2.2.2.2.2.2.1.2 0 _ rfl).1 _ (fun j => .int (h.1 b j))) (fun q => by cases q) (by show ¬ (i < 0 ∨ (arrV _ _ _).slots.size ≤ _); rw [arrV_size]; exact hi) rfl rfl hd fun H1 e z oq => ?_
  refine g H1 _ (w.put z oq (fun k hk => ab_ce_hi hk) ?_) (S.put (Nat.lt_of_lt_of_le hb w.1.1) z oq)
  rw [ab_ce_a hs]
  show H1[base + b]? = some (vp_cell _ _)
  rw [e]
  rw [vp_cell_i, vp_cell_i, arrV_store]
  congr 2
  funext q
  by_cases hq : q = i.toNatClampNeg
  · subst hq
    simp [updV, ab_hi]
  · simp [updV, ab_hi, hq]
