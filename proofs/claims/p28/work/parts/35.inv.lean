/-! ===== what every state keeps ===== -/
def nm_ok (N : Nm) : Prop := ∀ i, i < N.length → (∃ f : Int, 1 ≤ f ∧ f ≤ 50 ∧ (nm_at N i).1 = Int32.ofInt f) ∧ ∃ t : Int, 0 ≤ t ∧ t ≤ 3 ∧ (nm_at N i).2 = Int32.ofInt t
def ct (L : Bk) (x : Int32) : Nat := (L.map lf_num).count x
def ctS (B : Nat → Bk) (x : Int32) : Nat := ct (B 0) x + ct (B 1) x + ct (B 2) x + ct (B 3) x
def st_inv (m : Int) (s : St) : Prop := st_ok s ∧ nm_ok s.1 ∧ (∀ x, ctS s.2.1 x ≤ 1) ∧ (∀ x, 0 < ctS s.2.1 x → ∃ i : Int, 0 ≤ i ∧ i < s.2.2.2.2 ∧ x = Int32.ofInt i) ∧ (0 ≤ s.2.2.2.2 ∧ s.2.2.2.2 ≤ m) ∧ (0 ≤ s.2.2.2.1 ∧ s.2.2.2.1 ≤ m)
def op_r (m : Int) (s : St) (r : Int32 × St) : Prop := ((∃ z : Int, 0 ≤ z ∧ z ≤ 100000 + m ∧ r.1 = Int32.ofInt z) ∧ st_inv (m + 1) r.2) ∨ (r.2 = s ∧ (r.1 = e_inv ∨ r.1 = e_np ∨ r.1 = e_lim))
theorem st_inv.up {m m' : Int} {s : St} (h : st_inv m s) (hm : m ≤ m') : st_inv m' s := ⟨h.1, h.2.1, h.2.2.1, h.2.2.2.1, ⟨h.2.2.2.2.1.1, by have := h.2.2.2.2.1.2; omega⟩, ⟨h.2.2.2.2.2.1, by have := h.2.2.2.2.2.2; omega⟩⟩
-- counts
theorem ct_app (A B : Bk) (x : Int32) : ct (A ++ B) x = ct A x + ct B x := by unfold ct; rw [List.map_append, List.count_append]
theorem ct_nil (x : Int32) : ct [] x = 0 := rfl
theorem sl_app {S : Bk} {i j k : Nat} (h1 : i ≤ j) (h2 : j ≤ k) (h3 : k ≤ S.length) : sl S i j ++ sl S j k = sl S i k := by
  obtain ⟨d, rfl⟩ : ∃ d, k = j + d := ⟨k - j, by omega⟩
  clear h2
  induction d with
  | zero => rw [Nat.add_zero, sl_nil, List.append_nil]
  | succ d ih => rw [← Nat.add_assoc, sl_succ (by omega) (by omega), sl_succ (by omega) (by omega), ← List.append_assoc, ih (by omega)]
theorem ct_sl {S : Bk} {i j : Nat} (h1 : i ≤ j) (h2 : j ≤ S.length) (x : Int32) : ct S x = ct (sl S 0 i) x + ct (sl S i j) x + ct (sl S j S.length) x := by
  have e : sl S 0 i ++ sl S i j ++ sl S j S.length = S := by rw [sl_app (by omega) h1 h2, sl_app (by omega) h2 (Nat.le_refl _), sl_all]
  rw [← ct_app, ← ct_app, e]
theorem ct_cut {L : Bk} {p : Nat} (hp : p < L.length) (x : Int32) : ct (bk_cut L p) x + ct (sl L (bu_f L p) (bu_e L p)) x = ct L x := by
  have f1 := bu_f_le L p
  have f2 := bu_e_le L hp
  rw [ct_sl (S := L) (i := bu_f L p) (j := bu_e L p) (by omega) f2.2 x]
  unfold bk_cut
  rw [ct_app]; omega
theorem ct_tr {L M : Bk} {p q : Nat} (x : Int32) : ct (bk_tr L p M q) x = ct (bk_cut L p) x + ct (sl M (bu_f M q) (bu_e M q)) x := by
  unfold bk_tr bk_cut
  rw [ct_app, ct_app, ct_app]; omega
theorem ct_mv {L : Bk} {p z : Nat} (hp : p < L.length) (hz : z ≤ (bk_cut L p).length) (x : Int32) : ct (bk_mv L p z) x = ct L x := by
  have e : ct (bk_cut L p) x = ct (sl (bk_cut L p) 0 z) x + ct (sl (bk_cut L p) z (bk_cut L p).length) x := by
    rw [← ct_app, sl_app (by omega) hz (Nat.le_refl _), sl_all]
  have e2 := ct_cut hp x
  unfold bk_mv
  rw [ct_app, ct_app]; omega
theorem ct_set {L : Bk} {p : Nat} {l : Lf} (hp : p < L.length) (h : lf_num l = lf_num (lf_at L p)) (x : Int32) : ct (L.set p l) x = ct L x := by
  unfold ct
  rw [List.map_set, h]
  congr 1
  apply List.ext_getElem?
  intro j
  by_cases c : j = p
  · subst c
    rw [List.getElem?_set_self (by rw [List.length_map]; exact hp), List.getElem?_map, List.getElem?_eq_getElem hp]
    unfold lf_at
    rw [List.getD_eq_getElem?_getD, List.getElem?_eq_getElem hp]; rfl
  · rw [List.getElem?_set_ne (Ne.symm c)]
theorem ctS_up {B : Nat → Bk} {c : Nat} {L : Bk} (hc : c < 4) (x : Int32) : ctS (fun d => if d = c then L else B d) x + ct (B c) x = ctS B x + ct L x := by
  unfold ctS
  match c, hc with
  | 0, _ => simp only [if_true]; rw [if_neg (by decide), if_neg (by decide), if_neg (by decide)]; omega
  | 1, _ => simp only [if_true]; rw [if_neg (by decide), if_neg (by decide), if_neg (by decide)]; omega
  | 2, _ => simp only [if_true]; rw [if_neg (by decide), if_neg (by decide), if_neg (by decide)]; omega
  | 3, _ => simp only [if_true]; rw [if_neg (by decide), if_neg (by decide), if_neg (by decide)]; omega
theorem ct_pos {L : Bk} {p : Nat} (hp : p < L.length) : 0 < ct L (lf_num (lf_at L p)) := by
  unfold ct
  rw [List.count_pos_iff]
  refine List.mem_map.mpr ⟨lf_at L p, ?_, rfl⟩
  unfold lf_at
  rw [List.getD_eq_getElem?_getD, List.getElem?_eq_getElem hp]
  exact List.getElem_mem hp
theorem ct_le {B : Nat → Bk} {c : Nat} (hc : c < 4) (x : Int32) : ct (B c) x ≤ ctS B x := by
  unfold ctS
  match c, hc with
  | 0, _ => omega
  | 1, _ => omega
  | 2, _ => omega
  | 3, _ => omega
-- worth
theorem ii_div2 {z : Int} (h1 : 0 ≤ z) (h2 : z < 2147483648) : Int32.ofInt z / Int32.ofInt 2 = Int32.ofInt (z / 2) := by
  apply Int32.toInt_inj.mp
  rw [Int32.toInt_div, ii_toInt (by omega) h2, ii_toInt (by omega) (by omega), ii_toInt (by omega) (by omega), Int.tdiv_eq_ediv_of_nonneg h1]
  exact fb0_bmod (by omega) (by omega)
theorem w_val_z {N : Nm} {c t : Int32} {i : Nat} {o : Bool} (hN : nm_ok N) (hi : i < N.length) (h16 : N.length ≤ 16) : ∃ z : Int, 0 ≤ z ∧ z ≤ 1500 ∧ w_val N c (Int32.ofInt i) t o = Int32.ofInt z := by
  obtain ⟨⟨f, f1, f2, ef⟩, -⟩ := hN i hi
  unfold w_val
  rw [ii_cl (by omega) (by omega), Int.toNat_natCast, ef]
  have hv : ∃ v : Int, 0 ≤ v ∧ v ≤ 750 ∧ (if o then Int32.ofInt 15 else Int32.ofInt 10) * Int32.ofInt f = Int32.ofInt v := by
    cases o
    · exact ⟨10 * f, by omega, by omega, ii_mul _ _⟩
    · exact ⟨15 * f, by omega, by omega, ii_mul _ _⟩
  obtain ⟨v, v1, v2, ev⟩ := hv
  simp only [ev]
  split
  · exact ⟨v, v1, by omega, rfl⟩
  · split
    · exact ⟨v * 2, by omega, by omega, ii_mul _ _⟩
    · exact ⟨v / 2, by omega, by omega, ii_div2 v1 (by omega)⟩
theorem w_vb_z {N : Nm} {c a t : Int32} {i : Nat} {o : Bool} (hN : nm_ok N) (hi : i < N.length) (h16 : N.length ≤ 16) : ∃ z : Int, 0 ≤ z ∧ z ≤ 1500 ∧ w_vb N c a (Int32.ofInt i) t o = Int32.ofInt z := by
  obtain ⟨z, z1, z2, e⟩ := w_val_z (c := c) (t := t) (o := o) hN hi h16
  unfold w_vb
  split
  · exact ⟨z, z1, z2, e⟩
  · rw [e]; exact ⟨z / 2, by omega, by omega, ii_div2 z1 (by omega)⟩
theorem w_vs_z {N : Nm} {c : Int32} {L : Bk} (hN : nm_ok N) (hw : bk_ok N.length L) : ∀ q, q ≤ 2 * L.length → ∃ z : Int, 0 ≤ z ∧ z ≤ 1500 * q ∧ w_vs N c L q = Int32.ofInt z
  | 0, _ => ⟨0, by omega, by omega, rfl⟩
  | q + 1, hq => by
    obtain ⟨z, z1, z2, e⟩ := w_vs_z (c := c) hN hw q (by omega)
    rw [w_vs]
    rcases pg_cases hw (show q < 2 * L.length by omega) with ⟨nm, t, o, he, -, -, -, ⟨i, hi, rfl⟩, -⟩ | ⟨he, -⟩
    · rw [he]
      obtain ⟨y, y1, y2, ey⟩ := w_vb_z (c := c) (a := w_ns L q) (t := t) (o := o) hN hi hw.1
      refine ⟨z + y, by omega, by omega, ?_⟩
      show w_vs N c L q + w_vb N c (w_ns L q) (Int32.ofInt i) t o = _
      rw [e, ey, ii_add]
    · rw [he]; exact ⟨z, z1, by omega, e⟩
theorem and63 (x : Int32) : ∃ z : Int, 0 ≤ z ∧ z ≤ 63 ∧ x &&& Int32.ofInt 63 = Int32.ofInt z := by
  have h : (x &&& Int32.ofInt 63).toBitVec.toNat ≤ 63 := by
    rw [Int32.toBitVec_and, BitVec.toNat_and]
    exact Nat.and_le_right
  refine ⟨(x &&& Int32.ofInt 63).toInt, ?_, ?_, (Int32.ofInt_toInt _).symm⟩
  · show 0 ≤ (x &&& Int32.ofInt 63).toBitVec.toInt
    rw [BitVec.toInt_eq_toNat_of_lt (by omega)]; omega
  · show (x &&& Int32.ofInt 63).toBitVec.toInt ≤ 63
    rw [BitVec.toInt_eq_toNat_of_lt (by omega)]; omega
theorem w_bc_z (x : Int32) : ∃ z : Int, 0 ≤ z ∧ z ≤ 63 ∧ w_bc x = Int32.ofInt z := and63 _
theorem w_to_z {N : Nm} {ns s : Int32} {z : Int} (h0 : 0 ≤ z) (hs : s = Int32.ofInt z) : ∀ t : Nat, ∃ y : Int, 0 ≤ y ∧ y ≤ z + 1575 * t ∧ w_to N ns s t = Int32.ofInt y
  | 0 => ⟨z, h0, by omega, hs⟩
  | t + 1 => by
    obtain ⟨y, y1, y2, e⟩ := w_to_z (N := N) (ns := ns) h0 hs t
    rw [w_to]
    split
    · obtain ⟨b, b1, b2, eb⟩ := w_bc_z (w_set N (Int32.ofInt t) N.length)
      exact ⟨y + 25 * b, by omega, by omega, by rw [e, eb, ii_mul, ii_add]⟩
    · exact ⟨y, y1, by omega, e⟩
theorem w_worth_z {N : Nm} {c : Int32} {L : Bk} (hN : nm_ok N) (hw : bk_ok N.length L) (hl : L.length ≤ 16) : ∃ z : Int, 0 ≤ z ∧ z ≤ 60000 ∧ w_worth N c L = Int32.ofInt z := by
  obtain ⟨z, z1, z2, e⟩ := w_vs_z (c := c) hN hw (2 * L.length) (Nat.le_refl _)
  obtain ⟨y, y1, y2, e2⟩ := w_to_z (N := N) (ns := w_ns L (2 * L.length)) z1 e 4
  exact ⟨y, y1, by omega, e2⟩
-- a book of the state is changed, its numbers stay
theorem st_inv.book {m : Int} {s : St} {c : Nat} {L : Bk} (h : st_inv m s) (hc : c < 4) (h8 : L.length ≤ 8) (hw : bk_ok s.1.length L) (hct : ∀ x, ct L x ≤ ct (s.2.1 c) x) : st_inv (m + 1) (up_B s c L) := by
  obtain ⟨h1, h2, h3, h4, h5, h6⟩ := h
  have hle : ∀ x, ctS (fun d => if d = c then L else s.2.1 d) x ≤ ctS s.2.1 x := fun x => by
    have := ctS_up (B := s.2.1) (L := L) hc x
    have := hct x
    omega
  refine ⟨⟨h1.1, fun d hd => ?_, h1.2.2⟩, h2, fun x => Nat.le_trans (hle x) (h3 x), fun x hx => h4 x (Nat.lt_of_lt_of_le hx (hle x)), ⟨h5.1, by have := h5.2; show s.2.2.2.2 ≤ m + 1; omega⟩, ⟨h6.1, by have := h6.2; show s.2.2.2.1 ≤ m + 1; omega⟩⟩
  show (if d = c then L else s.2.1 d).length ≤ 8 ∧ bk_ok s.1.length (if d = c then L else s.2.1 d)
  by_cases g : d = c
  · rw [if_pos g]; exact ⟨h8, hw⟩
  · rw [if_neg g]; exact h1.2.1 d hd
theorem op_name_r {m f t : Int} {s : St} (h : st_inv m s) (hm : 0 ≤ m) : op_r m s (op_name s f t) := by
  unfold op_name
  split
  · rename_i c
    split
    · exact Or.inr ⟨rfl, Or.inr (Or.inr rfl)⟩
    · rename_i c2
      obtain ⟨h1, h2, h3, h4, h5, h6⟩ := h
      refine Or.inl ⟨⟨s.1.length, by omega, by omega, rfl⟩, ⟨?_, fun d hd => ⟨(h1.2.1 d hd).1, ?_⟩, h1.2.2⟩, fun i hi => ?_, h3, h4, ⟨h5.1, by have := h5.2; show s.2.2.2.2 ≤ m + 1; omega⟩, ⟨h6.1, by have := h6.2; show s.2.2.2.1 ≤ m + 1; omega⟩⟩
      · show (s.1 ++ [_]).length ≤ 16
        rw [List.length_append]; simp; omega
      · show bk_ok (s.1 ++ [_]).length _
        rw [List.length_append]
        obtain ⟨w0, w1, w2⟩ := (h1.2.1 d hd).2
        refine ⟨by simp; omega, fun p hp => ?_, w2⟩
        obtain ⟨f1, f2, f3, f4, f5⟩ := w1 p hp
        refine ⟨?_, f2, ?_, f4, f5⟩
        · rcases f1 with f1 | ⟨i, hi, e⟩
          · exact Or.inl f1
          · exact Or.inr ⟨i, by omega, e⟩
        · rcases f3 with f3 | ⟨i, hi, e⟩
          · exact Or.inl f3
          · exact Or.inr ⟨i, by omega, e⟩
      · replace hi : i < (s.1 ++ [(Int32.ofInt f, Int32.ofInt t)]).length := hi
        show (∃ f' : Int, 1 ≤ f' ∧ f' ≤ 50 ∧ (nm_at (s.1 ++ [(Int32.ofInt f, Int32.ofInt t)]) i).1 = Int32.ofInt f') ∧ ∃ t' : Int, 0 ≤ t' ∧ t' ≤ 3 ∧ (nm_at (s.1 ++ [(Int32.ofInt f, Int32.ofInt t)]) i).2 = Int32.ofInt t'
        rw [List.length_append] at hi
        simp only [List.length_cons, List.length_nil] at hi
        by_cases g : i < s.1.length
        · rw [nm_push g]; exact h2 i g
        · obtain rfl : i = s.1.length := by omega
          rw [nm_last]
          exact ⟨⟨f, by omega, by omega, rfl⟩, t, by omega, by omega, rfl⟩
  · exact Or.inr ⟨rfl, Or.inl rfl⟩
theorem op_leaf_r {m z : Int} {s : St} (h : st_inv m s) (hm : 0 ≤ m) (hm2 : m ≤ 1000000) : op_r m s (op_leaf s z) := by
  unfold op_leaf
  split
  · rename_i c
    split
    · exact Or.inr ⟨rfl, Or.inr (Or.inr rfl)⟩
    · rename_i c2
      obtain ⟨h1, h2, h3, h4, h5, h6⟩ := h
      have hc : z.toNat < 4 := by omega
      have hup : ∀ x, ctS (fun d => if d = z.toNat then s.2.1 z.toNat ++ [lf_new (Int32.ofInt s.2.2.2.2)] else s.2.1 d) x = ctS s.2.1 x + (if x = Int32.ofInt s.2.2.2.2 then 1 else 0) := fun x => by
        have e := ctS_up (B := s.2.1) (L := s.2.1 z.toNat ++ [lf_new (Int32.ofInt s.2.2.2.2)]) hc x
        have e2 : ct [lf_new (Int32.ofInt s.2.2.2.2)] x = (if x = Int32.ofInt s.2.2.2.2 then 1 else 0) := by
          unfold ct
          show List.count x [Int32.ofInt s.2.2.2.2] = _
          rw [List.count_singleton]
          by_cases c : x = Int32.ofInt s.2.2.2.2
          · rw [if_pos c, if_pos (by simp [c])]
          · rw [if_neg c, if_neg (by simp; exact fun q => c q.symm)]
        rw [ct_app, e2] at e
        omega
      refine Or.inl ⟨⟨s.2.2.2.2, by omega, by have := h5.2; omega, rfl⟩, ⟨h1.1, fun d hd => ?_, h1.2.2⟩, h2, fun x => ?_, fun x hx => ?_, ⟨by have := h5.1; show 0 ≤ s.2.2.2.2 + 1; omega, by have := h5.2; show s.2.2.2.2 + 1 ≤ m + 1; omega⟩, ⟨h6.1, by have := h6.2; show s.2.2.2.1 ≤ m + 1; omega⟩⟩
      · show (if d = z.toNat then s.2.1 z.toNat ++ [lf_new (Int32.ofInt s.2.2.2.2)] else s.2.1 d).length ≤ 8 ∧ bk_ok s.1.length (if d = z.toNat then s.2.1 z.toNat ++ [lf_new (Int32.ofInt s.2.2.2.2)] else s.2.1 d)
        by_cases g : d = z.toNat
        · rw [if_pos g]
          have hw := (h1.2.1 _ hc).2
          refine ⟨by rw [List.length_append]; simp; omega, bk_ok_app hw ⟨hw.1, fun p hp => ?_, fun p hp ho => ?_⟩⟩
          · obtain rfl : p = 0 := by simpa using hp
            exact ⟨Or.inl rfl, ⟨-1, by omega, by omega, rfl⟩, Or.inl rfl, ⟨-1, by omega, by omega, rfl⟩, Or.inl rfl⟩
          · obtain rfl : p = 0 := by simpa using hp
            exact absurd (show Int32.ofInt 0 = Int32.ofInt 1 from ho) (by decide)
        · rw [if_neg g]; exact h1.2.1 d hd
      · show ctS (fun d => if d = z.toNat then s.2.1 z.toNat ++ [lf_new (Int32.ofInt s.2.2.2.2)] else s.2.1 d) x ≤ 1
        rw [hup]
        by_cases g : x = Int32.ofInt s.2.2.2.2
        · rw [if_pos g]
          by_cases g2 : 0 < ctS s.2.1 x
          · obtain ⟨i, i1, i2, i3⟩ := h4 x g2
            rw [g] at i3
            have := h5.2
            rw [ii_eq (by omega) (by omega) (by omega) (by omega)] at i3
            omega
          · omega
        · rw [if_neg g]; have := h3 x; omega
      · replace hx : 0 < ctS (fun d => if d = z.toNat then s.2.1 z.toNat ++ [lf_new (Int32.ofInt s.2.2.2.2)] else s.2.1 d) x := hx
        rw [hup] at hx
        show ∃ i : Int, 0 ≤ i ∧ i < s.2.2.2.2 + 1 ∧ x = Int32.ofInt i
        by_cases g : x = Int32.ofInt s.2.2.2.2
        · exact ⟨s.2.2.2.2, h5.1, by omega, g⟩
        · rw [if_neg g] at hx
          obtain ⟨i, i1, i2, i3⟩ := h4 x (by omega)
          exact ⟨i, i1, by omega, i3⟩
  · exact Or.inr ⟨rfl, Or.inl rfl⟩
theorem op_w {m : Int} {s : St} {c p : Nat} {l : Lf} (h : st_inv m s) (hm : 0 ≤ m) (hc : c < 4) (hp : p < (s.2.1 c).length) (hn : lf_num l = lf_num (lf_at (s.2.1 c) p)) (hw : bk_ok s.1.length ((s.2.1 c).set p l)) : op_r m s (w_worth s.1 (Int32.ofInt c) ((s.2.1 c).set p l), up_B s c ((s.2.1 c).set p l)) := by
  have h8 := (h.1.2.1 c hc).1
  obtain ⟨z, z1, z2, e⟩ := w_worth_z (c := Int32.ofInt c) h.2.1 hw (by rw [List.length_set]; omega)
  exact Or.inl ⟨⟨z, z1, by omega, e⟩, h.book hc (by rw [List.length_set]; exact h8) hw (fun x => by rw [ct_set hp hn]; exact Nat.le_refl _)⟩
theorem op_enter_r {m z n : Int} {x t : Int32} {s : St} (h : st_inv m s) (hm : 0 ≤ m) (ht : ∃ k : Int, -1 ≤ k ∧ k ≤ 3 ∧ t = Int32.ofInt k) : op_r m s (op_enter s x z n t) := by
  unfold op_enter
  cases e : st_fi s.2.1 x with
  | none => exact Or.inr ⟨rfl, Or.inl rfl⟩
  | some cp =>
    obtain ⟨c, p⟩ := cp
    obtain ⟨hc, hfi, hp⟩ := st_fi_some e
    simp only
    split
    · rename_i g
      split
      · rename_i g2
        obtain ⟨i, rfl⟩ : ∃ i : Nat, n = i := ⟨n.toNat, by omega⟩
        refine op_w h hm hc hp ?_ (bk_ok_put (h.1.2.1 c hc).2 hp (by omega) g2 (by omega) ht)
        unfold lf_put; split <;> rfl
      · exact Or.inr ⟨rfl, Or.inr (Or.inl rfl)⟩
    · exact Or.inr ⟨rfl, Or.inl rfl⟩
theorem op_over_r {m n : Int} {x : Int32} {s : St} (h : st_inv m s) (hm : 0 ≤ m) : op_r m s (op_over s x n) := by
  unfold op_over
  cases e : st_fi s.2.1 x with
  | none => exact Or.inr ⟨rfl, Or.inl rfl⟩
  | some cp =>
    obtain ⟨c, p⟩ := cp
    obtain ⟨hc, hfi, hp⟩ := st_fi_some e
    simp only
    split
    · rename_i g
      split
      · rename_i g2
        obtain ⟨i, rfl⟩ : ∃ i : Nat, n = i := ⟨n.toNat, by omega⟩
        have h8 := (h.1.2.1 c hc).1
        have f2 := bu_e_le ((s.2.1 c).set p (lf_over (lf_at (s.2.1 c) p) (Int32.ofInt i))) (p := p) (by rw [List.length_set]; exact hp)
        rw [List.length_set] at f2
        refine Or.inl ⟨⟨_, by omega, ?_, rfl⟩, h.book hc (by rw [List.length_set]; exact h8) (bk_ok_over (h.1.2.1 c hc).2 g2.1 g2.2.1 g2.2.2 (by omega)) (fun x => by rw [ct_set hp (show lf_num (lf_over (lf_at (s.2.1 c) p) (Int32.ofInt i)) = _ from rfl)]; exact Nat.le_refl _)⟩
        omega
      · exact Or.inr ⟨rfl, Or.inr (Or.inl rfl)⟩
    · exact Or.inr ⟨rfl, Or.inl rfl⟩
theorem op_ded_r {m z k : Int} {x : Int32} {s : St} (h : st_inv m s) (hm : 0 ≤ m) : op_r m s (op_ded s x z k) := by
  unfold op_ded
  cases e : st_fi s.2.1 x with
  | none => exact Or.inr ⟨rfl, Or.inl rfl⟩
  | some cp =>
    obtain ⟨c, p⟩ := cp
    obtain ⟨hc, hfi, hp⟩ := st_fi_some e
    simp only
    split
    · rename_i g
      split
      · rename_i g2
        have hn : ∀ (l : Lf) (i : Nat) (t : Int32), lf_num (lf_ded l i t) = lf_num l := fun l i t => by unfold lf_ded; split <;> rfl
        unfold bk_ded
        split
        · exact op_w h hm hc (by omega) (hn _ _ _) (bk_ok_ded (h.1.2.1 c hc).2 (by omega) ⟨k, by omega, by omega, rfl⟩)
        · exact op_w h hm hc hp (hn _ _ _) (bk_ok_ded (h.1.2.1 c hc).2 hp ⟨k, by omega, by omega, rfl⟩)
      · exact Or.inr ⟨rfl, Or.inr (Or.inl rfl)⟩
    · exact Or.inr ⟨rfl, Or.inl rfl⟩
theorem bk_mv_len {L : Bk} {p z : Nat} (hp : p < L.length) (hz : z ≤ (bk_cut L p).length) : (bk_mv L p z).length = L.length := by
  have f1 := bu_f_le L p
  have f2 := bu_e_le L hp
  have e := bk_cut_len hp
  unfold bk_mv
  rw [List.length_append, List.length_append, sl_len hz, sl_len f2.2, sl_len (Nat.le_refl _)]
  omega
theorem op_move_r {m z : Int} {x : Int32} {s : St} (h : st_inv m s) (hm : 0 ≤ m) : op_r m s (op_move s x z) := by
  unfold op_move
  cases e : st_fi s.2.1 x with
  | none => exact Or.inr ⟨rfl, Or.inl rfl⟩
  | some cp =>
    obtain ⟨c, p⟩ := cp
    obtain ⟨hc, hfi, hp⟩ := st_fi_some e
    simp only
    split
    · rename_i g
      split
      · rename_i g2
        obtain ⟨i, rfl⟩ : ∃ i : Nat, z = i := ⟨z.toNat, by omega⟩
        rw [Int.toNat_natCast]
        have hz := (bu_ok_cut hp g2).1
        have h8 := (h.1.2.1 c hc).1
        have f1 := bu_f_le (s.2.1 c) p
        exact Or.inl ⟨⟨_, by omega, by omega, rfl⟩, h.book hc (by rw [bk_mv_len hp hz]; exact h8) (bk_ok_mv (h.1.2.1 c hc).2 hp g2) (fun x => by rw [ct_mv hp hz]; exact Nat.le_refl _)⟩
      · exact Or.inr ⟨rfl, Or.inr (Or.inl rfl)⟩
    · exact Or.inr ⟨rfl, Or.inl rfl⟩
theorem op_tear_r {m : Int} {x : Int32} {s : St} (h : st_inv m s) (hm : 0 ≤ m) : op_r m s (op_tear s x) := by
  unfold op_tear
  cases e : st_fi s.2.1 x with
  | none => exact Or.inr ⟨rfl, Or.inl rfl⟩
  | some cp =>
    obtain ⟨c, p⟩ := cp
    obtain ⟨hc, hfi, hp⟩ := st_fi_some e
    have h8 := (h.1.2.1 c hc).1
    have f1 := bu_f_le (s.2.1 c) p
    have f2 := bu_e_le (s.2.1 c) hp
    exact Or.inl ⟨⟨_, by omega, by omega, rfl⟩, h.book hc (by rw [bk_cut_len hp]; omega) (bk_ok_cut (h.1.2.1 c hc).2 hp) (fun x => by have := ct_cut hp x; omega)⟩
theorem op_coins_r {m z k : Int} {s : St} (h : st_inv m s) (hm : 0 ≤ m) : op_r m s (op_coins s z k) := by
  unfold op_coins
  split
  · rename_i g
    obtain ⟨h1, h2, h3, h4, h5, h6⟩ := h
    have hc := h1.2.2 z.toNat (by omega)
    refine Or.inl ⟨⟨_, hc.1, by omega, rfl⟩, ⟨h1.1, h1.2.1, fun d hd => ?_⟩, h2, h3, h4, ⟨h5.1, by have := h5.2; show s.2.2.2.2 ≤ m + 1; omega⟩, ⟨h6.1, by have := h6.2; show s.2.2.2.1 ≤ m + 1; omega⟩⟩
    show 0 ≤ (if d = z.toNat then k else s.2.2.1 d) ∧ (if d = z.toNat then k else s.2.2.1 d) ≤ 9999
    split
    · omega
    · exact h1.2.2 d hd
  · exact Or.inr ⟨rfl, Or.inl rfl⟩
theorem op_trade_r {m k : Int} {x y : Int32} {s : St} (h : st_inv m s) (hm : 0 ≤ m) : op_r m s (op_trade s x y k) := by
  unfold op_trade
  cases e : st_fi s.2.1 x with
  | none => exact Or.inr ⟨rfl, Or.inl rfl⟩
  | some cp =>
    obtain ⟨c, p⟩ := cp
    obtain ⟨hc, hfi, hp⟩ := st_fi_some e
    cases e2 : st_fi s.2.1 y with
    | none => exact Or.inr ⟨rfl, Or.inl rfl⟩
    | some dq =>
      obtain ⟨d, q⟩ := dq
      obtain ⟨hd, hfid, hqd⟩ := st_fi_some e2
      simp only
      split
      · rename_i g
        split
        · rename_i g2
          split
          · rename_i g3
            obtain ⟨h1, h2, h3, h4, h5, h6⟩ := h
            have h8 := (h1.2.1 c hc).1
            have h8d := (h1.2.1 d hd).1
            have hw := (h1.2.1 c hc).2
            have hwd := (h1.2.1 d hd).2
            have f1 := bu_f_le (s.2.1 c) p
            have f2 := bu_e_le (s.2.1 c) hp
            have f3 := bu_f_le (s.2.1 d) q
            have f4 := bu_e_le (s.2.1 d) hqd
            have hct : ∀ x, ctS (fun i => if i = d then bk_tr (s.2.1 d) q (s.2.1 c) p else if i = c then bk_tr (s.2.1 c) p (s.2.1 d) q else s.2.1 i) x = ctS s.2.1 x := fun x => by
              have e1 := ctS_up (B := fun i => if i = c then bk_tr (s.2.1 c) p (s.2.1 d) q else s.2.1 i) (L := bk_tr (s.2.1 d) q (s.2.1 c) p) hd x
              have e2 := ctS_up (B := s.2.1) (L := bk_tr (s.2.1 c) p (s.2.1 d) q) hc x
              rw [if_neg (Ne.symm g2.1)] at e1
              have e3 := ct_tr (L := s.2.1 c) (M := s.2.1 d) (p := p) (q := q) x
              have e4 := ct_tr (L := s.2.1 d) (M := s.2.1 c) (p := q) (q := p) x
              have e5 := ct_cut hp x
              have e6 := ct_cut hqd x
              omega
            refine Or.inl ⟨⟨_, by omega, by omega, rfl⟩, ⟨h1.1, fun i hi => ?_, fun i hi => ?_⟩, h2, fun x => ?_, fun x hx => ?_, ⟨h5.1, by have := h5.2; show s.2.2.2.2 ≤ m + 1; omega⟩, ⟨by have := h6.1; show 0 ≤ s.2.2.2.1 + 1; omega, by have := h6.2; show s.2.2.2.1 + 1 ≤ m + 1; omega⟩⟩
            · show (if i = d then bk_tr (s.2.1 d) q (s.2.1 c) p else if i = c then bk_tr (s.2.1 c) p (s.2.1 d) q else s.2.1 i).length ≤ 8 ∧ bk_ok s.1.length (if i = d then bk_tr (s.2.1 d) q (s.2.1 c) p else if i = c then bk_tr (s.2.1 c) p (s.2.1 d) q else s.2.1 i)
              split
              · exact ⟨g3.1.2, bk_ok_tr hwd hw hqd hp⟩
              · split
                · exact ⟨g3.1.1, bk_ok_tr hw hwd hp hqd⟩
                · exact h1.2.1 i hi
            · show 0 ≤ (if i = d then s.2.2.1 d + k else if i = c then s.2.2.1 c - k else s.2.2.1 i) ∧ (if i = d then s.2.2.1 d + k else if i = c then s.2.2.1 c - k else s.2.2.1 i) ≤ 9999
              split
              · omega
              · split
                · omega
                · exact h1.2.2 i hi
            · rw [show ctS _ x = _ from hct x]; exact h3 x
            · rw [show ctS _ x = _ from hct x] at hx; exact h4 x hx
          · exact Or.inr ⟨rfl, Or.inr (Or.inr rfl)⟩
        · exact Or.inr ⟨rfl, Or.inr (Or.inl rfl)⟩
      · exact Or.inr ⟨rfl, Or.inl rfl⟩
