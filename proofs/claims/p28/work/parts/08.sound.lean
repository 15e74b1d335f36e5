/-! ===== the weakest precondition is sound (printed by wip/p28/mksound.py) ===== -/
theorem ab_p1_i {st : List Value} {f : Int32 → List Value → Prop} (h : ab_p1 st f) : ∃ x r, st = .int x :: r ∧ f x r := by
  unfold ab_p1 at h
  split at h
  · exact ⟨_, _,  rfl, h⟩
  · exact h.elim
theorem ab_p2_i {st : List Value} {f : Int32 → Int32 → List Value → Prop} (h : ab_p2 st f) : ∃ x y r, st = .int y :: .int x :: r ∧ f x y r := by
  unfold ab_p2 at h
  split at h
  · exact ⟨_, _, _,  rfl, h⟩
  · exact h.elim
theorem ab_p3_i {st : List Value} {f : Int32 → Int32 → Nat → List Value → Prop} (h : ab_p3 st f) : ∃ x i b r, st = .int x :: .int i :: .ref b :: r ∧ f x i b r := by
  unfold ab_p3 at h
  split at h
  · exact ⟨_, _, _, _,  rfl, h⟩
  · exact h.elim
theorem ab_pa_i {st : List Value} {f : Int32 → Nat → List Value → Prop} (h : ab_pa st f) : ∃ i b r, st = .int i :: .ref b :: r ∧ f i b r := by
  unfold ab_pa at h
  split at h
  · exact ⟨_, _, _,  rfl, h⟩
  · exact h.elim
theorem ab_pr_i {st : List Value} {f : Nat → List Value → Prop} (h : ab_pr st f) : ∃ b r, st = .ref b :: r ∧ f b r := by
  unfold ab_pr at h
  split at h
  · exact ⟨_, _,  rfl, h⟩
  · exact h.elim
theorem ab_prr_i {st : List Value} {f : Nat → Nat → List Value → Prop} (h : ab_prr st f) : ∃ a b r, st = .ref a :: .ref b :: r ∧ f a b r := by
  unfold ab_prr at h
  split at h
  · exact ⟨_, _, _,  rfl, h⟩
  · exact h.elim
theorem ab_pl_i {st : List Value} {f : Int64 → List Value → Prop} (h : ab_pl st f) : ∃ x r, st = .long x :: r ∧ f x r := by
  unfold ab_pl at h
  split at h
  · exact ⟨_, _,  rfl, h⟩
  · exact h.elim
theorem ab_pll_i {st : List Value} {f : Int64 → Int64 → List Value → Prop} (h : ab_pll st f) : ∃ x y r, st = .long y :: .long x :: r ∧ f x y r := by
  unfold ab_pll at h
  split at h
  · exact ⟨_, _, _,  rfl, h⟩
  · exact h.elim
theorem ab_pil_i {st : List Value} {f : Int64 → Int32 → List Value → Prop} (h : ab_pil st f) : ∃ x y r, st = .int y :: .long x :: r ∧ f x y r := by
  unfold ab_pil at h
  split at h
  · exact ⟨_, _, _,  rfl, h⟩
  · exact h.elim
theorem ab_pf_i {st : List Value} {f : UInt32 → List Value → Prop} (h : ab_pf st f) : ∃ x r, st = .float x :: r ∧ f x r := by
  unfold ab_pf at h
  split at h
  · exact ⟨_, _,  rfl, h⟩
  · exact h.elim
theorem ab_pff_i {st : List Value} {f : UInt32 → UInt32 → List Value → Prop} (h : ab_pff st f) : ∃ x y r, st = .float y :: .float x :: r ∧ f x y r := by
  unfold ab_pff at h
  split at h
  · exact ⟨_, _, _,  rfl, h⟩
  · exact h.elim
theorem ab_pvv_i {st : List Value} {f : Value → Value → List Value → Prop} (h : ab_pvv st f) : ∃ x b r, st = .int x :: .ref b :: r ∧ f (.int x) (.ref b) r := by
  unfold ab_pvv at h
  split at h
  · exact ⟨_, _, _,  rfl, h⟩
  · exact h.elim
theorem ab_pq_i {st : List Value} {f : Value → List Value → Prop} (h : ab_pq st f) : (∃ b r, st = .ref b :: r ∧ f (.ref b) r) ∨ ∃ r, st = .null :: r ∧ f .null r := by
  unfold ab_pq at h
  split at h
  · exact Or.inl ⟨_, _, rfl, h⟩
  · exact Or.inr ⟨_, rfl, h⟩
  · exact h.elim
theorem ab_pn_i {st : List Value} {f g : List Value → Prop} (h : ab_pn st f g) : (∃ b r, st = .ref b :: r ∧ f r) ∨ ∃ r, st = .null :: r ∧ g r := by
  unfold ab_pn at h
  split at h
  · exact Or.inl ⟨_, _, rfl, h⟩
  · exact Or.inr ⟨_, rfl, h⟩
  · exact h.elim
theorem ab_pv_i {st : List Value} {f : Value → List Value → Prop} (h : ab_pv st f) : ∃ v r, st = v :: r ∧ v.category = 1 ∧ f v r := by
  unfold ab_pv at h
  split at h
  · exact ⟨_, _, rfl, rfl, h⟩
  · exact ⟨_, _, rfl, rfl, h⟩
  · exact h.elim
theorem ab_oi_i {v : Option Value} {f : Int32 → Prop} (h : ab_oi v f) : ∃ x, v = some (.int x) ∧ f x := by
  unfold ab_oi at h
  split at h
  · exact ⟨_, rfl, h⟩
  · exact h.elim
theorem ab_ol_i {v : Option Value} {f : Int64 → Prop} (h : ab_ol v f) : ∃ x, v = some (.long x) ∧ f x := by
  unfold ab_ol at h
  split at h
  · exact ⟨_, rfl, h⟩
  · exact h.elim
theorem ab_of_i {v : Option Value} {f : UInt32 → Prop} (h : ab_of' v f) : ∃ x, v = some (.float x) ∧ f x := by
  unfold ab_of' at h
  split at h
  · exact ⟨_, rfl, h⟩
  · exact h.elim
theorem ab_or_i {v : Option Value} {f : Value → Prop} (h : ab_or v f) : (∃ x, v = some (.ref x) ∧ f (.ref x)) ∨ (v = some .null ∧ f .null) := by
  unfold ab_or at h
  split at h
  · exact Or.inl ⟨_, rfl, h⟩
  · exact Or.inr ⟨rfl, h⟩
  · exact h.elim
theorem ab_pop_i : ∀ {n : Nat} {acc st : List Value} {f : List Value → List Value → Prop}, ab_pop n acc st f → ∃ xs r, xs.length = n ∧ st = xs ++ r ∧ f (xs.reverse ++ acc) r
  | 0, acc, st, f, h => ⟨[], st, rfl, rfl, h⟩
  | n + 1, acc, [], f, h => h.elim
  | n + 1, acc, v :: st, f, h => by
    obtain ⟨xs, r, h1, h2, h3⟩ := ab_pop_i (n := n) (acc := v :: acc) (st := st) h
    refine ⟨v :: xs, r, by rw [List.length_cons, h1], by rw [h2]; rfl, ?_⟩
    rw [List.reverse_cons, List.append_assoc]
    exact h3
theorem ab_of_toInt (x : Int32) : x = Int32.ofInt x.toInt := (Int32.ofInt_toInt x).symm
theorem ab_sw_i {x : Int32} {f : Nat → Prop} : ∀ {ts : List Nat} {lo : Int} {j : Nat}, ab_sw x f lo ts → j < ts.length → x.toInt = lo + j → ∃ t, ts[j]? = some t ∧ f t
  | [], lo, j, h, hj, hx => absurd hj (Nat.not_lt_zero _)
  | t :: ts, lo, 0, h, hj, hx => ⟨t, rfl, h.1 (by rw [ab_of_toInt x, hx]; congr 1; omega)⟩
  | t :: ts, lo, j + 1, h, hj, hx => by
    obtain ⟨u, h1, h2⟩ := ab_sw_i (ts := ts) (lo := lo + 1) (j := j) h.2 (by simpa using hj) (by rw [hx]; omega)
    exact ⟨u, h1, h2⟩
theorem ab_cksw_len {pc : Nat} : ∀ {os : List Int} {ts : List Nat}, ab_cksw pc os ts = true → os.length = ts.length
  | [], [], _ => rfl
  | [], _ :: _, h => by cases h
  | _ :: _, [], h => by cases h
  | o :: os, t :: ts, h => by
    simp only [ab_cksw, Bool.and_eq_true] at h
    rw [List.length_cons, List.length_cons, ab_cksw_len h.2]
theorem ab_cksw_i {pc : Nat} : ∀ {os : List Int} {ts : List Nat} {j : Nat} {t : Nat}, ab_cksw pc os ts = true → ts[j]? = some t → ∃ off, os[j]? = some off ∧ (pc : Int) + off = (t : Int)
  | [], [], j, t, _, h => by cases j <;> cases h
  | [], _ :: _, _, _, h, _ => by cases h
  | _ :: _, [], _, _, h, _ => by cases h
  | o :: os, u :: ts, 0, t, h, ht => by
    simp only [ab_cksw, Bool.and_eq_true, decide_eq_true_eq] at h
    cases ht
    exact ⟨o, rfl, h.1⟩
  | o :: os, u :: ts, j + 1, t, h, ht => by
    simp only [ab_cksw, Bool.and_eq_true] at h
    exact ab_cksw_i (os := os) (ts := ts) (j := j) h.2 ht
theorem fb0_bmod {z : Int} (h1 : -2147483648 ≤ z) (h2 : z < 2147483648) : z.bmod (2 ^ 32) = z := by
  rw [Int.bmod_def]
  omega
theorem ab_lk_i {pc : Nat} {x : Int32} {f : Nat → Prop} {df : Nat} {dfo : Int} (hd : (pc : Int) + dfo = (df : Int)) : ∀ {ps : List (Int × Int)} {ts : List Nat}, (∀ p ∈ ps, -2147483648 ≤ p.1 ∧ p.1 < 2147483648) → ab_cksw pc (ps.map Prod.snd) ts = true → ab_lk2 x f df ps ts → ∃ t : Nat, (pc : Int) + Op.lookupswitch.offset ps dfo x.toInt = (t : Int) ∧ f t
  | [], [], _, _, h => ⟨df, hd, h⟩
  | [], _ :: _, _, hc, h => by cases hc
  | _ :: _, [], _, hc, h => by cases hc
  | (a, o) :: ps, t :: ts, hr, hc, h => by
    simp only [List.map_cons, ab_cksw, Bool.and_eq_true, decide_eq_true_eq] at hc
    rw [Op.lookupswitch.offset_cons]
    by_cases hx : a = x.toInt
    · rw [if_pos hx]
      exact ⟨t, hc.1, h.1 (by rw [ab_of_toInt x, ← hx])⟩
    · rw [if_neg hx]
      refine ab_lk_i hd (fun p hp => hr p (List.mem_cons_of_mem _ hp)) hc.2 (h.2 (fun q => hx ?_))
      have h1 := hr (a, o) List.mem_cons_self
      have h2 := congrArg Int32.toInt q
      rw [Int32.toInt_ofInt] at h2
      have h3 : a.bmod (2 ^ 32) = a := fb0_bmod h1.1 h1.2
      exact (h2.trans h3).symm

theorem ab_lk_of {k idx ci f p nest : Nat} (h : ab_cklink k idx ci f p nest = true) : ab_lk k idx (ab_tx ci f) := by
  unfold ab_cklink at h
  split at h
  · exact Or.inl (ab_w_in h)
  · exact Or.inr ⟨_, ab_wn_in h⟩
theorem ab_mnk {k idx y p nest : Nat} (h : (match nest with | 0 => ab_w p (.methodLink (ab_yn k).cls idx (ab_yn y)) | _ => ab_wn p (.methodLinkNest (ab_yn k).cls idx (ab_yn y) "FairBooks")) = true) : Jvm.Cond.methodLink (ab_yn k).cls idx (ab_yn y) ∈ ab_Tg ∨ Jvm.Cond.methodLinkNest (ab_yn k).cls idx (ab_yn y) "FairBooks" ∈ ab_nw := by
  split at h
  · exact Or.inl (ab_w_in h)
  · exact Or.inr (ab_wn_in h)
section ABS
variable {d k pc len n bc bs : Nat} {dt : List Nat} {v : Int} {ls : List (Option Value)} {st : List Value} {h : ab_H} {J : Nat → ab_K} {K : ab_K} {Q : Option Value → ab_H → Prop}
theorem ab_cs0 {idx : Nat} (hdc : decode (ab_cod k) pc = .ok (.invokevirtual idx, 3)) (h0 : ab_d2 dt = 0) (hc : ab_ckcall k idx dt = true) (hs : ab_call d dt n bc bs ls st h K) (hK : ∀ n bc bs ls st h, K n bc bs ls st h → ab_W d k (pc + 3) n bc bs ls st h Q) : ab_W d k pc n bc bs ls st h Q := by
  unfold ab_ckcall at hc
  unfold ab_call at hs
  rw [h0] at hc hs
  simp only [Bool.and_eq_true, decide_eq_true_eq] at hc hs
  obtain ⟨c1, c2, c3, c4, c5, c6, c7, c8, c9, c10, c11, c12⟩ := hc
  obtain ⟨xs, r, e1, e2, e3, e4, e5, e6⟩ := ab_pop_i hs
  rw [List.append_nil] at e5 e6
  subst e2
  cases hx : xs.reverse with
  | nil => rw [hx] at e5; exact e5.elim
  | cons w as =>
    rw [hx] at e5 e6
    cases w with
    | ref b =>
      have hxs : xs = as.reverse ++ [.ref b] := by rw [← List.reverse_reverse xs, hx, List.reverse_cons]
      have hl : as.length = ab_d1 dt - 1 := by rw [← e1, hxs]; simp
      rw [hxs, List.append_assoc]
      have g := ar_cV (bc := bc) (bs := bs) (ls := ls) (st := r) (Q := Q) hdc ⟨c1, c2⟩ e3 e4 (ab_w_in c5) (ab_w_in c6) (ab_w_in c8) (ab_w_in c7) c9 c10 e5.1 e5.2 c11 hl e6 (fun rv h' q => by rw [c3]; exact hK _ _ _ _ _ _ q)
      rw [c3, c4] at g
      exact g
    | int _ => exact e5.elim
    | long _ => exact e5.elim
    | float _ => exact e5.elim
    | double _ => exact e5.elim
    | null => exact e5.elim
    | retAddr _ => exact e5.elim
theorem ab_cs1 {idx : Nat} (hdc : decode (ab_cod k) pc = .ok (.invokestatic idx, 3)) (h0 : ab_d2 dt = 1) (hc : ab_ckcall k idx dt = true) (hs : ab_call d dt n bc bs ls st h K) (hK : ∀ n bc bs ls st h, K n bc bs ls st h → ab_W d k (pc + 3) n bc bs ls st h Q) : ab_W d k pc n bc bs ls st h Q := by
  unfold ab_ckcall at hc
  unfold ab_call at hs
  rw [h0] at hc hs
  simp only [Bool.and_eq_true, decide_eq_true_eq] at hc hs
  obtain ⟨c1, c2, c3, c4, c5, c6, c8, c11⟩ := hc
  obtain ⟨xs, r, e1, e2, e3, e4, e6⟩ := ab_pop_i hs
  rw [List.append_nil] at e6
  subst e2
  have hl : xs.reverse.length = ab_d1 dt := by rw [List.length_reverse]; exact e1
  rw [show xs = xs.reverse.reverse from (List.reverse_reverse xs).symm]
  rcases ab_mnk c5 with q | q
  · have g := ar_cS (bc := bc) (bs := bs) (ls := ls) (st := r) (Q := Q) hdc ⟨c1, c2⟩ e3 e4 q (ab_w_in c6) (ab_w_in c8) c11 hl e6 (fun rv h' q => by rw [c3]; exact hK _ _ _ _ _ _ q)
    rw [c3, c4] at g
    exact g
  · have g := ar_cSN (bc := bc) (bs := bs) (ls := ls) (st := r) (Q := Q) hdc ⟨c1, c2⟩ e3 e4 q (ab_w_in c6) (ab_w_in c8) c11 hl e6 (fun rv h' q => by rw [c3]; exact hK _ _ _ _ _ _ q)
    rw [c3, c4] at g
    exact g
theorem ab_cs2 {idx : Nat} (hdc : decode (ab_cod k) pc = .ok (.invokespecial idx, 3)) (h0 : ab_d2 dt = 2) (hc : ab_ckcall k idx dt = true) (hs : ab_call d dt n bc bs ls st h K) (hK : ∀ n bc bs ls st h, K n bc bs ls st h → ab_W d k (pc + 3) n bc bs ls st h Q) : ab_W d k pc n bc bs ls st h Q := by
  unfold ab_ckcall at hc
  unfold ab_call at hs
  rw [h0] at hc hs
  simp only [Bool.and_eq_true, decide_eq_true_eq] at hc hs
  obtain ⟨c1, c2, c5, c6, c8, c9, c10, c11, c12⟩ := hc
  obtain ⟨xs, r, e1, e2, e3, e4, e5, e7, e8, e6⟩ := ab_pop_i hs
  rw [List.append_nil] at e5 e6
  subst e2
  cases hx : xs.reverse with
  | nil => rw [hx] at e5; exact e5.elim
  | cons w as =>
    rw [hx] at e5 e6
    cases w with
    | ref b =>
      have hxs : xs = as.reverse ++ [.ref b] := by rw [← List.reverse_reverse xs, hx, List.reverse_cons]
      have hl : as.length = ab_d1 dt - 1 := by rw [← e1, hxs]; simp
      rw [hxs, List.append_assoc]
      rcases ab_mnk c5 with q | q
      · have g := ar_cI (bc := bc - ab_mc (ab_d0 dt)) (bs := bs - ab_ms (ab_d0 dt)) (ls := ls) (st := r) (Q := Q) hdc ⟨c1, c2⟩ e3 e4 q (ab_w_in c6) (ab_w_in c8) c9 c10 c11 hl e6 (fun rv h' q => hK _ _ _ _ _ _ q)
        rw [Nat.sub_add_cancel e7, Nat.sub_add_cancel e8] at g
        exact g
      · have g := ar_cIN (bc := bc - ab_mc (ab_d0 dt)) (bs := bs - ab_ms (ab_d0 dt)) (ls := ls) (st := r) (Q := Q) hdc ⟨c1, c2⟩ e3 e4 q (ab_w_in c6) (ab_w_in c8) c9 c10 c11 hl e6 (fun rv h' q => hK _ _ _ _ _ _ q)
        rw [Nat.sub_add_cancel e7, Nat.sub_add_cancel e8] at g
        exact g
    | int _ => exact e5.elim
    | long _ => exact e5.elim
    | float _ => exact e5.elim
    | double _ => exact e5.elim
    | null => exact e5.elim
    | retAddr _ => exact e5.elim
theorem ab_cs3 {idx : Nat} (hdc : decode (ab_cod k) pc = .ok (.invokespecial idx, 3)) (h0 : ab_d2 dt = 3) (hc : ab_ckcall k idx dt = true) (hs : ab_call d dt n bc bs ls st h K) (hK : ∀ n bc bs ls st h, K n bc bs ls st h → ab_W d k (pc + 3) n bc bs ls st h Q) : ab_W d k pc n bc bs ls st h Q := by
  unfold ab_ckcall at hc
  unfold ab_call at hs
  rw [h0] at hc hs
  simp only [Bool.and_eq_true] at hc hs
  obtain ⟨b, r, rfl, e3, e4, e5⟩ := ab_pr_i hs
  exact ar_objInit hdc e3 e4 (ab_w_in hc.1) (ab_w_in hc.2.1) (ab_w_in hc.2.2) (hK _ _ _ _ _ _ e5)
theorem ab_cs4 {idx : Nat} (hdc : decode (ab_cod k) pc = .ok (.invokestatic idx, 3)) (h0 : 4 ≤ ab_d2 dt) (hc : ab_ckcall k idx dt = true) (hs : ab_call d dt n bc bs ls st h K) (hK : ∀ n bc bs ls st h, K n bc bs ls st h → ab_W d k (pc + 3) n bc bs ls st h Q) : ab_W d k pc n bc bs ls st h Q := by
  unfold ab_ckcall at hc
  unfold ab_call at hs
  obtain ⟨z, hz⟩ : ∃ z, z = ab_d2 dt := ⟨_, rfl⟩
  rw [← hz] at h0 hc hs
  match z, h0, hc, hs with
  | 4, _, hc, hs =>
    simp only [Bool.and_eq_true] at hc hs
    obtain ⟨x, r, rfl, e3, e4, e5⟩ := ab_pf_i hs
    exact ar_raw hdc e3 e4 (ab_w_in hc.1) (ab_w_in hc.2.1) (ab_w_in hc.2.2.1) (ab_w_in hc.2.2.2) (hK _ _ _ _ _ _ e5)
  | 5, _, hc, hs =>
    simp only [Bool.and_eq_true] at hc hs
    obtain ⟨x, y, r, rfl, e3, e4, e5⟩ := ab_p2_i hs
    exact ar_max hdc e3 e4 (ab_w_in hc.1) (ab_w_in hc.2.1) (ab_w_in hc.2.2.1) (ab_w_in hc.2.2.2) (hK _ _ _ _ _ _ e5)
  | 6, _, hc, hs =>
    simp only [Bool.and_eq_true] at hc hs
    obtain ⟨x, y, r, rfl, e3, e4, e5⟩ := ab_p2_i hs
    exact ar_min hdc e3 e4 (ab_w_in hc.1) (ab_w_in hc.2.1) (ab_w_in hc.2.2.1) (ab_w_in hc.2.2.2) (hK _ _ _ _ _ _ e5)
  | z + 7, _, hc, hs => exact hs.elim
theorem ab_int_ty {ci f : Nat} (hk : ab_fk ci f = 0) : ab_ty ci f = .int := by
  unfold ab_fk at hk
  split at hk
  · assumption
  · omega
  · omega
theorem ab_bool_ty {ci f : Nat} (hk : ab_fk ci f = 2) : ab_ty ci f = .boolean := by
  unfold ab_fk at hk
  split at hk
  · omega
  · assumption
  · omega
theorem ab_ref_ty {ci f : Nat} (hc : ci < 8) (hf : f < ab_nf ci) (hk : ab_fk ci f = 1) : (∀ a, narrow (ab_ty ci f) (.ref a) = .ref a) ∧ ∀ a, fits (ab_ty ci f) (.ref a) = true := by
  have h1 := List.all_eq_true.mp (List.all_eq_true.mp ab_tk9 ci (List.mem_range.mpr hc)) f (List.mem_range.mpr hf)
  unfold ab_fk at hk
  cases ht : ab_ty ci f <;> rw [ht] at h1 hk <;> first | (cases h1; done) | (exact ⟨fun _ => rfl, fun _ => rfl⟩) | (simp at hk)
set_option maxHeartbeats 4000000 in
theorem ab_step_ok {i : Instr} (hc : ab_ck k pc i len dt v = true) (hs : ab_step d J Q i dt v n bc bs ls st h K) (hK : ∀ n bc bs ls st h, K n bc bs ls st h → ab_W d k (pc + len) n bc bs ls st h Q) (hJ : ∀ t n bc bs ls st h, J t n bc bs ls st h → ab_W d k t n bc bs ls st h Q) : ab_W d k pc n bc bs ls st h Q := by
  cases i
  case nop =>
    simp only [ab_ck, Bool.and_eq_true, decide_eq_true_eq, ab_dc] at hc
    have g := hJ _ _ _ _ _ _ _ hs
    rw [hc] at g
    exact g
  case iadd =>
    simp only [ab_ck, Bool.and_eq_true, decide_eq_true_eq, ab_dc] at hc
    obtain ⟨rfl⟩ := hc.2
    obtain ⟨x, y, r, rfl, hk⟩ := ab_p2_i hs
    exact ar_iadd hc.1 (hK _ _ _ _ _ _ hk)
  case isub =>
    simp only [ab_ck, Bool.and_eq_true, decide_eq_true_eq, ab_dc] at hc
    obtain ⟨rfl⟩ := hc.2
    obtain ⟨x, y, r, rfl, hk⟩ := ab_p2_i hs
    exact ar_isub hc.1 (hK _ _ _ _ _ _ hk)
  case imul =>
    simp only [ab_ck, Bool.and_eq_true, decide_eq_true_eq, ab_dc] at hc
    obtain ⟨rfl⟩ := hc.2
    obtain ⟨x, y, r, rfl, hk⟩ := ab_p2_i hs
    exact ar_imul hc.1 (hK _ _ _ _ _ _ hk)
  case iand =>
    simp only [ab_ck, Bool.and_eq_true, decide_eq_true_eq, ab_dc] at hc
    obtain ⟨rfl⟩ := hc.2
    obtain ⟨x, y, r, rfl, hk⟩ := ab_p2_i hs
    exact ar_iand hc.1 (hK _ _ _ _ _ _ hk)
  case ior =>
    simp only [ab_ck, Bool.and_eq_true, decide_eq_true_eq, ab_dc] at hc
    obtain ⟨rfl⟩ := hc.2
    obtain ⟨x, y, r, rfl, hk⟩ := ab_p2_i hs
    exact ar_ior hc.1 (hK _ _ _ _ _ _ hk)
  case ixor =>
    simp only [ab_ck, Bool.and_eq_true, decide_eq_true_eq, ab_dc] at hc
    obtain ⟨rfl⟩ := hc.2
    obtain ⟨x, y, r, rfl, hk⟩ := ab_p2_i hs
    exact ar_ixor hc.1 (hK _ _ _ _ _ _ hk)
  case ishl =>
    simp only [ab_ck, Bool.and_eq_true, decide_eq_true_eq, ab_dc] at hc
    obtain ⟨rfl⟩ := hc.2
    obtain ⟨x, y, r, rfl, hk⟩ := ab_p2_i hs
    exact ar_ishl hc.1 (hK _ _ _ _ _ _ hk)
  case ishr =>
    simp only [ab_ck, Bool.and_eq_true, decide_eq_true_eq, ab_dc] at hc
    obtain ⟨rfl⟩ := hc.2
    obtain ⟨x, y, r, rfl, hk⟩ := ab_p2_i hs
    exact ar_ishr hc.1 (hK _ _ _ _ _ _ hk)
  case iushr =>
    simp only [ab_ck, Bool.and_eq_true, decide_eq_true_eq, ab_dc] at hc
    obtain ⟨rfl⟩ := hc.2
    obtain ⟨x, y, r, rfl, hk⟩ := ab_p2_i hs
    exact ar_iushr hc.1 (hK _ _ _ _ _ _ hk)
  case idiv =>
    simp only [ab_ck, Bool.and_eq_true, decide_eq_true_eq, ab_dc] at hc
    obtain ⟨rfl⟩ := hc.2
    obtain ⟨x, y, r, rfl, hz, hk⟩ := ab_p2_i hs
    exact ar_idiv hc.1 hz (hK _ _ _ _ _ _ hk)
  case irem =>
    simp only [ab_ck, Bool.and_eq_true, decide_eq_true_eq, ab_dc] at hc
    obtain ⟨rfl⟩ := hc.2
    obtain ⟨x, y, r, rfl, hz, hk⟩ := ab_p2_i hs
    exact ar_irem hc.1 hz (hK _ _ _ _ _ _ hk)
  case ineg =>
    simp only [ab_ck, Bool.and_eq_true, decide_eq_true_eq, ab_dc] at hc
    obtain ⟨rfl⟩ := hc.2
    obtain ⟨x, r, rfl, hk⟩ := ab_p1_i hs
    exact ar_ineg hc.1 (hK _ _ _ _ _ _ hk)
  case i2f =>
    simp only [ab_ck, Bool.and_eq_true, decide_eq_true_eq, ab_dc] at hc
    obtain ⟨rfl⟩ := hc.2
    obtain ⟨x, r, rfl, hk⟩ := ab_p1_i hs
    exact ar_i2f hc.1 (hK _ _ _ _ _ _ hk)
  case fdiv =>
    simp only [ab_ck, Bool.and_eq_true, decide_eq_true_eq, ab_dc] at hc
    obtain ⟨rfl⟩ := hc.2
    obtain ⟨x, y, r, rfl, hz, hk⟩ := ab_pff_i hs
    exact ar_fdiv hc.1 hz (hK _ _ _ _ _ _ hk)
  case fmul =>
    simp only [ab_ck, Bool.and_eq_true, decide_eq_true_eq, ab_dc] at hc
    obtain ⟨rfl⟩ := hc.2
    obtain ⟨x, y, r, rfl, hz, hk⟩ := ab_pff_i hs
    exact ar_fmul hc.1 hz (hK _ _ _ _ _ _ hk)
  case f2i =>
    simp only [ab_ck, Bool.and_eq_true, decide_eq_true_eq, ab_dc] at hc
    obtain ⟨rfl⟩ := hc.2
    obtain ⟨x, r, rfl, hk⟩ := ab_pf_i hs
    exact ar_f2i hc.1 (hK _ _ _ _ _ _ hk)
  case fcmp op =>
    simp only [ab_ck, Bool.and_eq_true, decide_eq_true_eq, ab_dc] at hc
    obtain ⟨rfl⟩ := hc.2
    obtain ⟨x, y, r, rfl, hk⟩ := ab_pff_i hs
    exact ar_fcmp hc.1 (hK _ _ _ _ _ _ hk)
  case fconst f =>
    simp only [ab_ck, Bool.and_eq_true, decide_eq_true_eq, ab_dc] at hc
    obtain ⟨rfl, hd, rfl⟩ := hc
    exact ar_fconst2 hd (hK _ _ _ _ _ _ hs)
  case aconst_null =>
    simp only [ab_ck, Bool.and_eq_true, decide_eq_true_eq, ab_dc] at hc
    obtain ⟨rfl⟩ := hc.2
    exact ar_aconst_null hc.1 (hK _ _ _ _ _ _ hs)
  case iconst j =>
    simp only [ab_ck, Bool.and_eq_true, decide_eq_true_eq, ab_dc] at hc
    obtain ⟨rfl, hd, rfl⟩ := hc
    exact ar_iconst hd (hK _ _ _ _ _ _ hs)
  case bipush j =>
    simp only [ab_ck, Bool.and_eq_true, decide_eq_true_eq, ab_dc] at hc
    obtain ⟨rfl, hz, hd, rfl⟩ := hc
    exact ar_bipush hd hz (hK _ _ _ _ _ _ hs)
  case sipush j =>
    simp only [ab_ck, Bool.and_eq_true, decide_eq_true_eq, ab_dc] at hc
    obtain ⟨rfl, hz, hd, rfl⟩ := hc
    exact ar_sipush hd hz (hK _ _ _ _ _ _ hs)
  case ldc j =>
    simp only [ab_ck, Bool.and_eq_true, decide_eq_true_eq, ab_dc] at hc
    obtain ⟨hd, rfl, hw⟩ := hc
    simp only [ab_step] at hs
    split at hs
    next he =>
      rw [he] at hw
      exact ar_ldcf hd (ab_w_in hw) (hK _ _ _ _ _ _ hs)
    next he =>
      have hw2 : ab_w (ab_d0 dt) (.constant (ab_yn k).cls j (Int32.ofInt v)) = true := by
        split at hw
        next h1 => exact absurd h1 he
        next => exact hw
      exact ar_ldc hd (ab_w_in hw2) (hK _ _ _ _ _ _ hs)
  case ldc_w j =>
    simp only [ab_ck, Bool.and_eq_true, decide_eq_true_eq, ab_dc] at hc
    obtain ⟨hd, rfl, hw⟩ := hc
    simp only [ab_step] at hs
    split at hs
    next he =>
      rw [he] at hw
      exact ar_ldcwf hd (ab_w_in hw) (hK _ _ _ _ _ _ hs)
    next he =>
      have hw2 : ab_w (ab_d0 dt) (.constant (ab_yn k).cls j (Int32.ofInt v)) = true := by
        split at hw
        next h1 => exact absurd h1 he
        next => exact hw
      exact ar_ldc_w hd (ab_w_in hw2) (hK _ _ _ _ _ _ hs)
  case iload_n j =>
    simp only [ab_ck, Bool.and_eq_true, decide_eq_true_eq, ab_dc] at hc
    obtain ⟨hj, hd, rfl⟩ := hc
    obtain ⟨x, hx, hk⟩ := ab_oi_i hs
    exact ar_iload_n hd (by rw [hj]; exact hx) (hK _ _ _ _ _ _ hk)
  case fload_n j =>
    simp only [ab_ck, Bool.and_eq_true, decide_eq_true_eq, ab_dc] at hc
    obtain ⟨hj, hd, rfl⟩ := hc
    obtain ⟨x, hx, hk⟩ := ab_of_i hs
    exact ar_fload_n hd (by rw [hj]; exact hx) (hK _ _ _ _ _ _ hk)
  case iload j =>
    simp only [ab_ck, Bool.and_eq_true, decide_eq_true_eq, ab_dc] at hc
    obtain ⟨hj, hd, rfl⟩ := hc
    obtain ⟨x, hx, hk⟩ := ab_oi_i hs
    exact ar_iload hd (by rw [hj]; exact hx) (hK _ _ _ _ _ _ hk)
  case aload_n j =>
    simp only [ab_ck, Bool.and_eq_true, decide_eq_true_eq, ab_dc] at hc
    obtain ⟨hj, hd, rfl⟩ := hc
    simp only [ab_step] at hs
    rcases ab_or_i hs with ⟨x, hx, hk⟩ | ⟨hx, hk⟩
    · exact ar_aload_n hd (by rw [hj]; exact hx) (hK _ _ _ _ _ _ hk)
    · exact ar_aload_nN hd (by rw [hj]; exact hx) (hK _ _ _ _ _ _ hk)
  case aload j =>
    simp only [ab_ck, Bool.and_eq_true, decide_eq_true_eq, ab_dc] at hc
    obtain ⟨hj, hd, rfl⟩ := hc
    simp only [ab_step] at hs
    rcases ab_or_i hs with ⟨x, hx, hk⟩ | ⟨hx, hk⟩
    · exact ar_aload hd (by rw [hj]; exact hx) (hK _ _ _ _ _ _ hk)
    · exact ar_aloadN hd (by rw [hj]; exact hx) (hK _ _ _ _ _ _ hk)
  case istore_n j =>
    simp only [ab_ck, Bool.and_eq_true, decide_eq_true_eq, ab_dc] at hc
    obtain ⟨hj, hm, hnl, hd, rfl⟩ := hc
    obtain ⟨x, r, rfl, hk⟩ := ab_p1_i hs
    exact ar_istore_n hd hm (ab_nl_in hnl) (by rw [hj]; exact hK _ _ _ _ _ _ hk)
  case fstore_n j =>
    simp only [ab_ck, Bool.and_eq_true, decide_eq_true_eq, ab_dc] at hc
    obtain ⟨hj, hm, hnl, hd, rfl⟩ := hc
    obtain ⟨x, r, rfl, hk⟩ := ab_pf_i hs
    exact ar_fstore_n hd hm (ab_nl_in hnl) (by rw [hj]; exact hK _ _ _ _ _ _ hk)
  case istore j =>
    simp only [ab_ck, Bool.and_eq_true, decide_eq_true_eq, ab_dc] at hc
    obtain ⟨hj, hm, hnl, hd, rfl⟩ := hc
    obtain ⟨x, r, rfl, hk⟩ := ab_p1_i hs
    exact ar_istore hd hm (ab_nl_in hnl) (by rw [hj]; exact hK _ _ _ _ _ _ hk)
  case astore_n j =>
    simp only [ab_ck, Bool.and_eq_true, decide_eq_true_eq, ab_dc] at hc
    obtain ⟨hj, hm, hnl, hd, rfl⟩ := hc
    simp only [ab_step] at hs
    rcases ab_pq_i hs with ⟨x, r, rfl, hk⟩ | ⟨r, rfl, hk⟩
    · exact ar_astore_n hd hm (ab_nl_in hnl) (by rw [hj]; exact hK _ _ _ _ _ _ hk)
    · exact ar_astore_nN hd hm (ab_nl_in hnl) (by rw [hj]; exact hK _ _ _ _ _ _ hk)
  case astore j =>
    simp only [ab_ck, Bool.and_eq_true, decide_eq_true_eq, ab_dc] at hc
    obtain ⟨hj, hm, hnl, hd, rfl⟩ := hc
    simp only [ab_step] at hs
    rcases ab_pq_i hs with ⟨x, r, rfl, hk⟩ | ⟨r, rfl, hk⟩
    · exact ar_astore hd hm (ab_nl_in hnl) (by rw [hj]; exact hK _ _ _ _ _ _ hk)
    · exact ar_astoreN hd hm (ab_nl_in hnl) (by rw [hj]; exact hK _ _ _ _ _ _ hk)
  case iinc j c =>
    simp only [ab_ck, Bool.and_eq_true, decide_eq_true_eq, ab_dc] at hc
    obtain ⟨hj, rfl, hm, hnl, hd, rfl⟩ := hc
    obtain ⟨x, hx, hk⟩ := ab_oi_i hs
    exact ar_iinc hd hm (ab_nl_in hnl) (by rw [hj]; exact hx) (by rw [hj]; exact hK _ _ _ _ _ _ hk)
  case ladd =>
    simp only [ab_ck, Bool.and_eq_true, decide_eq_true_eq, ab_dc] at hc
    obtain ⟨rfl⟩ := hc.2
    obtain ⟨x, y, r, rfl, hk⟩ := ab_pll_i hs
    exact ar_ladd hc.1 (hK _ _ _ _ _ _ hk)
  case lmul =>
    simp only [ab_ck, Bool.and_eq_true, decide_eq_true_eq, ab_dc] at hc
    obtain ⟨rfl⟩ := hc.2
    obtain ⟨x, y, r, rfl, hk⟩ := ab_pll_i hs
    exact ar_lmul hc.1 (hK _ _ _ _ _ _ hk)
  case land =>
    simp only [ab_ck, Bool.and_eq_true, decide_eq_true_eq, ab_dc] at hc
    obtain ⟨rfl⟩ := hc.2
    obtain ⟨x, y, r, rfl, hk⟩ := ab_pll_i hs
    exact ar_land hc.1 (hK _ _ _ _ _ _ hk)
  case lcmp =>
    simp only [ab_ck, Bool.and_eq_true, decide_eq_true_eq, ab_dc] at hc
    obtain ⟨rfl⟩ := hc.2
    obtain ⟨x, y, r, rfl, hk⟩ := ab_pll_i hs
    exact ar_lcmp hc.1 (hK _ _ _ _ _ _ hk)
  case lshr =>
    simp only [ab_ck, Bool.and_eq_true, decide_eq_true_eq, ab_dc] at hc
    obtain ⟨rfl⟩ := hc.2
    obtain ⟨x, y, r, rfl, hk⟩ := ab_pil_i hs
    exact ar_lshr hc.1 (hK _ _ _ _ _ _ hk)
  case i2l =>
    simp only [ab_ck, Bool.and_eq_true, decide_eq_true_eq, ab_dc] at hc
    obtain ⟨rfl⟩ := hc.2
    obtain ⟨x, r, rfl, hk⟩ := ab_p1_i hs
    exact ar_i2l hc.1 (hK _ _ _ _ _ _ hk)
  case l2i =>
    simp only [ab_ck, Bool.and_eq_true, decide_eq_true_eq, ab_dc] at hc
    obtain ⟨rfl⟩ := hc.2
    obtain ⟨x, r, rfl, hk⟩ := ab_pl_i hs
    exact ar_l2i hc.1 (hK _ _ _ _ _ _ hk)
  case lconst j =>
    simp only [ab_ck, Bool.and_eq_true, decide_eq_true_eq, ab_dc] at hc
    obtain ⟨hz, hd, rfl⟩ := hc
    exact ar_lconst hd hz (hK _ _ _ _ _ _ hs)
  case ldc2_w j =>
    simp only [ab_ck, Bool.and_eq_true, decide_eq_true_eq, ab_dc] at hc
    obtain ⟨hd, rfl, hw⟩ := hc
    exact ar_ldc2_w hd (ab_w_in hw) (hK _ _ _ _ _ _ hs)
  case lload_n j =>
    simp only [ab_ck, Bool.and_eq_true, decide_eq_true_eq, ab_dc] at hc
    obtain ⟨hj, hd, rfl⟩ := hc
    obtain ⟨x, hx, hk⟩ := ab_ol_i hs
    exact ar_lload_n hd (by rw [hj]; exact hx) (hK _ _ _ _ _ _ hk)
  case lload j =>
    simp only [ab_ck, Bool.and_eq_true, decide_eq_true_eq, ab_dc] at hc
    obtain ⟨hj, hd, rfl⟩ := hc
    obtain ⟨x, hx, hk⟩ := ab_ol_i hs
    exact ar_lload hd (by rw [hj]; exact hx) (hK _ _ _ _ _ _ hk)
  case lstore_n j =>
    simp only [ab_ck, Bool.and_eq_true, decide_eq_true_eq, ab_dc] at hc
    obtain ⟨hj, hm, hlo, hnl, hd, rfl⟩ := hc
    obtain ⟨x, r, rfl, hk⟩ := ab_pl_i hs
    exact ar_lstore_n hd hm hlo (ab_nl_in hnl) (by rw [hj]; exact hK _ _ _ _ _ _ hk)
  case lstore j =>
    simp only [ab_ck, Bool.and_eq_true, decide_eq_true_eq, ab_dc] at hc
    obtain ⟨hj, hm, hlo, hnl, hd, rfl⟩ := hc
    obtain ⟨x, r, rfl, hk⟩ := ab_pl_i hs
    exact ar_lstore hd hm hlo (ab_nl_in hnl) (by rw [hj]; exact hK _ _ _ _ _ _ hk)
  case lreturn =>
    simp only [ab_ck, Bool.and_eq_true, decide_eq_true_eq, ab_dc] at hc
    obtain ⟨hrt, hd, rfl⟩ := hc
    simp only [ab_step] at hs
    split at hs
    next x =>
      obtain ⟨rfl, hs⟩ := hs
      exact ar_ret (r := some (.long x)) ⟨hd, hrt⟩ hs
    next => exact hs.elim
  case dup =>
    simp only [ab_ck, Bool.and_eq_true, decide_eq_true_eq, ab_dc] at hc
    obtain ⟨rfl⟩ := hc.2
    simp only [ab_step] at hs
    obtain ⟨w, r, rfl, hw, hk⟩ := ab_pv_i hs
    exact ar_dup hc.1 hw (hK _ _ _ _ _ _ hk)
  case dup2 =>
    simp only [ab_ck, Bool.and_eq_true, decide_eq_true_eq, ab_dc] at hc
    obtain ⟨rfl⟩ := hc.2
    simp only [ab_step] at hs
    obtain ⟨x, b, r, rfl, hk⟩ := ab_pvv_i hs
    exact ar_dup2 hc.1 rfl rfl (hK _ _ _ _ _ _ hk)
  case if_icmp c off =>
    simp only [ab_ck, Bool.and_eq_true, decide_eq_true_eq, ab_dc] at hc
    obtain ⟨ht, hd, rfl⟩ := hc
    obtain ⟨x, y, r, rfl, hk⟩ := ab_p2_i hs
    cases c with
    | eq => exact ar_icmp_eq hd ht (fun q => hJ _ _ _ _ _ _ _ (hk.1 q)) (fun q => hK _ _ _ _ _ _ (hk.2 q))
    | ne => exact ar_icmp_ne hd ht (fun q => hJ _ _ _ _ _ _ _ (hk.1 q)) (fun q => hK _ _ _ _ _ _ (hk.2 q))
    | lt => exact ar_icmp_lt hd ht (fun q => hJ _ _ _ _ _ _ _ (hk.1 q)) (fun q => hK _ _ _ _ _ _ (hk.2 q))
    | ge => exact ar_icmp_ge hd ht (fun q => hJ _ _ _ _ _ _ _ (hk.1 q)) (fun q => hK _ _ _ _ _ _ (hk.2 q))
    | gt => exact ar_icmp_gt hd ht (fun q => hJ _ _ _ _ _ _ _ (hk.1 q)) (fun q => hK _ _ _ _ _ _ (hk.2 q))
    | le => exact ar_icmp_le hd ht (fun q => hJ _ _ _ _ _ _ _ (hk.1 q)) (fun q => hK _ _ _ _ _ _ (hk.2 q))
  case ifCond c off =>
    simp only [ab_ck, Bool.and_eq_true, decide_eq_true_eq, ab_dc] at hc
    obtain ⟨ht, hd, rfl⟩ := hc
    obtain ⟨x, r, rfl, hk⟩ := ab_p1_i hs
    cases c with
    | eq => exact ar_if_eq hd ht (fun q => hJ _ _ _ _ _ _ _ (hk.1 q)) (fun q => hK _ _ _ _ _ _ (hk.2 q))
    | ne => exact ar_if_ne hd ht (fun q => hJ _ _ _ _ _ _ _ (hk.1 q)) (fun q => hK _ _ _ _ _ _ (hk.2 q))
    | lt => exact ar_if_lt hd ht (fun q => hJ _ _ _ _ _ _ _ (hk.1 q)) (fun q => hK _ _ _ _ _ _ (hk.2 q))
    | ge => exact ar_if_ge hd ht (fun q => hJ _ _ _ _ _ _ _ (hk.1 q)) (fun q => hK _ _ _ _ _ _ (hk.2 q))
    | gt => exact ar_if_gt hd ht (fun q => hJ _ _ _ _ _ _ _ (hk.1 q)) (fun q => hK _ _ _ _ _ _ (hk.2 q))
    | le => exact ar_if_le hd ht (fun q => hJ _ _ _ _ _ _ _ (hk.1 q)) (fun q => hK _ _ _ _ _ _ (hk.2 q))
  case goto off =>
    simp only [ab_ck, Bool.and_eq_true, decide_eq_true_eq, ab_dc] at hc
    obtain ⟨ht, hd, rfl⟩ := hc
    exact ar_goto hd ht (hJ _ _ _ _ _ _ _ hs)
  case ifnull off =>
    simp only [ab_ck, Bool.and_eq_true, decide_eq_true_eq, ab_dc] at hc
    obtain ⟨ht, hd, rfl⟩ := hc
    simp only [ab_step] at hs
    rcases ab_pn_i hs with ⟨x, r, rfl, hk⟩ | ⟨r, rfl, hk⟩
    · exact ar_ifnull hd ht (hK _ _ _ _ _ _ hk)
    · exact ar_ifnullN hd ht (hJ _ _ _ _ _ _ _ hk)
  case ifnonnull off =>
    simp only [ab_ck, Bool.and_eq_true, decide_eq_true_eq, ab_dc] at hc
    obtain ⟨ht, hd, rfl⟩ := hc
    simp only [ab_step] at hs
    rcases ab_pn_i hs with ⟨x, r, rfl, hk⟩ | ⟨r, rfl, hk⟩
    · exact ar_ifnonnull hd ht (hJ _ _ _ _ _ _ _ hk)
    · exact ar_ifnonnullN hd ht (hK _ _ _ _ _ _ hk)
  case tableswitch df lo hi offs =>
    simp only [ab_ck, Bool.and_eq_true, decide_eq_true_eq, ab_dc] at hc
    obtain ⟨hw, hh, hd⟩ := hc
    obtain ⟨x, r, rfl, hk1, hk2⟩ := ab_p1_i hs
    cases dt with
    | nil => cases hw
    | cons t0 ts =>
      simp only [ab_cksw, Bool.and_eq_true, decide_eq_true_eq] at hw
      by_cases hx : x.toInt < lo ∨ hi < x.toInt
      · exact ar_tout hd hx hw.1 (hJ _ _ _ _ _ _ _ (hk1 hx))
      · have hlen := ab_cksw_len hw.2
        have hj : (x.toInt - lo).toNat < ts.length := by omega
        obtain ⟨t, ht, hf⟩ := ab_sw_i (j := (x.toInt - lo).toNat) hk2 hj (by omega)
        obtain ⟨off, h1, h2⟩ := ab_cksw_i hw.2 ht
        exact ar_tin hd (fun q => hx (Or.inl q)) (fun q => hx (Or.inr q)) (by rw [← Array.getElem?_toList]; exact h1) h2 (hJ _ _ _ _ _ _ _ hf)
  case lookupswitch df ps =>
    simp only [ab_ck, Bool.and_eq_true, decide_eq_true_eq, ab_dc] at hc
    obtain ⟨hw, hp, hd, hr⟩ := hc
    obtain ⟨x, r, rfl, hk⟩ := ab_p1_i hs
    cases dt with
    | nil => cases hw
    | cons t0 ts =>
      simp only [ab_cksw, Bool.and_eq_true, decide_eq_true_eq] at hw
      obtain ⟨t, h1, h2⟩ := ab_lk_i hw.1 (fun p hp => by have := List.all_eq_true.mp hr p hp; simp only [Bool.and_eq_true, decide_eq_true_eq] at this; exact this) hw.2 hk
      exact ar_lookup hd hp rfl h1 (hJ _ _ _ _ _ _ _ h2)
  case getfield j =>
    simp only [ab_ck, Bool.and_eq_true, decide_eq_true_eq, ab_dc] at hc
    obtain ⟨hl, h9, hf, hkd, hd, rfl⟩ := hc
    obtain ⟨b, r, rfl, ⟨hb, hsh⟩, hk⟩ := ab_pr_i hs
    split at hk
    next he =>
      rw [he] at hkd
      simp only [decide_eq_true_eq] at hkd
      exact ar_get hd h9 hf hb hsh (ab_lk_of hl) (v := .ref (h.2 b (ab_d1 dt))) (fun base => by unfold ab_fv; rw [if_pos hkd, if_neg (by have := hk.1; unfold ab_nul; omega)]; rfl) (hK _ _ _ _ _ _ hk.2)
    next he =>
      have hkd2 : ab_fk (ab_d0 dt) (ab_d1 dt) ≠ 1 := by
        split at hkd
        next h1 => exact absurd h1 he
        next => simpa using hkd
      exact ar_get hd h9 hf hb hsh (ab_lk_of hl) (v := .int (h.1 b (ab_d1 dt))) (fun base => by unfold ab_fv; rw [if_neg hkd2]; rfl) (hK _ _ _ _ _ _ hk)
  case putfield j =>
    simp only [ab_ck, Bool.and_eq_true, decide_eq_true_eq, ab_dc] at hc
    obtain ⟨hl, h9, hf, hkd, hfin, hd, rfl⟩ := hc
    have hfi : (ab_tx (ab_d0 dt) (ab_d1 dt)).2.2.2 = false ∨ ((ab_tx (ab_d0 dt) (ab_d1 dt)).2.2.2 = true ∧ (ab_yn k).name = "<init>" ∧ (ab_tx (ab_d0 dt) (ab_d1 dt)).1 = (ab_yn k).cls ∧ Jvm.Cond.fieldLink (ab_yn k).cls j (ab_tx (ab_d0 dt) (ab_d1 dt)).1 (ab_tx (ab_d0 dt) (ab_d1 dt)).2.1 (ab_tx (ab_d0 dt) (ab_d1 dt)).2.2.1 ∈ ab_Tg) := by
      split at hfin
      · exact Or.inl (by simpa using hfin)
      · simp only [Bool.and_eq_true, decide_eq_true_eq] at hfin
        exact Or.inr ⟨hfin.1, hfin.2.1, hfin.2.2.1, ab_w_in hfin.2.2.2⟩
    simp only [ab_step] at hs
    split at hs
    next he =>
      obtain ⟨a, b, r, rfl, ⟨hb, hsh⟩, ha, hk⟩ := ab_prr_i hs
      rw [he] at hkd
      simp only [decide_eq_true_eq] at hkd
      have hty := ab_ref_ty h9 hf hkd
      exact ar_put hd h9 hf hb hsh (ab_lk_of hl) hfi (v := .ref a) (fun base => hty.1 (base + a)) (fun base => hty.2 (base + a)) (fun base => ab_ob_hr hf hkd (by unfold ab_nul; omega)) (fun cA base k hk => ab_ce_hr hk) (hK _ _ _ _ _ _ hk)
    next he =>
      obtain ⟨x, b, r, rfl, ⟨hb, hsh⟩, hx, hk⟩ := ab_pa_i hs
      rw [he] at hkd
      simp only [decide_eq_true_eq] at hkd
      have hty := ab_bool_ty hkd
      exact ar_put hd h9 hf hb hsh (ab_lk_of hl) hfi (v := .int x) (fun base => by rw [hty]; rcases hx with rfl | rfl <;> rfl) (fun base => by rw [hty]; rcases hx with rfl | rfl <;> rfl) (fun base => ab_ob_hi hf (by rw [hkd]; decide)) (fun cA base k hk => ab_ce_hi hk) (hK _ _ _ _ _ _ hk)
    next he1 he2 =>
      obtain ⟨x, b, r, rfl, ⟨hb, hsh⟩, hk⟩ := ab_pa_i hs
      have hkd2 : ab_fk (ab_d0 dt) (ab_d1 dt) = 0 := by
        split at hkd
        next h1 => exact absurd h1 he1
        next h1 => exact absurd h1 he2
        next => simpa using hkd
      have hty := ab_int_ty hkd2
      exact ar_put hd h9 hf hb hsh (ab_lk_of hl) hfi (v := .int x) (fun base => by rw [hty]; rfl) (fun base => by rw [hty]; rfl) (fun base => ab_ob_hi hf (by rw [hkd2]; decide)) (fun cA base k hk => ab_ce_hi hk) (hK _ _ _ _ _ _ hk)
  case arraylength =>
    simp only [ab_ck, Bool.and_eq_true, decide_eq_true_eq, ab_dc] at hc
    obtain ⟨rfl⟩ := hc.2
    obtain ⟨b, r, rfl, ⟨hb, hsh⟩, hk⟩ := ab_pr_i hs
    exact ar_alen hc.1 hb hsh (hK _ _ _ _ _ _ hk)
  case iaload =>
    simp only [ab_ck, Bool.and_eq_true, decide_eq_true_eq, ab_dc] at hc
    obtain ⟨rfl⟩ := hc.2
    obtain ⟨i, b, r, rfl, ⟨hb, hsh⟩, hi, hk⟩ := ab_pa_i hs
    exact ar_iald hc.1 hb hsh hi (hK _ _ _ _ _ _ hk)
  case iastore =>
    simp only [ab_ck, Bool.and_eq_true, decide_eq_true_eq, ab_dc] at hc
    obtain ⟨rfl⟩ := hc.2
    obtain ⟨x, i, b, r, rfl, ⟨hb, hsh⟩, hi, hk⟩ := ab_p3_i hs
    exact ar_iast hc.1 hb hsh hi (hK _ _ _ _ _ _ hk)
  case new j =>
    simp only [ab_ck, Bool.and_eq_true, decide_eq_true_eq, ab_dc] at hc
    obtain ⟨h9, hw1, hw2, hw3, hd, rfl⟩ := hc
    obtain ⟨hsh, hb, hb2, hk⟩ := hs
    have g := ar_new (bc := bc - 1) (bs := bs - ab_nf (ab_d0 dt)) hd h9 hsh (ab_w_in hw1) (ab_w_in hw2) (ab_w_in hw3) (hK _ _ _ _ _ _ hk)
    rw [Nat.sub_add_cancel hb, Nat.sub_add_cancel hb2] at g
    exact g
  case newarray t =>
    simp only [ab_ck, Bool.and_eq_true, decide_eq_true_eq, ab_dc] at hc
    obtain ⟨rfl, hw1, hd, rfl⟩ := hc
    obtain ⟨x, r, rfl, hx, hx2, hsh, hb, hb2, hk⟩ := ab_p1_i hs
    have g := ar_newa (bc := bc - 1) (bs := bs - x.toNatClampNeg) hd hx rfl hx2 hsh (ab_w_in hw1) (hK _ _ _ _ _ _ hk)
    rw [Nat.sub_add_cancel hb, Nat.sub_add_cancel hb2] at g
    exact g
  case invokevirtual j =>
    simp only [ab_ck, Bool.and_eq_true, decide_eq_true_eq, ab_dc] at hc
    obtain ⟨h0, hcc, hd, rfl⟩ := hc
    exact ab_cs0 hd h0 hcc hs hK
  case invokestatic j =>
    simp only [ab_ck, Bool.and_eq_true, decide_eq_true_eq, ab_dc] at hc
    obtain ⟨h0, hcc, hd, rfl⟩ := hc
    rcases h0 with h0 | h0
    · exact ab_cs1 hd h0 hcc hs hK
    · exact ab_cs4 hd h0 hcc hs hK
  case invokespecial j =>
    simp only [ab_ck, Bool.and_eq_true, decide_eq_true_eq, ab_dc] at hc
    obtain ⟨h0, hcc, hd, rfl⟩ := hc
    rcases h0 with h0 | h0
    · exact ab_cs2 hd h0 hcc hs hK
    · exact ab_cs3 hd h0 hcc hs hK
  case ireturn =>
    simp only [ab_ck, Bool.and_eq_true, decide_eq_true_eq, ab_dc] at hc
    obtain ⟨hrt, hd, rfl⟩ := hc
    simp only [ab_step] at hs
    split at hs
    next x =>
      obtain ⟨rfl, hs⟩ := hs
      split at hs
      next he =>
        rw [he] at hrt
        simp only [decide_eq_true_eq] at hrt
        exact ar_ret (r := some (.int x)) ⟨hd, _, hrt, by rcases hs.1 with rfl | rfl <;> rfl⟩ hs.2
      next he =>
        have hrt2 : ab_rt k = some .int := by
          split at hrt
          next h1 => exact absurd h1 he
          next => simpa using hrt
        exact ar_ret (r := some (.int x)) ⟨hd, _, hrt2, rfl⟩ hs
    next => exact hs.elim
  case areturn =>
    simp only [ab_ck, Bool.and_eq_true, decide_eq_true_eq, ab_dc] at hc
    obtain ⟨hrt, hd, rfl⟩ := hc
    simp only [ab_step] at hs
    split at hs
    next x =>
      obtain ⟨rfl, hs⟩ := hs
      exact ar_ret (r := some (.ref x)) ⟨hd, ⟨_, hrt⟩, Or.inr ⟨_, rfl⟩⟩ hs
    next =>
      obtain ⟨rfl, hs⟩ := hs
      exact ar_ret (r := some .null) ⟨hd, ⟨_, hrt⟩, Or.inl rfl⟩ hs
    next => exact hs.elim
  case return_ =>
    simp only [ab_ck, Bool.and_eq_true, decide_eq_true_eq, ab_dc] at hc
    obtain ⟨hrt, hd, rfl⟩ := hc
    simp only [ab_step] at hs
    split at hs
    next =>
      obtain ⟨rfl, hs⟩ := hs
      exact ar_ret (r := none) ⟨hd, hrt⟩ hs
    next => exact hs.elim
  all_goals exact False.elim hs
theorem ab_wp_ok (hJ : ∀ t n bc bs ls st h, J t n bc bs ls st h → ab_W d k t n bc bs ls st h Q) : ∀ (os : List ab_O) {pc n bc bs : Nat} {ls : List (Option Value)} {st : List Value} {h : ab_H}, ab_chk k pc os = true → ab_wp d J Q os n bc bs ls st h → ab_W d k pc n bc bs ls st h Q
  | [], _, _, _, _, _, _, _, _, hw => hw.elim
  | (i, len, dt, v) :: os, pc, n, bc, bs, ls, st, h, hc, hw => by
    rw [ab_chk, Bool.and_eq_true] at hc
    exact ab_step_ok hc.1 hw (fun n bc bs ls st h q => ab_wp_ok hJ os hc.2 q) hJ
end ABS
