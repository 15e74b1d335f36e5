/-! ===== what the changes are, for both sides ===== -/
abbrev e_inv : Int32 := Int32.ofInt (-1000001)
abbrev e_np : Int32 := Int32.ofInt (-1000002)
abbrev e_lim : Int32 := Int32.ofInt (-1000003)
abbrev e_nf : Int32 := Int32.ofInt (-1000004)
def up_B (s : St) (c : Nat) (L : Bk) : St := (s.1, (fun d => if d = c then L else s.2.1 d), s.2.2)
def up_C (s : St) (c : Nat) (k : Int) : St := (s.1, s.2.1, (fun d => if d = c then k else s.2.2.1 d), s.2.2.2)
def op_name (s : St) (f t : Int) : Int32 × St :=
  if 1 ≤ f ∧ f ≤ 50 ∧ 0 ≤ t ∧ t ≤ 3 then (if 16 ≤ s.1.length then (e_lim, s) else (Int32.ofInt s.1.length, (s.1 ++ [(Int32.ofInt f, Int32.ofInt t)], s.2))) else (e_inv, s)
def op_leaf (s : St) (c : Int) : Int32 × St :=
  if 0 ≤ c ∧ c ≤ 3 then (if 8 ≤ (s.2.1 c.toNat).length then (e_lim, s) else (Int32.ofInt s.2.2.2.2, ((s.1, (fun d => if d = c.toNat then s.2.1 c.toNat ++ [lf_new (Int32.ofInt s.2.2.2.2)] else s.2.1 d), s.2.2.1, s.2.2.2.1, s.2.2.2.2 + 1)))) else (e_inv, s)
def lf_put (l : Lf) (side : Nat) (n t : Int32) : Lf := if side = 0 then (lf_num l, n, t, lf_bn l, lf_bt l, lf_ov l) else (lf_num l, lf_fn l, lf_ft l, n, t, lf_ov l)
def op_enter (s : St) (x : Int32) (side nm : Int) (t : Int32) : Int32 × St :=
  match st_fi s.2.1 x with
  | none => (e_inv, s)
  | some (c, p) =>
    if (0 ≤ side ∧ side ≤ 1) ∧ 0 ≤ nm ∧ nm < s.1.length then
      (if pg_k (s.2.1 c) (2 * p + side.toNat) = Int32.ofInt 0 then
        (w_worth s.1 (Int32.ofInt c) ((s.2.1 c).set p (lf_put (lf_at (s.2.1 c) p) side.toNat (Int32.ofInt nm) t)), up_B s c ((s.2.1 c).set p (lf_put (lf_at (s.2.1 c) p) side.toNat (Int32.ofInt nm) t)))
      else (e_np, s))
    else (e_inv, s)
def lf_over (l : Lf) (n : Int32) : Lf := (lf_num l, lf_fn l, lf_ft l, n, Int32.ofInt (-1), Int32.ofInt 1)
def op_over (s : St) (x : Int32) (nm : Int) : Int32 × St :=
  match st_fi s.2.1 x with
  | none => (e_inv, s)
  | some (c, p) =>
    if 0 ≤ nm ∧ nm < s.1.length then
      (if p + 1 < (s.2.1 c).length ∧ pg_k (s.2.1 c) (2 * p + 1) = Int32.ofInt 0 ∧ pg_k (s.2.1 c) (2 * p + 2) = Int32.ofInt 0 then
        (Int32.ofInt ((bu_e ((s.2.1 c).set p (lf_over (lf_at (s.2.1 c) p) (Int32.ofInt nm))) p - bu_f ((s.2.1 c).set p (lf_over (lf_at (s.2.1 c) p) (Int32.ofInt nm))) p : Nat) : Int), up_B s c ((s.2.1 c).set p (lf_over (lf_at (s.2.1 c) p) (Int32.ofInt nm))))
      else (e_np, s))
    else (e_inv, s)
def lf_ded (l : Lf) (side : Nat) (t : Int32) : Lf := if side = 0 then (lf_num l, lf_fn l, t, lf_bn l, lf_bt l, lf_ov l) else (lf_num l, lf_fn l, lf_ft l, lf_bn l, t, lf_ov l)
/-- a book with the entry of a page dedicated -/
def bk_ded (L : Bk) (p side : Nat) (t : Int32) : Bk := if pg_k L (2 * p + side) = Int32.ofInt 3 then L.set (p - 1) (lf_ded (lf_at L (p - 1)) 1 t) else L.set p (lf_ded (lf_at L p) side t)
def op_ded (s : St) (x : Int32) (side k : Int) : Int32 × St :=
  match st_fi s.2.1 x with
  | none => (e_inv, s)
  | some (c, p) =>
    if (0 ≤ side ∧ side ≤ 1) ∧ 0 ≤ k ∧ k ≤ 3 then
      (if pg_k (s.2.1 c) (2 * p + side.toNat) ≠ Int32.ofInt 0 ∧ pg_t (s.2.1 c) (2 * p + side.toNat) = Int32.ofInt (-1) then
        (w_worth s.1 (Int32.ofInt c) (bk_ded (s.2.1 c) p side.toNat (Int32.ofInt k)), up_B s c (bk_ded (s.2.1 c) p side.toNat (Int32.ofInt k)))
      else (e_np, s))
    else (e_inv, s)
def op_move (s : St) (x : Int32) (z : Int) : Int32 × St :=
  match st_fi s.2.1 x with
  | none => (e_inv, s)
  | some (c, p) =>
    if 0 ≤ z then (if bu_ok (s.2.1 c) p z = true then (Int32.ofInt (bu_f (s.2.1 c) p : Nat), up_B s c (bk_mv (s.2.1 c) p z.toNat)) else (e_np, s)) else (e_inv, s)
def op_trade (s : St) (x y : Int32) (k : Int) : Int32 × St :=
  match st_fi s.2.1 x with
  | none => (e_inv, s)
  | some (c, p) => match st_fi s.2.1 y with
    | none => (e_inv, s)
    | some (d, q) =>
      if -9999 ≤ k ∧ k ≤ 9999 then
        (if c ≠ d ∧ 0 ≤ s.2.2.1 c - k ∧ 0 ≤ s.2.2.1 d + k then
          (if ((bk_tr (s.2.1 c) p (s.2.1 d) q).length ≤ 8 ∧ (bk_tr (s.2.1 d) q (s.2.1 c) p).length ≤ 8) ∧ s.2.2.1 c - k ≤ 9999 ∧ s.2.2.1 d + k ≤ 9999 then
            (Int32.ofInt ((bu_e (s.2.1 c) p - bu_f (s.2.1 c) p + (bu_e (s.2.1 d) q - bu_f (s.2.1 d) q) : Nat) : Int),
             (s.1, (fun i => if i = d then bk_tr (s.2.1 d) q (s.2.1 c) p else if i = c then bk_tr (s.2.1 c) p (s.2.1 d) q else s.2.1 i), (fun i => if i = d then s.2.2.1 d + k else if i = c then s.2.2.1 c - k else s.2.2.1 i), s.2.2.2.1 + 1, s.2.2.2.2))
          else (e_lim, s))
        else (e_np, s))
      else (e_inv, s)
def op_tear (s : St) (x : Int32) : Int32 × St :=
  match st_fi s.2.1 x with
  | none => (e_inv, s)
  | some (c, p) => (Int32.ofInt ((bu_e (s.2.1 c) p - bu_f (s.2.1 c) p : Nat) : Int), up_B s c (bk_cut (s.2.1 c) p))
def op_coins (s : St) (c k : Int) : Int32 × St :=
  if (0 ≤ c ∧ c ≤ 3) ∧ 0 ≤ k ∧ k ≤ 9999 then (Int32.ofInt (s.2.2.1 c.toNat), up_C s c.toNat k) else (e_inv, s)
/-- a state that can be: what the class needs of it -/
def st_ok (s : St) : Prop := s.1.length ≤ 16 ∧ (∀ c, c < 4 → (s.2.1 c).length ≤ 8 ∧ bk_ok s.1.length (s.2.1 c)) ∧ ∀ c, c < 4 → 0 ≤ s.2.2.1 c ∧ s.2.2.1 c ≤ 9999
-- pages by the leaf
theorem pg_even (L : Bk) (p : Nat) : pg_k L (2 * p) = (if 0 < p ∧ lf_ov (lf_at L (p - 1)) = Int32.ofInt 1 then Int32.ofInt 3 else if lf_fn (lf_at L p) = Int32.ofInt (-1) then Int32.ofInt 0 else Int32.ofInt 1) ∧
    pg_n L (2 * p) = (if 0 < p ∧ lf_ov (lf_at L (p - 1)) = Int32.ofInt 1 then lf_bn (lf_at L (p - 1)) else lf_fn (lf_at L p)) ∧ pg_t L (2 * p) = (if 0 < p ∧ lf_ov (lf_at L (p - 1)) = Int32.ofInt 1 then lf_bt (lf_at L (p - 1)) else lf_ft (lf_at L p)) := by
  unfold pg_k pg_n pg_t
  refine ⟨?_, ?_, ?_⟩ <;> rw [if_pos (show 2 * p % 2 = 0 by omega), show 2 * p / 2 = p by omega]
theorem pg_odd (L : Bk) (p : Nat) : pg_k L (2 * p + 1) = (if lf_ov (lf_at L p) = Int32.ofInt 1 then Int32.ofInt 2 else if lf_bn (lf_at L p) = Int32.ofInt (-1) then Int32.ofInt 0 else Int32.ofInt 1) ∧
    pg_n L (2 * p + 1) = lf_bn (lf_at L p) ∧ pg_t L (2 * p + 1) = lf_bt (lf_at L p) := by
  unfold pg_k pg_n pg_t
  refine ⟨?_, ?_, ?_⟩ <;> rw [if_neg (show ¬ (2 * p + 1) % 2 = 0 by omega), show (2 * p + 1) / 2 = p by omega]
theorem lf_set {L : Bk} {p j : Nat} {l : Lf} (hp : p < L.length) : lf_at (L.set p l) j = if j = p then l else lf_at L j := by
  unfold lf_at
  rw [List.getD_eq_getElem?_getD, List.getD_eq_getElem?_getD]
  by_cases c : j = p
  · subst c; rw [if_pos rfl, List.getElem?_set_self hp]; rfl
  · rw [if_neg c, List.getElem?_set_ne (Ne.symm c)]
/-- a leaf of a list is changed: what pages stay -/
theorem pg_set {L : Bk} {p : Nat} {l : Lf} (hp : p < L.length) {q : Nat} (h1 : q ≠ 2 * p) (h2 : q ≠ 2 * p + 1) (h3 : q = 2 * p + 2 → (lf_ov l = lf_ov (lf_at L p) ∧ (lf_ov l = Int32.ofInt 1 → lf_bn l = lf_bn (lf_at L p) ∧ lf_bt l = lf_bt (lf_at L p)))) : pg_k (L.set p l) q = pg_k L q ∧ pg_n (L.set p l) q = pg_n L q ∧ pg_t (L.set p l) q = pg_t L q := by
  rcases Nat.mod_two_eq_zero_or_one q with hm | hm
  · obtain ⟨j, rfl⟩ : ∃ j, q = 2 * j := ⟨q / 2, by omega⟩
    obtain ⟨a1, a2, a3⟩ := pg_even (L.set p l) j
    obtain ⟨b1, b2, b3⟩ := pg_even L j
    have hj : j ≠ p := by omega
    rw [a1, a2, a3, b1, b2, b3, lf_set hp, lf_set hp, if_neg hj]
    by_cases c : j - 1 = p ∧ 0 < j
    · obtain ⟨c, c0⟩ := c
      obtain ⟨e1, e2⟩ := h3 (by omega)
      rw [if_pos c, c]
      by_cases d : lf_ov l = Int32.ofInt 1
      · obtain ⟨e3, e4⟩ := e2 d
        rw [← e1, e3, e4]
        exact ⟨rfl, rfl, rfl⟩
      · have d2 : ¬ lf_ov (lf_at L p) = Int32.ofInt 1 := by rw [← e1]; exact d
        have n1 : ¬ (0 < j ∧ lf_ov l = Int32.ofInt 1) := fun q => d q.2
        have n2 : ¬ (0 < j ∧ lf_ov (lf_at L p) = Int32.ofInt 1) := fun q => d2 q.2
        rw [if_neg n1, if_neg n2, if_neg n1, if_neg n2, if_neg n1, if_neg n2]
        exact ⟨rfl, rfl, rfl⟩
    · by_cases c0 : 0 < j
      · rw [if_neg (show ¬ j - 1 = p by omega)]
        exact ⟨rfl, rfl, rfl⟩
      · have n1 : ∀ x : Int32, ¬ (0 < j ∧ x = Int32.ofInt 1) := fun x q => c0 q.1
        rw [if_neg (n1 _), if_neg (n1 _), if_neg (n1 _), if_neg (n1 _), if_neg (n1 _), if_neg (n1 _)]
        exact ⟨rfl, rfl, rfl⟩
  · obtain ⟨j, rfl⟩ : ∃ j, q = 2 * j + 1 := ⟨q / 2, by omega⟩
    obtain ⟨a1, a2, a3⟩ := pg_odd (L.set p l) j
    obtain ⟨b1, b2, b3⟩ := pg_odd L j
    have hj : j ≠ p := by omega
    rw [a1, a2, a3, b1, b2, b3, lf_set hp, if_neg hj]
    exact ⟨rfl, rfl, rfl⟩
/-- a book object after a leaf has changed: its two pages, and the one behind, told -/
theorem sp_Bk_set {I I' : Nat → Nat → Int32} {b p : Nat} {own : Int32} {L : Bk} {l : Lf} (hB : sp_Bk I b own L) (hp : p < L.length) (hn : lf_num l = lf_num (lf_at L p)) (e0 : I' b = I b) (e1 : I' (b + 1) = I (b + 1))
    (hk : ∀ q, q < 2 * L.length → (I' (b + 2) q = I (b + 2) q ∧ I' (b + 3) q = I (b + 3) q ∧ I' (b + 4) q = I (b + 4) q ∧ pg_k (L.set p l) q = pg_k L q ∧ pg_n (L.set p l) q = pg_n L q ∧ pg_t (L.set p l) q = pg_t L q) ∨
      (I' (b + 2) q = pg_k (L.set p l) q ∧ (pg_k (L.set p l) q ≠ Int32.ofInt 0 → I' (b + 3) q = pg_n (L.set p l) q ∧ I' (b + 4) q = pg_t (L.set p l) q))) : sp_Bk I' b own (L.set p l) := by
  obtain ⟨b0, b1, b2, b3, b4⟩ := hB
  have hl : (L.set p l).length = L.length := List.length_set
  refine ⟨by rw [e0]; exact b0, by rw [e0, hl]; exact b1, by rw [hl]; exact b2, fun j hj => ?_, fun q hq => ?_⟩
  · rw [hl] at hj
    rw [e1, lf_set hp, b3 j hj]
    split
    · rename_i c; subst c; exact hn.symm
    · rfl
  · rw [hl] at hq
    rcases hk q hq with ⟨k1, k2, k3, k4, k5, k6⟩ | h
    · rw [k1, k2, k3, k4, k5, k6]; exact b4 q hq
    · exact h
