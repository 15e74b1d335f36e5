/-! ===== the world: fixed references and shapes (head printed by wip/p28/mkworld.py) ===== -/
def ab_fr : List (Nat × Nat × Nat) := [(0, 0, 1), (0, 1, 26), (0, 2, 51), (0, 3, 177), (0, 4, 180), (0, 5, 191), (1, 0, 2), (1, 1, 5), (1, 2, 10), (1, 3, 15), (1, 4, 20), (1, 5, 25), (2, 0, 3), (2, 1, 4), (5, 0, 6), (5, 1, 7), (5, 2, 8), (5, 3, 9), (10, 0, 11), (10, 1, 12), (10, 2, 13), (10, 3, 14), (15, 0, 16), (15, 1, 17), (15, 2, 18), (15, 3, 19), (20, 0, 21), (20, 1, 22), (20, 2, 23), (20, 3, 24), (26, 0, 27), (26, 1, 30), (26, 2, 35), (26, 3, 40), (26, 4, 45), (26, 5, 50), (27, 0, 28), (27, 1, 29), (30, 0, 31), (30, 1, 32), (30, 2, 33), (30, 3, 34), (35, 0, 36), (35, 1, 37), (35, 2, 38), (35, 3, 39), (40, 0, 41), (40, 1, 42), (40, 2, 43), (40, 3, 44), (45, 0, 46), (45, 1, 47), (45, 2, 48), (45, 3, 49), (52, 0, 53), (52, 1, 56), (52, 2, 61), (52, 3, 66), (52, 4, 71), (52, 5, 76), (53, 0, 54), (53, 1, 55), (56, 0, 57), (56, 1, 58), (56, 2, 59), (56, 3, 60), (61, 0, 62), (61, 1, 63), (61, 2, 64), (61, 3, 65), (66, 0, 67), (66, 1, 68), (66, 2, 69), (66, 3, 70), (71, 0, 72), (71, 1, 73), (71, 2, 74), (71, 3, 75), (77, 0, 78), (77, 1, 81), (77, 2, 86), (77, 3, 91), (77, 4, 96), (77, 5, 101), (78, 0, 79), (78, 1, 80), (81, 0, 82), (81, 1, 83), (81, 2, 84), (81, 3, 85), (86, 0, 87), (86, 1, 88), (86, 2, 89), (86, 3, 90), (91, 0, 92), (91, 1, 93), (91, 2, 94), (91, 3, 95), (96, 0, 97), (96, 1, 98), (96, 2, 99), (96, 3, 100), (102, 0, 103), (102, 1, 106), (102, 2, 111), (102, 3, 116), (102, 4, 121), (102, 5, 126), (103, 0, 104), (103, 1, 105), (106, 0, 107), (106, 1, 108), (106, 2, 109), (106, 3, 110), (111, 0, 112), (111, 1, 113), (111, 2, 114), (111, 3, 115), (116, 0, 117), (116, 1, 118), (116, 2, 119), (116, 3, 120), (121, 0, 122), (121, 1, 123), (121, 2, 124), (121, 3, 125), (127, 0, 128), (127, 1, 131), (127, 2, 136), (127, 3, 141), (127, 4, 146), (127, 5, 151), (128, 0, 129), (128, 1, 130), (131, 0, 132), (131, 1, 133), (131, 2, 134), (131, 3, 135), (136, 0, 137), (136, 1, 138), (136, 2, 139), (136, 3, 140), (141, 0, 142), (141, 1, 143), (141, 2, 144), (141, 3, 145), (146, 0, 147), (146, 1, 148), (146, 2, 149), (146, 3, 150), (152, 0, 153), (152, 1, 156), (152, 2, 161), (152, 3, 166), (152, 4, 171), (152, 5, 176), (153, 0, 154), (153, 1, 155), (156, 0, 157), (156, 1, 158), (156, 2, 159), (156, 3, 160), (161, 0, 162), (161, 1, 163), (161, 2, 164), (161, 3, 165), (166, 0, 167), (166, 1, 168), (166, 2, 169), (166, 3, 170), (171, 0, 172), (171, 1, 173), (171, 2, 174), (171, 3, 175), (177, 0, 178), (177, 1, 179), (180, 0, 181), (180, 1, 186), (181, 0, 182), (181, 1, 183), (181, 2, 184), (181, 3, 185), (186, 0, 187), (186, 1, 188), (186, 2, 189), (186, 3, 190)]
def ab_books : List Nat := [5, 10, 15, 20, 30, 35, 40, 45, 56, 61, 66, 71, 81, 86, 91, 96, 106, 111, 116, 121, 131, 136, 141, 146, 156, 161, 166, 171, 181, 186]
def ab_states : List Nat := [1, 26, 52, 77, 102, 127, 152]
def ab_namesl : List Nat := [2, 27, 53, 78, 103, 128, 153]
/-- the references that never change are what the constructors made them -/
def sp_F (h : ab_H) : Prop := ∀ q ∈ ab_fr, h.2 q.1 q.2.1 = q.2.2
theorem sp_F.hi {h : ab_H} {k i : Nat} {v : Int32} (hF : sp_F h) : sp_F (ab_hi h k i v) := hF
theorem sp_F.of {h h' : ab_H} (hF : sp_F h) (e : h'.2 = h.2) : sp_F h' := fun q hq => by rw [e]; exact hF q hq
theorem sp_b_list : ∀ b ∈ ab_books, ((b, 0, b + 1) ∈ ab_fr ∧ (b, 1, b + 2) ∈ ab_fr ∧ (b, 2, b + 3) ∈ ab_fr ∧ (b, 3, b + 4) ∈ ab_fr) ∧ ab_sh b = 2 ∧ ab_sh (b + 1) = 116 ∧ ab_sh (b + 2) = 132 ∧ ab_sh (b + 3) = 132 ∧ ab_sh (b + 4) = 132 ∧ b + 5 ≤ 192 := by decide +kernel
theorem sp_B {h : ab_H} {b : Nat} (hF : sp_F h) (hb : b ∈ ab_books) : h.2 b 0 = b + 1 ∧ h.2 b 1 = b + 2 ∧ h.2 b 2 = b + 3 ∧ h.2 b 3 = b + 4 ∧ ab_sh b = 2 ∧ ab_sh (b + 1) = 116 ∧ ab_sh (b + 2) = 132 ∧ ab_sh (b + 3) = 132 ∧ ab_sh (b + 4) = 132 ∧ b + 5 ≤ 192 := by
  obtain ⟨⟨h0, h1, h2, h3⟩, g⟩ := sp_b_list b hb
  exact ⟨hF _ h0, hF _ h1, hF _ h2, hF _ h3, g⟩
theorem sp_n_list : ∀ a ∈ ab_namesl, ((a, 0, a + 1) ∈ ab_fr ∧ (a, 1, a + 2) ∈ ab_fr) ∧ ab_sh a = 4 ∧ ab_sh (a + 1) = 116 ∧ ab_sh (a + 2) = 116 ∧ a + 3 ≤ 192 := by decide +kernel
theorem sp_N {h : ab_H} {a : Nat} (hF : sp_F h) (ha : a ∈ ab_namesl) : h.2 a 0 = a + 1 ∧ h.2 a 1 = a + 2 ∧ ab_sh a = 4 ∧ ab_sh (a + 1) = 116 ∧ ab_sh (a + 2) = 116 ∧ a + 3 ≤ 192 := by
  obtain ⟨⟨h0, h1⟩, g⟩ := sp_n_list a ha
  exact ⟨hF _ h0, hF _ h1, g⟩
theorem sp_s_list1 : ∀ a ∈ ab_states, (a, 0, a + 1) ∈ ab_fr ∧ (a, 1, a + 4) ∈ ab_fr ∧ (a, 2, a + 9) ∈ ab_fr ∧ (a, 3, a + 14) ∈ ab_fr ∧ (a, 4, a + 19) ∈ ab_fr ∧ (a, 5, a + 24) ∈ ab_fr := by decide +kernel
theorem sp_s_list2 : ∀ a ∈ ab_states, ab_sh a = 6 ∧ ab_sh (a + 24) = 104 ∧ a + 25 ≤ 177 ∧ a + 1 ∈ ab_namesl ∧ a + 4 ∈ ab_books ∧ a + 9 ∈ ab_books ∧ a + 14 ∈ ab_books ∧ a + 19 ∈ ab_books := by decide +kernel
theorem sp_S {h : ab_H} {a : Nat} (hF : sp_F h) (ha : a ∈ ab_states) : h.2 a 0 = a + 1 ∧ h.2 a 1 = a + 4 ∧ h.2 a 2 = a + 9 ∧ h.2 a 3 = a + 14 ∧ h.2 a 4 = a + 19 ∧ h.2 a 5 = a + 24 ∧ ab_sh a = 6 ∧ ab_sh (a + 24) = 104 ∧ a + 25 ≤ 177 ∧ a + 1 ∈ ab_namesl ∧ a + 4 ∈ ab_books ∧ a + 9 ∈ ab_books ∧ a + 14 ∈ ab_books ∧ a + 19 ∈ ab_books := by
  obtain ⟨h0, h1, h2, h3, h4, h5⟩ := sp_s_list1 a ha
  have g := sp_s_list2 a ha
  exact ⟨hF _ h0, hF _ h1, hF _ h2, hF _ h3, hF _ h4, hF _ h5, g⟩
-- reads and writes
theorem hi_2 {h : ab_H} {k i : Nat} {v : Int32} : (ab_hi h k i v).2 = h.2 := rfl
theorem hi_1 {h : ab_H} {k i a j : Nat} {v : Int32} : (ab_hi h k i v).1 a j = if a = k ∧ j = i then v else h.1 a j := rfl
theorem dn_eq_t {a b : Nat} (h : a = b) : (a = b) ↔ True := iff_true_intro h
theorem dn_eq_f {a b : Nat} (h : a ≠ b) : (a = b) ↔ False := iff_false_intro h
theorem ii_s (i : Nat) : (i : Int) + 1 = ((i + 1 : Nat) : Int) := rfl
theorem ii_m (i : Nat) : ((i + 1 : Nat) : Int) - 1 = (i : Int) := by omega
theorem ii_mn (i : Nat) : ((i + 1 : Nat) : Int) + -1 = (i : Int) := by omega
theorem ii_2 (i : Nat) : (2 : Int) * (i : Int) = ((2 * i : Nat) : Int) := rfl
theorem ii_lit (n : Nat) : (OfNat.ofNat n : Int) = ((OfNat.ofNat n : Nat) : Int) := rfl
-- leaves, books
abbrev Lf : Type := Int32 × Int32 × Int32 × Int32 × Int32 × Int32
abbrev Bk : Type := List Lf
abbrev Nm : Type := List (Int32 × Int32)
def lf_0 : Lf := (0, 0, 0, 0, 0, 0)
def lf_num (l : Lf) : Int32 := l.1
def lf_fn (l : Lf) : Int32 := l.2.1
def lf_ft (l : Lf) : Int32 := l.2.2.1
def lf_bn (l : Lf) : Int32 := l.2.2.2.1
def lf_bt (l : Lf) : Int32 := l.2.2.2.2.1
def lf_ov (l : Lf) : Int32 := l.2.2.2.2.2
def lf_at (L : Bk) (p : Nat) : Lf := L.getD p lf_0
/-- what a page is: 0 empty, 1 an entry, 2 the first half of one, 3 the second half -/
def pg_k (L : Bk) (q : Nat) : Int32 :=
  if q % 2 = 0 then (if 0 < q / 2 ∧ lf_ov (lf_at L (q / 2 - 1)) = Int32.ofInt 1 then Int32.ofInt 3 else if lf_fn (lf_at L (q / 2)) = Int32.ofInt (-1) then Int32.ofInt 0 else Int32.ofInt 1)
  else (if lf_ov (lf_at L (q / 2)) = Int32.ofInt 1 then Int32.ofInt 2 else if lf_bn (lf_at L (q / 2)) = Int32.ofInt (-1) then Int32.ofInt 0 else Int32.ofInt 1)
def pg_n (L : Bk) (q : Nat) : Int32 :=
  if q % 2 = 0 then (if 0 < q / 2 ∧ lf_ov (lf_at L (q / 2 - 1)) = Int32.ofInt 1 then lf_bn (lf_at L (q / 2 - 1)) else lf_fn (lf_at L (q / 2))) else lf_bn (lf_at L (q / 2))
def pg_t (L : Bk) (q : Nat) : Int32 :=
  if q % 2 = 0 then (if 0 < q / 2 ∧ lf_ov (lf_at L (q / 2 - 1)) = Int32.ofInt 1 then lf_bt (lf_at L (q / 2 - 1)) else lf_ft (lf_at L (q / 2))) else lf_bt (lf_at L (q / 2))
/-- a book object at b holds the leaves L of an owner -/
def sp_Bk (I : Nat → Nat → Int32) (b : Nat) (own : Int32) (L : Bk) : Prop :=
  I b 4 = own ∧ I b 5 = Int32.ofInt L.length ∧ L.length ≤ 16 ∧ (∀ p, p < L.length → I (b + 1) p = lf_num (lf_at L p)) ∧
  ∀ q, q < 2 * L.length → I (b + 2) q = pg_k L q ∧ (pg_k L q ≠ Int32.ofInt 0 → I (b + 3) q = pg_n L q ∧ I (b + 4) q = pg_t L q)
theorem sp_Bk.frame {I I' : Nat → Nat → Int32} {b : Nat} {own : Int32} {L : Bk} (h : sp_Bk I b own L) (e : ∀ k, b ≤ k → k < b + 5 → I' k = I k) : sp_Bk I' b own L := by
  unfold sp_Bk at h ⊢
  rw [e b (by omega) (by omega), e (b + 1) (by omega) (by omega), e (b + 2) (by omega) (by omega), e (b + 3) (by omega) (by omega), e (b + 4) (by omega) (by omega)]
  exact h
/-- a names object at a holds N -/
def nm_at (N : Nm) (i : Nat) : Int32 × Int32 := N.getD i (0, 0)
def sp_Nm (I : Nat → Nat → Int32) (a : Nat) (N : Nm) : Prop :=
  I a 2 = Int32.ofInt N.length ∧ N.length ≤ 16 ∧ ∀ i, i < N.length → I (a + 1) i = (nm_at N i).1 ∧ I (a + 2) i = (nm_at N i).2
theorem sp_Nm.frame {I I' : Nat → Nat → Int32} {a : Nat} {N : Nm} (h : sp_Nm I a N) (e : ∀ k, a ≤ k → k < a + 3 → I' k = I k) : sp_Nm I' a N := by
  unfold sp_Nm at h ⊢
  rw [e a (by omega) (by omega), e (a + 1) (by omega) (by omega), e (a + 2) (by omega) (by omega)]
  exact h
