/-! ===== FairBooksModel: bits; lists; worth ===== -/
theorem sb_sh : ∀ i : Nat, i < 32 → ((Int32.ofInt i &&& 31).toBitVec.smod 32) = BitVec.ofNat 32 i := by decide +kernel
theorem sb_bit (a : Int32) {i : Nat} (hi : i < 32) : (a >>> (Int32.ofInt i &&& 31)) &&& Int32.ofInt 1 = if a.toBitVec.getLsbD i = true then Int32.ofInt 1 else Int32.ofInt 0 := by
  apply Int32.toBitVec_inj.mp
  rw [Int32.toBitVec_and, Int32.toBitVec_shiftRight, sb_sh i hi]
  have e1 : (Int32.ofInt 1).toBitVec = 1#32 := rfl
  have e2 : (BitVec.ofNat 32 i).toNat = i := by rw [BitVec.toNat_ofNat]; omega
  rw [e1, BitVec.sshiftRight', e2]
  apply BitVec.eq_of_getLsbD_eq
  intro j hj
  rw [BitVec.getLsbD_and, BitVec.getLsbD_sshiftRight]
  by_cases c : a.toBitVec.getLsbD i = true
  · rw [if_pos c, e1]
    by_cases g : j = 0
    · subst g; simp [c, hi]
    · simp [BitVec.getLsbD_one, g]
  · rw [if_neg c]
    have e3 : (Int32.ofInt 0).toBitVec = 0#32 := rfl
    rw [e3]
    by_cases g : j = 0
    · subst g
      rw [BitVec.getLsbD_eq_getElem hi] at c
      simp [hi]
      simpa using c
    · simp [BitVec.getLsbD_one, g]
theorem sb_and (a : Int32) {i : Nat} (hi : i < 32) : (a &&& w_bit (Int32.ofInt i) = Int32.ofInt 0) ↔ a.toBitVec.getLsbD i = false := by
  unfold w_bit
  rw [← Int32.toBitVec_inj, Int32.toBitVec_and, Int32.toBitVec_shiftLeft, sb_sh i hi]
  have e1 : (Int32.ofInt 1).toBitVec = 1#32 := rfl
  have e3 : (Int32.ofInt 0).toBitVec = 0#32 := rfl
  have e2 : (BitVec.ofNat 32 i).toNat = i := by rw [BitVec.toNat_ofNat]; omega
  rw [e1, e3, BitVec.shiftLeft_eq', e2]
  constructor
  · intro h
    have g := congrArg (fun x => x.getLsbD i) h
    simpa [hi] using g
  · intro h
    apply BitVec.eq_of_getLsbD_eq
    intro j hj
    rw [BitVec.getLsbD_and, BitVec.getLsbD_shiftLeft]
    by_cases g : j = i
    · subst g; simp [h]
    · have : ¬ (i ≤ j ∧ j - i = 0) := by omega
      simp [BitVec.getLsbD_one]
      intros
      omega
/-- the bits of a set of 16, counted one by one -/
def on_s (x : Int32) : Nat → Int32
  | 0 => Int32.ofInt 0
  | k + 1 => on_s x k + ((x >>> (Int32.ofInt k &&& 31)) &&& Int32.ofInt 1)
def on_n (n : Nat) : Nat → Nat
  | 0 => 0
  | k + 1 => on_n n k + n / 2 ^ k % 2
def bc_a (n : Nat) : Nat := Nat.mod (Nat.add (Nat.sub 4294967296 (Nat.land (Nat.shiftRight n 1) 1431655765)) n) 4294967296
def bc_b (a : Nat) : Nat := Nat.mod (Nat.add (Nat.land a 858993459) (Nat.land (Nat.shiftRight a 2) 858993459)) 4294967296
def bc_c (b : Nat) : Nat := Nat.land (Nat.mod (Nat.add b (Nat.shiftRight b 4)) 4294967296) 252645135
def bc_d (c : Nat) : Nat := Nat.mod (Nat.add c (Nat.shiftRight c 8)) 4294967296
def bc_e (d : Nat) : Nat := Nat.land (Nat.mod (Nat.add d (Nat.shiftRight d 16)) 4294967296) 63
def bc_n (n : Nat) : Nat := bc_e (bc_d (bc_c (bc_b (bc_a n))))
noncomputable def tk (d : Nat) : Nat → Nat → Bool := Nat.rec (fun b c => Nat.beq (bc_e (bc_d (bc_c (bc_b (bc_a b))))) c) (fun _ ih b c => Bool.and (ih (Nat.mul 2 b) c) (ih (Nat.succ (Nat.mul 2 b)) (Nat.succ c))) d
theorem tk_all : tk 16 0 0 = true := by decide +kernel
theorem tk_s : ∀ (d b c n : Nat), tk d b c = true → b * 2 ^ d ≤ n → n < (b + 1) * 2 ^ d → bc_n n = c + on_n n d
  | 0, b, c, n, h, h1, h2 => by
    obtain rfl : b = n := by omega
    exact Nat.eq_of_beq_eq_true h
  | d + 1, b, c, n, h, h1, h2 => by
    have h' : (tk d (2 * b) c && tk d (2 * b + 1) (c + 1)) = true := h
    rw [Bool.and_eq_true] at h'
    rw [Nat.pow_succ] at h1 h2
    have e1 : b * (2 ^ d * 2) = 2 * b * 2 ^ d := by rw [Nat.mul_comm (2 ^ d) 2, ← Nat.mul_assoc, Nat.mul_comm b 2]
    have e2 : (b + 1) * (2 ^ d * 2) = (2 * b + 1 + 1) * 2 ^ d := by rw [Nat.mul_comm (2 ^ d) 2, ← Nat.mul_assoc, Nat.add_mul, Nat.mul_comm b 2]
    rw [e1] at h1
    rw [e2] at h2
    rw [on_n]
    rcases Nat.lt_or_ge n ((2 * b + 1) * 2 ^ d) with g | g
    · rw [tk_s d (2 * b) c n h'.1 h1 g, Nat.div_eq_of_lt_le h1 g]
      omega
    · rw [tk_s d (2 * b + 1) (c + 1) n h'.2 g h2, Nat.div_eq_of_lt_le g h2]
      omega
theorem us_1 (a : Int32) : (w_us a 1).toBitVec.toNat = a.toBitVec.toNat >>> 1 := rfl
theorem us_2 (a : Int32) : (w_us a 2).toBitVec.toNat = a.toBitVec.toNat >>> 2 := rfl
theorem us_4 (a : Int32) : (w_us a 4).toBitVec.toNat = a.toBitVec.toNat >>> 4 := rfl
theorem us_8 (a : Int32) : (w_us a 8).toBitVec.toNat = a.toBitVec.toNat >>> 8 := rfl
theorem us_16 (a : Int32) : (w_us a 16).toBitVec.toNat = a.toBitVec.toNat >>> 16 := rfl
theorem bc_of (x : Int32) : (w_bc x).toBitVec.toNat = bc_n x.toBitVec.toNat := by
  unfold w_bc bc_n bc_e bc_d bc_c bc_b bc_a
  simp only [Int32.toBitVec_and, Int32.toBitVec_add, Int32.toBitVec_sub, BitVec.toNat_and, BitVec.toNat_add, BitVec.toNat_sub, us_1, us_2, us_4, us_8, us_16]
  rfl
theorem on_of (x : Int32) : ∀ k, k ≤ 16 → on_s x k = Int32.ofInt (on_n x.toBitVec.toNat k) ∧ on_n x.toBitVec.toNat k ≤ k
  | 0, _ => ⟨rfl, Nat.le_refl 0⟩
  | k + 1, h => by
    obtain ⟨g1, g2⟩ := on_of x k (by omega)
    rw [on_s, on_n, sb_bit x (show k < 32 by omega), g1]
    have e : x.toBitVec.getLsbD k = decide (x.toBitVec.toNat / 2 ^ k % 2 = 1) := Nat.testBit_eq_decide_div_mod_eq
    rw [e]
    rcases Nat.mod_two_eq_zero_or_one (x.toBitVec.toNat / 2 ^ k) with c | c
    · rw [c]; refine ⟨?_, by omega⟩
      simp [ii_add]
    · rw [c]; refine ⟨?_, by omega⟩
      simp [ii_add]
theorem on_bc {x : Int32} (h : x.toBitVec.toNat < 65536) : on_s x 16 = w_bc x := by
  obtain ⟨g1, g2⟩ := on_of x 16 (Nat.le_refl 16)
  rw [g1]
  apply Int32.toBitVec_inj.mp
  apply BitVec.eq_of_toNat_eq
  rw [bc_of, tk_s 16 0 0 _ tk_all (by rw [Nat.zero_mul]; exact Nat.zero_le _) (Nat.lt_of_lt_of_le h (by decide)), Nat.zero_add]
  show (BitVec.ofInt 32 _).toNat = _
  rw [BitVec.toNat_ofInt]
  omega
theorem w_set_16 {N : Nm} {t : Int32} : ∀ k, k ≤ 16 → (w_set N t k).toBitVec.toNat < 2 ^ k
  | 0, _ => by rw [w_set]; decide
  | k + 1, h => by
    have g := w_set_16 (N := N) (t := t) k (by omega)
    have gk : 2 ^ k < 2 ^ (k + 1) := Nat.pow_lt_pow_right (by omega) (by omega)
    rw [w_set]
    split
    · rw [Int32.toBitVec_or, BitVec.toNat_or]
      refine Nat.or_lt_two_pow (by omega) ?_
      have e : ∀ k : Nat, k < 16 → (bt_1 k).toBitVec.toNat = 2 ^ k := by decide +kernel
      rw [e k (by omega)]
      exact gk
    · omega
theorem w_set_on {N : Nm} {t : Int32} (h : N.length ≤ 16) : on_s (w_set N t N.length) 16 = w_bc (w_set N t N.length) := by
  refine on_bc (Nat.lt_of_lt_of_le (w_set_16 N.length h) ?_)
  exact Nat.pow_le_pow_right (by omega) h
theorem w_is_and {a b : Int32} : a &&& b = a ↔ a &&& (b ^^^ Int32.ofInt (-1)) = Int32.ofInt 0 := by
  have e3 : (Int32.ofInt 0).toBitVec = 0#32 := rfl
  have e1 : (Int32.ofInt (-1)).toBitVec = BitVec.allOnes 32 := rfl
  rw [← Int32.toBitVec_inj, ← Int32.toBitVec_inj, Int32.toBitVec_and, Int32.toBitVec_and, Int32.toBitVec_xor, e3, e1]
  constructor
  · intro h
    apply BitVec.eq_of_getLsbD_eq
    intro j hj
    have g := congrArg (fun x => x.getLsbD j) h
    simp only [BitVec.getLsbD_and] at g
    rw [BitVec.getLsbD_and, BitVec.getLsbD_xor, BitVec.getLsbD_allOnes, decide_eq_true hj, BitVec.getLsbD_zero]
    generalize a.toBitVec.getLsbD j = x at g ⊢
    generalize b.toBitVec.getLsbD j = y at g ⊢
    revert g
    cases x <;> cases y <;> decide
  · intro h
    apply BitVec.eq_of_getLsbD_eq
    intro j hj
    have g := congrArg (fun x => x.getLsbD j) h
    simp only [BitVec.getLsbD_and, BitVec.getLsbD_xor, BitVec.getLsbD_allOnes, decide_eq_true hj, BitVec.getLsbD_zero] at g
    rw [BitVec.getLsbD_and]
    generalize a.toBitVec.getLsbD j = x at g ⊢
    generalize b.toBitVec.getLsbD j = y at g ⊢
    revert g
    cases x <;> cases y <;> decide
