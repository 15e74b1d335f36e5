/-! ===== ints: Int32.ofInt z is the form in which every number is told ===== -/
theorem ii_of (x : Int32) : ∃ z : Int, -2147483648 ≤ z ∧ z < 2147483648 ∧ x = Int32.ofInt z :=
  ⟨x.toInt, Int32.le_toInt x, Int32.toInt_lt x, (Int32.ofInt_toInt x).symm⟩
theorem ii_toInt {z : Int} (h1 : -2147483648 ≤ z) (h2 : z < 2147483648) : (Int32.ofInt z).toInt = z := by
  rw [Int32.toInt_ofInt]; exact fb0_bmod h1 h2
theorem ii_add (a b : Int) : Int32.ofInt a + Int32.ofInt b = Int32.ofInt (a + b) := (Int32.ofInt_add a b).symm
theorem ii_sub (a b : Int) : Int32.ofInt a - Int32.ofInt b = Int32.ofInt (a - b) := (Int32.ofInt_sub a b).symm
theorem ii_mul (a b : Int) : Int32.ofInt a * Int32.ofInt b = Int32.ofInt (a * b) := (Int32.ofInt_mul a b).symm
theorem ii_neg (a : Int) : -Int32.ofInt a = Int32.ofInt (-a) := (Int32.ofInt_neg a).symm
theorem ii_0 : (0 : Int32) = Int32.ofInt 0 := rfl
theorem ii_1 : (1 : Int32) = Int32.ofInt 1 := rfl
theorem ii_lt {a b : Int} (h1 : -2147483648 ≤ a) (h2 : a < 2147483648) (h3 : -2147483648 ≤ b) (h4 : b < 2147483648) : (Int32.ofInt a < Int32.ofInt b) ↔ a < b := by
  rw [Int32.lt_iff_toInt_lt, ii_toInt h1 h2, ii_toInt h3 h4]
theorem ii_le {a b : Int} (h1 : -2147483648 ≤ a) (h2 : a < 2147483648) (h3 : -2147483648 ≤ b) (h4 : b < 2147483648) : (Int32.ofInt a ≤ Int32.ofInt b) ↔ a ≤ b := by
  rw [Int32.le_iff_toInt_le, ii_toInt h1 h2, ii_toInt h3 h4]
theorem ii_eq {a b : Int} (h1 : -2147483648 ≤ a) (h2 : a < 2147483648) (h3 : -2147483648 ≤ b) (h4 : b < 2147483648) : (Int32.ofInt a = Int32.ofInt b) ↔ a = b := by
  constructor
  · intro h
    have := congrArg Int32.toInt h
    rwa [ii_toInt h1 h2, ii_toInt h3 h4] at this
  · rintro rfl; rfl
theorem ii_cl {z : Int} (h1 : 0 ≤ z) (h2 : z < 2147483648) : (Int32.ofInt z).toNatClampNeg = z.toNat := by
  show (Int32.ofInt z).toInt.toNat = _
  rw [ii_toInt (by omega) h2]
theorem ii_in {z : Int} {n : Nat} (h1 : 0 ≤ z) (h2 : z < n) (h3 : n ≤ 1000000) : vp_in (Int32.ofInt z) n ↔ True := by
  refine iff_true_intro ?_
  rintro (h | h)
  · rw [ii_0, ii_lt (by omega) (by omega) (by omega) (by omega)] at h; omega
  · rw [ii_cl h1 (by omega)] at h; omega
theorem dc_lt_t {a b : Int} (h : a < b) : (a < b) ↔ True := iff_true_intro h
theorem dc_lt_f {a b : Int} (h : b ≤ a) : (a < b) ↔ False := iff_false_intro (by omega)
theorem dc_le_t {a b : Int} (h : a ≤ b) : (a ≤ b) ↔ True := iff_true_intro h
theorem dc_le_f {a b : Int} (h : b < a) : (a ≤ b) ↔ False := iff_false_intro (by omega)
theorem dc_eq_t {a b : Int} (h : a = b) : (a = b) ↔ True := iff_true_intro h
theorem dc_eq_f {a b : Int} (h : a ≠ b) : (a = b) ↔ False := iff_false_intro h
theorem dn_lt_t {a b : Nat} (h : a < b) : (a < b) ↔ True := iff_true_intro h
theorem dn_le_t {a b : Nat} (h : a ≤ b) : (a ≤ b) ↔ True := iff_true_intro h
