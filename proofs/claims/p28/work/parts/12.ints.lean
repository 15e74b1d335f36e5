/-! ===== ints: Int32.ofInt z is the form in which every number is told ===== -/
theorem ii_of (x : Int32) : ∃ z : Int, -2147483648 ≤ z ∧ z < 2147483648 ∧ x = Int32.ofInt z :=
  ⟨x.toInt, Int32.le_toInt x, Int32.toInt_lt x, (Int32.ofInt_toInt x).symm⟩
theorem ii_toInt {z : Int} (h1 : -2147483648 ≤ z) (h2 : z < 2147483648) : (Int32.ofInt z).toInt = z := by
  rw [Int32.toInt_ofInt]; exact fb0_bmod h1 h2
theorem ii_add (a b : Int) : Int32.ofInt a + Int32.ofInt b = Int32.ofInt (a + b) := (Int32.ofInt_add a b).symm
theorem ii_sub (a b : Int) : Int32.ofInt a - Int32.ofInt b = Int32.ofInt (a - b) := (Int32.ofInt_sub a b).symm
theorem ii_mul (a b : Int) : Int32.ofInt a * Int32.ofInt b = Int32.ofInt (a * b) := (Int32.ofInt_mul a b).symm
theorem ii_neg (a : Int) : -Int32.ofInt a = Int32.ofInt (-a) := (Int32.ofInt_neg a).symm
theorem ii_0 : (0 : Int32) = Int32.ofInt 0 := rfl
theorem ii_1 : (1 : Int32) = Int32.ofInt 1 := rfl
theorem ii_lt {a b : Int} (h1 : -2147483648 ≤ a) (h2 : a < 2147483648) (h3 : -2147483648 ≤ b) (h4 : b < 2147483648) : (Int32.ofInt a < Int32.ofInt b) ↔ a < b := by
  rw [Int32.lt_iff_toInt_lt, ii_toInt h1 h2, ii_toInt h3 h4]
theorem ii_le {a b : Int} (h1 : -2147483648 ≤ a) (h2 : a < 2147483648) (h3 : -2147483648 ≤ b) (h4 : b < 2147483648) : (Int32.ofInt a ≤ Int32.ofInt b) ↔ a ≤ b := by
  rw [Int32.le_iff_toInt_le, ii_toInt h1 h2, ii_toInt h3 h4]
theorem ii_eq {a b : Int} (h1 : -2147483648 ≤ a) (h2 : a < 2147483648) (h3 : -2147483648 ≤ b) (h4 : b < 2147483648) : (Int32.ofInt a = Int32.ofInt b) ↔ a = b := by
  constructor
  · intro h
    have := congrArg Int32.toInt h
    rwa [ii_toInt h1 h2, ii_toInt h3 h4] at this
  · rintro rfl; rfl
theorem ii_cl {z : Int} (h1 : 0 ≤ z) (h2 : z < 2147483648) : (Int32.ofInt z).toNatClampNeg = z.toNat := by
  show (Int32.ofInt z).toInt.toNat = _
  rw [ii_toInt (by omega) h2]
theorem ii_in {z : Int} {n : Nat} (h1 : 0 ≤ z) (h2 : z < n) (h3 : n ≤ 1000000) : vp_in (Int32.ofInt z) n ↔ True := by
  refine iff_true_intro ?_
  rintro (h | h)
  · rw [ii_0, ii_lt (by omega) (by omega) (by omega) (by omega)] at h; omega
  · rw [ii_cl h1 (by omega)] at h; omega
theorem dc_lt_t {a b : Int} (h : a < b) : (a < b) ↔ True := iff_true_intro h
theorem dc_lt_f {a b : Int} (h : b ≤ a) : (a < b) ↔ False := iff_false_intro (by omega)
theorem dc_le_t {a b : Int} (h : a ≤ b) : (a ≤ b) ↔ True := iff_true_intro h
theorem dc_le_f {a b : Int} (h : b < a) : (a ≤ b) ↔ False := iff_false_intro (by omega)
theorem dc_eq_t {a b : Int} (h : a = b) : (a = b) ↔ True := iff_true_intro h
theorem dc_eq_f {a b : Int} (h : a ≠ b) : (a = b) ↔ False := iff_false_intro h
theorem dn_lt_t {a b : Nat} (h : a < b) : (a < b) ↔ True := iff_true_intro h
theorem dn_le_t {a b : Nat} (h : a ≤ b) : (a ≤ b) ↔ True := iff_true_intro h
theorem st1_  : ab_st1 [] = true := rfl
theorem st1_i {x0 : Int32} : ab_st1 [.int x0] = true := rfl
theorem st1_r {x0 : Nat} : ab_st1 [.ref x0] = true := rfl
theorem st1_ii {x0 : Int32} {x1 : Int32} : ab_st1 [.int x0, .int x1] = true := rfl
theorem st1_ir {x0 : Int32} {x1 : Nat} : ab_st1 [.int x0, .ref x1] = true := rfl
theorem st1_ri {x0 : Nat} {x1 : Int32} : ab_st1 [.ref x0, .int x1] = true := rfl
theorem st1_rr {x0 : Nat} {x1 : Nat} : ab_st1 [.ref x0, .ref x1] = true := rfl
theorem st1_iii {x0 : Int32} {x1 : Int32} {x2 : Int32} : ab_st1 [.int x0, .int x1, .int x2] = true := rfl
theorem st1_iir {x0 : Int32} {x1 : Int32} {x2 : Nat} : ab_st1 [.int x0, .int x1, .ref x2] = true := rfl
theorem st1_iri {x0 : Int32} {x1 : Nat} {x2 : Int32} : ab_st1 [.int x0, .ref x1, .int x2] = true := rfl
theorem st1_irr {x0 : Int32} {x1 : Nat} {x2 : Nat} : ab_st1 [.int x0, .ref x1, .ref x2] = true := rfl
theorem st1_rii {x0 : Nat} {x1 : Int32} {x2 : Int32} : ab_st1 [.ref x0, .int x1, .int x2] = true := rfl
theorem st1_rir {x0 : Nat} {x1 : Int32} {x2 : Nat} : ab_st1 [.ref x0, .int x1, .ref x2] = true := rfl
theorem st1_rri {x0 : Nat} {x1 : Nat} {x2 : Int32} : ab_st1 [.ref x0, .ref x1, .int x2] = true := rfl
theorem st1_rrr {x0 : Nat} {x1 : Nat} {x2 : Nat} : ab_st1 [.ref x0, .ref x1, .ref x2] = true := rfl
theorem st1_iiii {x0 : Int32} {x1 : Int32} {x2 : Int32} {x3 : Int32} : ab_st1 [.int x0, .int x1, .int x2, .int x3] = true := rfl
theorem st1_iiir {x0 : Int32} {x1 : Int32} {x2 : Int32} {x3 : Nat} : ab_st1 [.int x0, .int x1, .int x2, .ref x3] = true := rfl
theorem st1_iiri {x0 : Int32} {x1 : Int32} {x2 : Nat} {x3 : Int32} : ab_st1 [.int x0, .int x1, .ref x2, .int x3] = true := rfl
theorem st1_iirr {x0 : Int32} {x1 : Int32} {x2 : Nat} {x3 : Nat} : ab_st1 [.int x0, .int x1, .ref x2, .ref x3] = true := rfl
theorem st1_irii {x0 : Int32} {x1 : Nat} {x2 : Int32} {x3 : Int32} : ab_st1 [.int x0, .ref x1, .int x2, .int x3] = true := rfl
theorem st1_irir {x0 : Int32} {x1 : Nat} {x2 : Int32} {x3 : Nat} : ab_st1 [.int x0, .ref x1, .int x2, .ref x3] = true := rfl
theorem st1_irri {x0 : Int32} {x1 : Nat} {x2 : Nat} {x3 : Int32} : ab_st1 [.int x0, .ref x1, .ref x2, .int x3] = true := rfl
theorem st1_irrr {x0 : Int32} {x1 : Nat} {x2 : Nat} {x3 : Nat} : ab_st1 [.int x0, .ref x1, .ref x2, .ref x3] = true := rfl
theorem st1_riii {x0 : Nat} {x1 : Int32} {x2 : Int32} {x3 : Int32} : ab_st1 [.ref x0, .int x1, .int x2, .int x3] = true := rfl
theorem st1_riir {x0 : Nat} {x1 : Int32} {x2 : Int32} {x3 : Nat} : ab_st1 [.ref x0, .int x1, .int x2, .ref x3] = true := rfl
theorem st1_riri {x0 : Nat} {x1 : Int32} {x2 : Nat} {x3 : Int32} : ab_st1 [.ref x0, .int x1, .ref x2, .int x3] = true := rfl
theorem st1_rirr {x0 : Nat} {x1 : Int32} {x2 : Nat} {x3 : Nat} : ab_st1 [.ref x0, .int x1, .ref x2, .ref x3] = true := rfl
theorem st1_rrii {x0 : Nat} {x1 : Nat} {x2 : Int32} {x3 : Int32} : ab_st1 [.ref x0, .ref x1, .int x2, .int x3] = true := rfl
theorem st1_rrir {x0 : Nat} {x1 : Nat} {x2 : Int32} {x3 : Nat} : ab_st1 [.ref x0, .ref x1, .int x2, .ref x3] = true := rfl
theorem st1_rrri {x0 : Nat} {x1 : Nat} {x2 : Nat} {x3 : Int32} : ab_st1 [.ref x0, .ref x1, .ref x2, .int x3] = true := rfl
theorem st1_rrrr {x0 : Nat} {x1 : Nat} {x2 : Nat} {x3 : Nat} : ab_st1 [.ref x0, .ref x1, .ref x2, .ref x3] = true := rfl
theorem st1_iiiii {x0 : Int32} {x1 : Int32} {x2 : Int32} {x3 : Int32} {x4 : Int32} : ab_st1 [.int x0, .int x1, .int x2, .int x3, .int x4] = true := rfl
theorem st1_iiiir {x0 : Int32} {x1 : Int32} {x2 : Int32} {x3 : Int32} {x4 : Nat} : ab_st1 [.int x0, .int x1, .int x2, .int x3, .ref x4] = true := rfl
theorem st1_iiiri {x0 : Int32} {x1 : Int32} {x2 : Int32} {x3 : Nat} {x4 : Int32} : ab_st1 [.int x0, .int x1, .int x2, .ref x3, .int x4] = true := rfl
theorem st1_iiirr {x0 : Int32} {x1 : Int32} {x2 : Int32} {x3 : Nat} {x4 : Nat} : ab_st1 [.int x0, .int x1, .int x2, .ref x3, .ref x4] = true := rfl
theorem st1_iirii {x0 : Int32} {x1 : Int32} {x2 : Nat} {x3 : Int32} {x4 : Int32} : ab_st1 [.int x0, .int x1, .ref x2, .int x3, .int x4] = true := rfl
theorem st1_iirir {x0 : Int32} {x1 : Int32} {x2 : Nat} {x3 : Int32} {x4 : Nat} : ab_st1 [.int x0, .int x1, .ref x2, .int x3, .ref x4] = true := rfl
theorem st1_iirri {x0 : Int32} {x1 : Int32} {x2 : Nat} {x3 : Nat} {x4 : Int32} : ab_st1 [.int x0, .int x1, .ref x2, .ref x3, .int x4] = true := rfl
theorem st1_iirrr {x0 : Int32} {x1 : Int32} {x2 : Nat} {x3 : Nat} {x4 : Nat} : ab_st1 [.int x0, .int x1, .ref x2, .ref x3, .ref x4] = true := rfl
theorem st1_iriii {x0 : Int32} {x1 : Nat} {x2 : Int32} {x3 : Int32} {x4 : Int32} : ab_st1 [.int x0, .ref x1, .int x2, .int x3, .int x4] = true := rfl
theorem st1_iriir {x0 : Int32} {x1 : Nat} {x2 : Int32} {x3 : Int32} {x4 : Nat} : ab_st1 [.int x0, .ref x1, .int x2, .int x3, .ref x4] = true := rfl
theorem st1_iriri {x0 : Int32} {x1 : Nat} {x2 : Int32} {x3 : Nat} {x4 : Int32} : ab_st1 [.int x0, .ref x1, .int x2, .ref x3, .int x4] = true := rfl
theorem st1_irirr {x0 : Int32} {x1 : Nat} {x2 : Int32} {x3 : Nat} {x4 : Nat} : ab_st1 [.int x0, .ref x1, .int x2, .ref x3, .ref x4] = true := rfl
theorem st1_irrii {x0 : Int32} {x1 : Nat} {x2 : Nat} {x3 : Int32} {x4 : Int32} : ab_st1 [.int x0, .ref x1, .ref x2, .int x3, .int x4] = true := rfl
theorem st1_irrir {x0 : Int32} {x1 : Nat} {x2 : Nat} {x3 : Int32} {x4 : Nat} : ab_st1 [.int x0, .ref x1, .ref x2, .int x3, .ref x4] = true := rfl
theorem st1_irrri {x0 : Int32} {x1 : Nat} {x2 : Nat} {x3 : Nat} {x4 : Int32} : ab_st1 [.int x0, .ref x1, .ref x2, .ref x3, .int x4] = true := rfl
theorem st1_irrrr {x0 : Int32} {x1 : Nat} {x2 : Nat} {x3 : Nat} {x4 : Nat} : ab_st1 [.int x0, .ref x1, .ref x2, .ref x3, .ref x4] = true := rfl
theorem st1_riiii {x0 : Nat} {x1 : Int32} {x2 : Int32} {x3 : Int32} {x4 : Int32} : ab_st1 [.ref x0, .int x1, .int x2, .int x3, .int x4] = true := rfl
theorem st1_riiir {x0 : Nat} {x1 : Int32} {x2 : Int32} {x3 : Int32} {x4 : Nat} : ab_st1 [.ref x0, .int x1, .int x2, .int x3, .ref x4] = true := rfl
theorem st1_riiri {x0 : Nat} {x1 : Int32} {x2 : Int32} {x3 : Nat} {x4 : Int32} : ab_st1 [.ref x0, .int x1, .int x2, .ref x3, .int x4] = true := rfl
theorem st1_riirr {x0 : Nat} {x1 : Int32} {x2 : Int32} {x3 : Nat} {x4 : Nat} : ab_st1 [.ref x0, .int x1, .int x2, .ref x3, .ref x4] = true := rfl
theorem st1_ririi {x0 : Nat} {x1 : Int32} {x2 : Nat} {x3 : Int32} {x4 : Int32} : ab_st1 [.ref x0, .int x1, .ref x2, .int x3, .int x4] = true := rfl
theorem st1_ririr {x0 : Nat} {x1 : Int32} {x2 : Nat} {x3 : Int32} {x4 : Nat} : ab_st1 [.ref x0, .int x1, .ref x2, .int x3, .ref x4] = true := rfl
theorem st1_rirri {x0 : Nat} {x1 : Int32} {x2 : Nat} {x3 : Nat} {x4 : Int32} : ab_st1 [.ref x0, .int x1, .ref x2, .ref x3, .int x4] = true := rfl
theorem st1_rirrr {x0 : Nat} {x1 : Int32} {x2 : Nat} {x3 : Nat} {x4 : Nat} : ab_st1 [.ref x0, .int x1, .ref x2, .ref x3, .ref x4] = true := rfl
theorem st1_rriii {x0 : Nat} {x1 : Nat} {x2 : Int32} {x3 : Int32} {x4 : Int32} : ab_st1 [.ref x0, .ref x1, .int x2, .int x3, .int x4] = true := rfl
theorem st1_rriir {x0 : Nat} {x1 : Nat} {x2 : Int32} {x3 : Int32} {x4 : Nat} : ab_st1 [.ref x0, .ref x1, .int x2, .int x3, .ref x4] = true := rfl
theorem st1_rriri {x0 : Nat} {x1 : Nat} {x2 : Int32} {x3 : Nat} {x4 : Int32} : ab_st1 [.ref x0, .ref x1, .int x2, .ref x3, .int x4] = true := rfl
theorem st1_rrirr {x0 : Nat} {x1 : Nat} {x2 : Int32} {x3 : Nat} {x4 : Nat} : ab_st1 [.ref x0, .ref x1, .int x2, .ref x3, .ref x4] = true := rfl
theorem st1_rrrii {x0 : Nat} {x1 : Nat} {x2 : Nat} {x3 : Int32} {x4 : Int32} : ab_st1 [.ref x0, .ref x1, .ref x2, .int x3, .int x4] = true := rfl
theorem st1_rrrir {x0 : Nat} {x1 : Nat} {x2 : Nat} {x3 : Int32} {x4 : Nat} : ab_st1 [.ref x0, .ref x1, .ref x2, .int x3, .ref x4] = true := rfl
theorem st1_rrrri {x0 : Nat} {x1 : Nat} {x2 : Nat} {x3 : Nat} {x4 : Int32} : ab_st1 [.ref x0, .ref x1, .ref x2, .ref x3, .int x4] = true := rfl
theorem st1_rrrrr {x0 : Nat} {x1 : Nat} {x2 : Nat} {x3 : Nat} {x4 : Nat} : ab_st1 [.ref x0, .ref x1, .ref x2, .ref x3, .ref x4] = true := rfl
theorem zn_0 : ((0 : Nat) : Int) = 0 := rfl
theorem zn_1 : ((1 : Nat) : Int) = 1 := rfl
theorem zn_2 : ((2 : Nat) : Int) = 2 := rfl
theorem zn_3 : ((3 : Nat) : Int) = 3 := rfl
