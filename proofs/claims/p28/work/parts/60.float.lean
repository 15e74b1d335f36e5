/-! ===== floats: quotients of small numbers, and their bits ===== -/
def fb (m E : Nat) : Nat := E * 8388608 + (m - 8388608)
def fl (m E : Nat) : UInt32 := UInt32.ofNat (fb m E)
theorem t32 : FP.Core.b32.tails = 8388608 := rfl
theorem x32 : FP.Core.b32.exps = 256 := rfl
theorem n32 : FP.Core.b32.qmin = -149 := rfl
theorem m32 : FP.Core.b32.qmax = 104 := rfl
theorem p32 : FP.Core.b32.p = 24 := rfl
def fl_ok (m E : Nat) : Prop := 8388608 ≤ m ∧ m < 16777216 ∧ 1 ≤ E ∧ E < 255
theorem fl_nat {m E : Nat} (h : fl_ok m E) : (fl m E).toNat = fb m E := by
  obtain ⟨h1, h2, h3, h4⟩ := h
  unfold fl fb
  rw [UInt32.toNat_ofNat']
  omega
theorem fl_dec {m E : Nat} (h : fl_ok m E) : FP.Core.decode FP.Core.b32 (fl m E).toNat = .fin false m ((E : Int) - 150) := by
  rw [fl_nat h]
  obtain ⟨h1, h2, h3, h4⟩ := h
  have eT : FP.Core.fieldT FP.Core.b32 (fb m E) = m - 8388608 := by unfold FP.Core.fieldT fb; rw [t32]; omega
  have eE : FP.Core.fieldE FP.Core.b32 (fb m E) = E := by unfold FP.Core.fieldE fb; rw [t32, x32]; omega
  have eS : FP.Core.fieldS FP.Core.b32 (fb m E) = false := by
    unfold FP.Core.fieldS fb; rw [t32, x32]
    have : (E * 8388608 + (m - 8388608)) / 8388608 / 256 % 2 = 0 := by omega
    rw [this]; rfl
  unfold FP.Core.decode
  rw [eT, eE, eS, x32, t32, n32, if_neg (by omega), if_neg (by omega), show 8388608 + (m - 8388608) = m by omega, show (-149 : Int) + ((E : Int) - 1) = (E : Int) - 150 by omega]
theorem fl_enc {m E : Nat} {q : Int} (h : fl_ok m E) (hq : q = (E : Int) - 150) : UInt32.ofNat (FP.Core.encode FP.Core.b32 (.fin false m q)) = fl m E := by
  obtain ⟨h1, h2, h3, h4⟩ := h
  unfold FP.Core.encode fl fb
  rw [t32]
  dsimp only
  rw [if_neg (by omega)]
  unfold FP.Core.assemble
  rw [t32, x32, n32, show (q - -149).toNat + 1 = E by omega, show false.toNat * 256 + E = E by rw [Bool.toNat_false]; omega]
theorem fp_settle {m : Nat} {q : Int} (h2 : m ≤ 16777216) (hq : q < 100) : FP.Core.settle FP.Core.b32 false m q = if m < 16777216 then .fin false m q else .fin false 8388608 (q + 1) := by
  unfold FP.Core.settle FP.Core.bound
  rw [p32, t32, m32]
  have e : (2 : Nat) ^ 24 = 16777216 := by decide
  rw [e]
  split
  · rw [if_pos (by omega)]
  · rw [if_pos (by omega)]
theorem fp_rr {num den : Nat} {e l : Int} (hn : num ≠ 0) (hl : FP.Core.leading num den = l) (hq : -149 ≤ l + e - 23) : FP.Core.roundRatio FP.Core.b32 false num den e = FP.Core.settle FP.Core.b32 false (FP.Core.nearest (num * 2 ^ (23 - l).toNat) (den * 2 ^ (l - 23).toNat)) (l + e - 23) := by
  unfold FP.Core.roundRatio FP.Core.roundAt FP.Core.quantum FP.Core.unitsNum FP.Core.unitsDen
  rw [if_neg hn, hl, n32, p32]
  have e1 : max (-149 : Int) (l + e - (((24 : Nat) : Int) - 1)) = l + e - 23 := by omega
  rw [e1, show e - (l + e - 23) = 23 - l by omega, show l + e - 23 - e = l - 23 by omega]
theorem fp_lead1 {n : Nat} (h : n ≠ 0) : FP.Core.leading n 1 = (n.log2 : Int) := by
  unfold FP.Core.leading
  have e : Nat.log2 1 = 0 := by decide
  rw [e]
  dsimp only
  rw [if_pos]
  · omega
  · rw [show (((n.log2 : Nat) : Int) - ((0 : Nat) : Int)).toNat = n.log2 by omega, show (-(((n.log2 : Nat) : Int) - ((0 : Nat) : Int))).toNat = 0 by omega, Nat.one_mul, Nat.pow_zero, Nat.mul_one]
    exact Nat.log2_self_le h
theorem fp_near1 {a b : Nat} (hb : 0 < b) : FP.Core.nearest (a * b) b = a := by
  unfold FP.Core.nearest
  rw [Nat.mul_mod_left, Nat.mul_zero, if_pos hb, Nat.mul_div_cancel _ hb]
theorem l2_lt {n k N : Nat} (h : n ≠ 0) (e : 2 ^ k = N) (hn : n < N) : n.log2 < k := (Nat.log2_lt h).mpr (by rw [e]; exact hn)
theorem l2_ge {n k N : Nat} (h : n ≠ 0) (e : 2 ^ k = N) (hn : N ≤ n) : k ≤ n.log2 := by
  rcases Nat.lt_or_ge n.log2 k with g | g
  · have := (Nat.log2_lt h).mp g
    omega
  · exact g
/-- a small number as a float -/
def i_m (n : Nat) : Nat := n * 2 ^ (23 - n.log2)
theorem i_ok {n : Nat} (h1 : 1 ≤ n) (h2 : n < 16777216) : n.log2 ≤ 23 ∧ 8388608 ≤ i_m n ∧ i_m n < 16777216 := by
  have hl : n.log2 ≤ 23 := by
    have := l2_lt (n := n) (k := 24) (N := 16777216) (by omega) (by decide) (by omega)
    omega
  have a := Nat.log2_self_le (n := n) (by omega)
  have b := Nat.lt_log2_self (n := n)
  have e1 : 2 ^ n.log2 * 2 ^ (23 - n.log2) = 8388608 := by rw [← Nat.pow_add, show n.log2 + (23 - n.log2) = 23 by omega]
  have e2 : 2 ^ (n.log2 + 1) * 2 ^ (23 - n.log2) = 16777216 := by rw [← Nat.pow_add, show n.log2 + 1 + (23 - n.log2) = 24 by omega]
  have hp : 0 < 2 ^ (23 - n.log2) := Nat.pow_pos (by omega)
  refine ⟨hl, ?_, ?_⟩
  · rw [← e1]; exact Nat.mul_le_mul_right _ a
  · rw [← e2]; exact Nat.mul_lt_mul_of_pos_right b hp
theorem fl_i2f {n : Nat} (h1 : 1 ≤ n) (h2 : n < 16777216) : FP.i2f (Int32.ofInt n) = fl (i_m n) (n.log2 + 127) ∧ fl_ok (i_m n) (n.log2 + 127) := by
  obtain ⟨a, b, c⟩ := i_ok h1 h2
  have ok : fl_ok (i_m n) (n.log2 + 127) := ⟨b, c, by omega, by omega⟩
  refine ⟨?_, ok⟩
  show UInt32.ofNat (FP.Core.fromInt FP.Core.b32 (Int32.ofInt n).toInt) = _
  rw [ii_toInt (by omega) (by omega)]
  unfold FP.Core.fromInt FP.Core.ofInt FP.Core.round
  dsimp only
  rw [decide_eq_false (by omega), Int.natAbs_natCast, fp_rr (by omega) (fp_lead1 (by omega)) (by omega), show (23 - ((n.log2 : Nat) : Int)).toNat = 23 - n.log2 by omega, show (((n.log2 : Nat) : Int) - 23).toNat = 0 by omega]
  have e : n * 2 ^ (23 - n.log2) = i_m n * (1 * 2 ^ 0) := by unfold i_m; omega
  rw [e, fp_near1 (by decide), fp_settle (by omega) (by omega), if_pos c]
  exact fl_enc ok (by omega)
theorem log2_23 {m : Nat} (h1 : 8388608 ≤ m) (h2 : m < 16777216) : m.log2 = 23 := by
  have a := l2_lt (n := m) (k := 24) (N := 16777216) (by omega) (by decide) (by omega)
  have b := l2_ge (n := m) (k := 23) (N := 8388608) (by omega) (by decide) (by omega)
  omega
theorem fp_near {a b lo : Nat} (hb : 0 < b) (h1 : lo * b ≤ a) (h2 : a < (lo + lo) * b) : lo ≤ FP.Core.nearest a b ∧ FP.Core.nearest a b ≤ lo + lo := by
  have d1 : lo ≤ a / b := (Nat.le_div_iff_mul_le hb).mpr h1
  have d2 : a / b < lo + lo := (Nat.div_lt_iff_lt_mul hb).mpr h2
  unfold FP.Core.nearest
  split
  · omega
  · split
    · omega
    · omega
/-- the quotient of two floats of full digits -/
theorem fl_div {c d E F : Nat} (hc : fl_ok c E) (hd : fl_ok d F) (h : F + 1 ≤ E ∨ (F = E ∧ d ≤ c)) (hE : E ≤ F + 20) : ∃ m G, FP.fdiv (fl c E) (fl d F) = fl m G ∧ fl_ok m G ∧ 127 ≤ G ∧ G ≤ 148 := by
  have hdec : FP.fdiv (fl c E) (fl d F) = UInt32.ofNat (FP.Core.encode FP.Core.b32 (FP.Core.quotient FP.Core.b32 (.fin false c ((E : Int) - 150)) (.fin false d ((F : Int) - 150)))) := by
    show UInt32.ofNat (FP.Core.encode FP.Core.b32 (FP.Core.quotient FP.Core.b32 (FP.Core.decode FP.Core.b32 (fl c E).toNat) (FP.Core.decode FP.Core.b32 (fl d F).toNat))) = _
    rw [fl_dec hc, fl_dec hd]
  obtain ⟨c1, c2, c3, c4⟩ := hc
  obtain ⟨d1, d2, d3, d4⟩ := hd
  rw [hdec]
  unfold FP.Core.quotient
  dsimp only
  rw [if_neg (by omega)]
  have hx : (false != false) = false := rfl
  rw [hx]
  have lc := log2_23 c1 c2
  have ld := log2_23 d1 d2
  have hlead : FP.Core.leading c d = if d ≤ c then 0 else -1 := by
    unfold FP.Core.leading
    rw [lc, ld]
    dsimp only
    have e1 : (((23 : Nat) : Int) - ((23 : Nat) : Int)).toNat = 0 := by omega
    have e2 : (-(((23 : Nat) : Int) - ((23 : Nat) : Int))).toNat = 0 := by omega
    rw [e1, e2, Nat.pow_zero, Nat.mul_one, Nat.mul_one]
    split <;> omega
  by_cases k : d ≤ c
  · rw [if_pos k] at hlead
    rw [fp_rr (by omega) hlead (by omega), show ((23 : Int) - 0).toNat = 23 by decide, show ((0 : Int) - 23).toNat = 0 by decide, Nat.pow_zero, Nat.mul_one]
    have e3 : (2 : Nat) ^ 23 = 8388608 := by decide
    rw [e3]
    obtain ⟨n1, n2⟩ := fp_near (a := c * 8388608) (b := d) (lo := 8388608) (by omega) (by rw [Nat.mul_comm]; exact Nat.mul_le_mul_right _ k) (by omega)
    rw [fp_settle (by omega) (by omega)]
    generalize FP.Core.nearest (c * 8388608) d = m at n1 n2
    by_cases g : m < 16777216
    · rw [if_pos g]
      exact ⟨m, E - F + 127, fl_enc ⟨n1, g, by omega, by omega⟩ (by omega), ⟨n1, g, by omega, by omega⟩, by omega, by omega⟩
    · rw [if_neg g]
      exact ⟨8388608, E - F + 128, fl_enc ⟨by omega, by omega, by omega, by omega⟩ (by omega), ⟨by omega, by omega, by omega, by omega⟩, by omega, by omega⟩
  · rw [if_neg k] at hlead
    rw [fp_rr (by omega) hlead (by omega), show ((23 : Int) - -1).toNat = 24 by decide, show ((-1 : Int) - 23).toNat = 0 by decide, Nat.pow_zero, Nat.mul_one]
    have e3 : (2 : Nat) ^ 24 = 16777216 := by decide
    rw [e3]
    obtain ⟨n1, n2⟩ := fp_near (a := c * 16777216) (b := d) (lo := 8388608) (by omega) (by omega) (by omega)
    rw [fp_settle (by omega) (by omega)]
    generalize FP.Core.nearest (c * 16777216) d = m at n1 n2
    by_cases g : m < 16777216
    · rw [if_pos g]
      exact ⟨m, E - F + 126, fl_enc ⟨n1, g, by omega, by omega⟩ (by omega), ⟨n1, g, by omega, by omega⟩, by omega, by omega⟩
    · rw [if_neg g]
      exact ⟨8388608, E - F + 127, fl_enc ⟨by omega, by omega, by omega, by omega⟩ (by omega), ⟨by omega, by omega, by omega, by omega⟩, by omega, by omega⟩
/-- the quotient of two small numbers -/
theorem fl_quot {a b : Nat} (hb : 1 ≤ b) (hab : b ≤ a) (ha : a < 1000000) : ∃ m G, FP.fdiv (FP.i2f (Int32.ofInt a)) (FP.i2f (Int32.ofInt b)) = fl m G ∧ fl_ok m G ∧ 127 ≤ G ∧ G ≤ 148 := by
  obtain ⟨ea, oa⟩ := fl_i2f (n := a) (by omega) (by omega)
  obtain ⟨eb, ob⟩ := fl_i2f (n := b) (by omega) (by omega)
  rw [ea, eb]
  have la : a.log2 < 20 := l2_lt (n := a) (k := 20) (N := 1048576) (by omega) (by decide) (by omega)
  have mono : b.log2 ≤ a.log2 := by
    rcases Nat.lt_or_ge a.log2 b.log2 with g | g
    · exfalso
      have h1 := Nat.log2_self_le (n := b) (by omega)
      have h2 := Nat.lt_log2_self (n := a)
      have h3 : 2 ^ (a.log2 + 1) ≤ 2 ^ b.log2 := Nat.pow_le_pow_right (by omega) g
      omega
    · exact g
  refine fl_div oa ob ?_ (by omega)
  rcases Nat.eq_or_lt_of_le mono with g | g
  · refine Or.inr ⟨by omega, ?_⟩
    unfold i_m
    rw [g]
    exact Nat.mul_le_mul_right _ hab
  · exact Or.inl (by omega)
theorem fl_2 : FP.fconst2 = fl 8388608 128 := by decide +kernel
theorem fl_mul2 {m E : Nat} (h : fl_ok m E) (hE : E < 240) : FP.fmul (fl m E) FP.fconst2 = fl m (E + 1) := by
  have ok2 : fl_ok 8388608 128 := ⟨by omega, by omega, by omega, by omega⟩
  rw [fl_2]
  show UInt32.ofNat (FP.Core.encode FP.Core.b32 (FP.Core.round FP.Core.b32 (FP.Core.exactProduct (FP.Core.decode FP.Core.b32 (fl m E).toNat) (FP.Core.decode FP.Core.b32 (fl 8388608 128).toNat)))) = _
  rw [fl_dec h, fl_dec ok2]
  obtain ⟨h1, h2, h3, h4⟩ := h
  unfold FP.Core.exactProduct FP.Core.round
  dsimp only
  have hx : (false != false) = false := rfl
  have hl : (m * 8388608).log2 = 46 := by
    have a := l2_lt (n := m * 8388608) (k := 47) (N := 140737488355328) (by omega) (by decide) (by omega)
    have b := l2_ge (n := m * 8388608) (k := 46) (N := 70368744177664) (by omega) (by decide) (by omega)
    omega
  rw [hx, fp_rr (l := 46) (by omega) (by rw [fp_lead1 (by omega), hl]; rfl) (by omega), show ((23 : Int) - 46).toNat = 0 by decide, show ((46 : Int) - 23).toNat = 23 by decide]
  have e3 : 1 * (2 : Nat) ^ 23 = 8388608 := by decide
  rw [e3, Nat.pow_zero, Nat.mul_one, fp_near1 (a := m) (b := 8388608) (by decide), fp_settle (m := m) (by omega) (by omega), if_pos h2]
  exact fl_enc ⟨h1, h2, by omega, by omega⟩ (by omega)
theorem fl_cmp {m E : Nat} (h : fl_ok m E) (hE : E ≤ 150) : FP.fcmp (fl m E) 1258291200 = if E < 150 then some .lt else if m = 8388608 then some .eq else some .gt := by
  have ok2 : fl_ok 8388608 150 := ⟨by omega, by omega, by omega, by omega⟩
  have e0 : (1258291200 : UInt32) = fl 8388608 150 := by decide +kernel
  rw [e0]
  show FP.Core.order (FP.Core.decode FP.Core.b32 (fl m E).toNat) (FP.Core.decode FP.Core.b32 (fl 8388608 150).toNat) = _
  rw [fl_dec h, fl_dec ok2]
  obtain ⟨h1, h2, h3, h4⟩ := h
  unfold FP.Core.order FP.Core.inUnits FP.Core.signed
  dsimp only
  have em : min ((E : Int) - 150) (((150 : Nat) : Int) - 150) = (E : Int) - 150 := by omega
  rw [em, show ((E : Int) - 150 - ((E : Int) - 150)).toNat = 0 by omega, show (((150 : Nat) : Int) - 150 - ((E : Int) - 150)).toNat = 150 - E by omega]
  simp only [Bool.false_eq_true, if_false, Nat.pow_zero, Nat.mul_one]
  by_cases c : E < 150
  · rw [if_pos c]
    have : 2 ≤ 2 ^ (150 - E) := by
      obtain ⟨k, hk⟩ : ∃ k, 150 - E = k + 1 := ⟨150 - E - 1, by omega⟩
      rw [hk, Nat.pow_succ]
      have := Nat.pow_pos (n := k) (show 0 < 2 by omega)
      omega
    have lt : ((m : Nat) : Int) < ((8388608 * 2 ^ (150 - E) : Nat) : Int) := by
      generalize 2 ^ (150 - E) = x at this
      omega
    rw [Int.compare_eq_lt.mpr lt]
  · rw [if_neg c]
    obtain rfl : E = 150 := by omega
    by_cases d : m = 8388608
    · rw [if_pos d, d]
      decide
    · rw [if_neg d]
      have gt : ((8388608 * 2 ^ (150 - 150) : Nat) : Int) < ((m : Nat) : Int) := by
        have e : (2 : Nat) ^ (150 - 150) = 1 := by decide
        rw [e]; omega
      rw [Int.compare_eq_gt.mpr gt]
theorem fl_self {m E : Nat} (h : fl_ok m E) : FP.fcmp (fl m E) (fl m E) = some .eq := by
  show FP.Core.order (FP.Core.decode FP.Core.b32 (fl m E).toNat) (FP.Core.decode FP.Core.b32 (fl m E).toNat) = _
  rw [fl_dec h]
  unfold FP.Core.order
  dsimp only
  rw [Int.compare_eq_eq.mpr rfl]
theorem fl_f2i {m : Nat} (h : fl_ok m 150) : FP.f2i (fl m 150) = Int32.ofInt m := by
  show FP.Core.toI (FP.Core.decode FP.Core.b32 (fl m 150).toNat) = _
  rw [fl_dec h]
  obtain ⟨h1, h2, h3, h4⟩ := h
  unfold FP.Core.toI FP.Core.toInt FP.Core.truncate FP.Core.signed
  dsimp only
  have e1 : (((150 : Nat) : Int) - 150).toNat = 0 := by decide
  have e2 : (-(((150 : Nat) : Int) - 150)).toNat = 0 := by decide
  rw [e1, e2, Nat.pow_zero, Nat.mul_one, Nat.div_one]
  simp only [Bool.false_eq_true, if_false]
  congr 1
  have e3 : (2 : Int) ^ 31 = 2147483648 := by decide
  rw [e3]
  omega
theorem fl_n32 {m E : Nat} (h : fl_ok m E) : vf_n32 (fl m E) := by
  unfold vf_n32
  rw [UInt32.le_iff_toNat_le, UInt32.toNat_and, fl_nat h]
  obtain ⟨h1, h2, h3, h4⟩ := h
  have a : fb m E &&& (2147483647 : UInt32).toNat ≤ fb m E := Nat.and_le_left
  have b : fb m E < 255 * 8388608 := by unfold fb; omega
  have e : (2139095040 : UInt32).toNat = 2139095040 := rfl
  have e2 : (0x7fffffff : UInt32).toNat = (2147483647 : UInt32).toNat := rfl
  show fb m E &&& (0x7fffffff : UInt32).toNat ≤ (2139095040 : UInt32).toNat
  rw [e, e2]
  omega
theorem fl_bits {m E : Nat} (h : fl_ok m E) : (fl m E).toInt32 = Int32.ofInt ((E : Int) * 8388608 + ((m : Int) - 8388608)) := by
  obtain ⟨h1, h2, h3, h4⟩ := h
  have e : (E : Int) * 8388608 + ((m : Int) - 8388608) = ((fb m E : Nat) : Int) := by unfold fb; omega
  rw [e]
  apply Int32.toBitVec_inj.mp
  show BitVec.ofNat 32 (fb m E) = BitVec.ofInt 32 ((fb m E : Nat) : Int)
  rw [BitVec.ofInt_natCast]
theorem sh_23 : ∀ E : Nat, E < 256 → Int32.ofInt E <<< (Int32.ofInt 23 &&& 31) = Int32.ofInt ((E * 8388608 : Nat) : Int) := by decide +kernel
