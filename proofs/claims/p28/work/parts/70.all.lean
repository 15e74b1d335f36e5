/-! ===== all calls of the class, as one function of its mathematical world (printed by wip/p28/mk70.py) ===== -/
/-- both worlds, and what holds of the state and of what was recorded -/
def lw_I (w : Wd) (M : Int) : Prop := st_inv M w.1 ∧ (∀ t ∈ w.2.1, st_inv M t) ∧ tx_ok w.2.2
theorem lw_I.up {w : Wd} {M N : Int} (a : lw_I w M) (h : M ≤ N) : lw_I w N := ⟨a.1.up h, fun t ht => (a.2.1 t ht).up h, a.2.2⟩
theorem lw_I.op {w : Wd} {M k : Int} {r : Int32 × St} (a : lw_I w M) (h : op_r M w.1 r) (hk : 1 ≤ k) : lw_I (wd_do w r) (M + k) := by
  refine ⟨?_, fun t ht => ?_, a.2.2⟩
  · rcases h with ⟨-, h⟩ | ⟨h, -⟩
    · exact h.up (by omega)
    · show st_inv (M + k) r.2
      rw [h]; exact a.1.up (by omega)
  · have ht2 : t ∈ (if r.1 < Int32.ofInt 0 then w.2.1 else hi_keep w.1 w.2.1) := ht
    split at ht2
    · exact (a.2.1 t ht2).up (by omega)
    · rcases List.mem_cons.mp (List.mem_of_mem_take ht2) with rfl | g
      · exact a.1.up (by omega)
      · exact (a.2.1 t g).up (by omega)
/-- what a played text leaves of the invariants -/
theorem or_run_inv {T : List Int} : ∀ (k p n : Nat) (s : St) (M : Int), 0 ≤ M → M + k ≤ 1000000 → st_inv M s → st_inv (M + k) (or_run T k p s n).2.2.2.2
  | 0, p, n, s, M, _, _, h => by rw [or_run]; exact h.up (by omega)
  | k + 1, p, n, s, M, h0, h1, h => by
    have o := or_do_r (x := tx T p) (f := (or_read T p).2.2) h h0 (by omega)
    rw [or_run]
    split
    · split
      · have hn : st_inv (M + 1) (or_do s (tx T p) (or_read T p).2.2).2 := by
          rcases o with ⟨-, g⟩ | ⟨g, -⟩
          · exact g
          · rw [g]; exact h.up (by omega)
        split
        · exact hn.up (by omega)
        · have g := or_run_inv (T := T) k (or_read T p).2.1 (n + 1) (or_do s (tx T p) (or_read T p).2.2).2 (M + 1) (by omega) (by omega) hn
          exact g.up (by omega)
      · exact h.up (by omega)
    · exact h.up (by omega)
theorem lw_I.play {w : Wd} {M : Int} (a : lw_I w M) (m0 : 0 ≤ M) (m1 : M ≤ 900000) : lw_I (wd_play w).2 (M + 61) := by
  unfold wd_play
  split
  · have g : st_inv (M + 61) (or_all w.2.2 w.1).2.2.2.2 := or_run_inv 61 0 0 w.1 M m0 (by omega) a.1
    refine ⟨g, fun t ht => ?_, a.2.2⟩
    have ht2 : t ∈ (if Int32.ofInt ((or_all w.2.2 w.1).2.2.2.1 : Int) < Int32.ofInt 0 then w.2.1 else hi_keep w.1 w.2.1) := ht
    split at ht2
    · exact (a.2.1 t ht2).up (by omega)
    · rcases List.mem_cons.mp (List.mem_of_mem_take ht2) with rfl | g
      · exact a.1.up (by omega)
      · exact (a.2.1 t g).up (by omega)
  · exact a.up (by omega)
theorem lw_I.undo {w : Wd} {M : Int} (a : lw_I w M) : lw_I (wd_undo w).2 (M + 61) := by
  obtain ⟨w1, w2, w3⟩ := w
  cases w2 with
  | nil => exact a.up (by omega)
  | cons s1 H1 => exact ⟨(a.2.1 s1 List.mem_cons_self).up (by omega), fun t ht => (a.2.1 t (List.mem_cons_of_mem _ ht)).up (by omega), a.2.2⟩
theorem lw_I.type {w : Wd} {M z1 : Int} (a : lw_I w M) : lw_I (wd_type w z1).2 (M + 61) := by
  unfold wd_type
  by_cases c1 : 32 ≤ z1 ∧ z1 ≤ 126
  · rw [if_pos c1]
    by_cases c2 : 60 ≤ w.2.2.length
    · rw [if_pos c2]; exact a.up (by omega)
    · rw [if_neg c2]
      refine ⟨a.1.up (by omega), fun t ht => (a.2.1 t ht).up (by omega), ?_, fun x hx => ?_⟩
      · show (w.2.2 ++ [z1]).length ≤ 60
        rw [List.length_append]
        simp only [List.length_cons, List.length_nil]
        omega
      · rcases List.mem_append.mp hx with g | g
        · exact a.2.2.2 x g
        · rw [List.mem_singleton] at g
          rw [g]; exact c1
  · rw [if_neg c1]; exact a.up (by omega)
theorem lw_I.clear {w : Wd} {M : Int} (a : lw_I w M) : lw_I (w.1, w.2.1, []) (M + 61) :=
  ⟨a.1.up (by omega), fun t ht => (a.2.1 t ht).up (by omega), Nat.zero_le _, fun x hx => by cases hx⟩
def fx_name (as : List Int32) (w : Wd) : Option (Int32 × Wd) := match as with
  | [a0, a1] => some (((op_name w.1 a0.toInt a1.toInt).1, wd_do w (op_name w.1 a0.toInt a1.toInt)))
  | _ => none
def fx_leaf (as : List Int32) (w : Wd) : Option (Int32 × Wd) := match as with
  | [a0] => some (((op_leaf w.1 a0.toInt).1, wd_do w (op_leaf w.1 a0.toInt)))
  | _ => none
def fx_sign (as : List Int32) (w : Wd) : Option (Int32 × Wd) := match as with
  | [a0, a1, a2] => some (((op_enter w.1 a0 a1.toInt a2.toInt (Int32.ofInt (-1))).1, wd_do w (op_enter w.1 a0 a1.toInt a2.toInt (Int32.ofInt (-1)))))
  | _ => none
def fx_over (as : List Int32) (w : Wd) : Option (Int32 × Wd) := match as with
  | [a0, a1] => some (((op_over w.1 a0 a1.toInt).1, wd_do w (op_over w.1 a0 a1.toInt)))
  | _ => none
def fx_dedicate (as : List Int32) (w : Wd) : Option (Int32 × Wd) := match as with
  | [a0, a1, a2] => some (((op_ded w.1 a0 a1.toInt a2.toInt).1, wd_do w (op_ded w.1 a0 a1.toInt a2.toInt)))
  | _ => none
def fx_move (as : List Int32) (w : Wd) : Option (Int32 × Wd) := match as with
  | [a0, a1] => some (((op_move w.1 a0 a1.toInt).1, wd_do w (op_move w.1 a0 a1.toInt)))
  | _ => none
def fx_trade (as : List Int32) (w : Wd) : Option (Int32 × Wd) := match as with
  | [a0, a1, a2] => some (((op_trade w.1 a0 a1 a2.toInt).1, wd_do w (op_trade w.1 a0 a1 a2.toInt)))
  | _ => none
def fx_tear (as : List Int32) (w : Wd) : Option (Int32 × Wd) := match as with
  | [a0] => some (((op_tear w.1 a0).1, wd_do w (op_tear w.1 a0)))
  | _ => none
def fx_coins (as : List Int32) (w : Wd) : Option (Int32 × Wd) := match as with
  | [a0, a1] => some (((op_coins w.1 a0.toInt a1.toInt).1, wd_do w (op_coins w.1 a0.toInt a1.toInt)))
  | _ => none
def fx_pageOf (as : List Int32) (w : Wd) : Option (Int32 × Wd) := match as with
  | [a0, a1, a2] => some ((qa_page w.1 a0 a1.toInt a2.toInt, w))
  | _ => none
def fx_leafOf (as : List Int32) (w : Wd) : Option (Int32 × Wd) := match as with
  | [a0, a1] => some ((qa_leaf w.1 a0 a1.toInt, w))
  | _ => none
def fx_at (as : List Int32) (w : Wd) : Option (Int32 × Wd) := match as with
  | [a0, a1] => some ((qa_at w.1 a0.toInt a1.toInt, w))
  | _ => none
def fx_collectorOf (as : List Int32) (w : Wd) : Option (Int32 × Wd) := match as with
  | [a0, a1] => some ((qa_coll w.1 a0.toInt a1.toInt, w))
  | _ => none
def fx_nameOf (as : List Int32) (w : Wd) : Option (Int32 × Wd) := match as with
  | [a0, a1] => some ((qa_name w.1 a0.toInt a1.toInt, w))
  | _ => none
def fx_gain (as : List Int32) (w : Wd) : Option (Int32 × Wd) := match as with
  | [a0, a1, a2, a3] => some ((qa_gain w.1 a0 a1 a2.toInt a3.toInt, w))
  | _ => none
def fx_fair (as : List Int32) (w : Wd) : Option (Int32 × Wd) := match as with
  | [a0, a1] => some ((qa_fair w.1 a0 a1, w))
  | _ => none
def fx_best (as : List Int32) (w : Wd) : Option (Int32 × Wd) := match as with
  | [a0, a1] => some ((qa_best w.1 a0.toInt a1.toInt, w))
  | _ => none
def fx_missing (as : List Int32) (w : Wd) : Option (Int32 × Wd) := match as with
  | [a0, a1] => some ((qa_miss w.1 a0.toInt a1.toInt, w))
  | _ => none
def fx_mean (as : List Int32) (w : Wd) : Option (Int32 × Wd) := match as with
  | [a0] => some ((qa_mean w.1 a0.toInt, w))
  | _ => none
def fx_count (as : List Int32) (w : Wd) : Option (Int32 × Wd) := match as with
  | [a0] => some ((qa_count w a0.toInt, w))
  | _ => none
def fx_undo (as : List Int32) (w : Wd) : Option (Int32 × Wd) := match as with
  | [] => some (wd_undo w)
  | _ => none
def fx_type (as : List Int32) (w : Wd) : Option (Int32 × Wd) := match as with
  | [a0] => some (wd_type w a0.toInt)
  | _ => none
def fx_clearText (as : List Int32) (w : Wd) : Option (Int32 × Wd) := match as with
  | [] => some ((Int32.ofInt w.2.2.length, (w.1, w.2.1, ([] : List Int))))
  | _ => none
def fx_fault (as : List Int32) (w : Wd) : Option (Int32 × Wd) := match as with
  | [a0] => some ((qa_fault w a0.toInt, w))
  | _ => none
def fx_play (as : List Int32) (w : Wd) : Option (Int32 × Wd) := match as with
  | [] => some (wd_play w)
  | _ => none
def fcd_24 (y : Nat) (as : List Int32) (w : Wd) : Option (Int32 × Wd) := if y = yn_Fair_play then fx_play as w else none
def fcd_23 (y : Nat) (as : List Int32) (w : Wd) : Option (Int32 × Wd) := if y = yn_Fair_fault then fx_fault as w else fcd_24 y as w
def fcd_22 (y : Nat) (as : List Int32) (w : Wd) : Option (Int32 × Wd) := if y = yn_Fair_clearText then fx_clearText as w else fcd_23 y as w
def fcd_21 (y : Nat) (as : List Int32) (w : Wd) : Option (Int32 × Wd) := if y = yn_Fair_type then fx_type as w else fcd_22 y as w
def fcd_20 (y : Nat) (as : List Int32) (w : Wd) : Option (Int32 × Wd) := if y = yn_Fair_undo then fx_undo as w else fcd_21 y as w
def fcd_19 (y : Nat) (as : List Int32) (w : Wd) : Option (Int32 × Wd) := if y = yn_Fair_count then fx_count as w else fcd_20 y as w
def fcd_18 (y : Nat) (as : List Int32) (w : Wd) : Option (Int32 × Wd) := if y = yn_Fair_mean then fx_mean as w else fcd_19 y as w
def fcd_17 (y : Nat) (as : List Int32) (w : Wd) : Option (Int32 × Wd) := if y = yn_Fair_missing then fx_missing as w else fcd_18 y as w
def fcd_16 (y : Nat) (as : List Int32) (w : Wd) : Option (Int32 × Wd) := if y = yn_Fair_best then fx_best as w else fcd_17 y as w
def fcd_15 (y : Nat) (as : List Int32) (w : Wd) : Option (Int32 × Wd) := if y = yn_Fair_fair then fx_fair as w else fcd_16 y as w
def fcd_14 (y : Nat) (as : List Int32) (w : Wd) : Option (Int32 × Wd) := if y = yn_Fair_gain then fx_gain as w else fcd_15 y as w
def fcd_13 (y : Nat) (as : List Int32) (w : Wd) : Option (Int32 × Wd) := if y = yn_Fair_nameOf then fx_nameOf as w else fcd_14 y as w
def fcd_12 (y : Nat) (as : List Int32) (w : Wd) : Option (Int32 × Wd) := if y = yn_Fair_collectorOf then fx_collectorOf as w else fcd_13 y as w
def fcd_11 (y : Nat) (as : List Int32) (w : Wd) : Option (Int32 × Wd) := if y = yn_Fair_at then fx_at as w else fcd_12 y as w
def fcd_10 (y : Nat) (as : List Int32) (w : Wd) : Option (Int32 × Wd) := if y = yn_Fair_leafOf then fx_leafOf as w else fcd_11 y as w
def fcd_9 (y : Nat) (as : List Int32) (w : Wd) : Option (Int32 × Wd) := if y = yn_Fair_pageOf then fx_pageOf as w else fcd_10 y as w
def fcd_8 (y : Nat) (as : List Int32) (w : Wd) : Option (Int32 × Wd) := if y = yn_Fair_coins then fx_coins as w else fcd_9 y as w
def fcd_7 (y : Nat) (as : List Int32) (w : Wd) : Option (Int32 × Wd) := if y = yn_Fair_tear then fx_tear as w else fcd_8 y as w
def fcd_6 (y : Nat) (as : List Int32) (w : Wd) : Option (Int32 × Wd) := if y = yn_Fair_trade then fx_trade as w else fcd_7 y as w
def fcd_5 (y : Nat) (as : List Int32) (w : Wd) : Option (Int32 × Wd) := if y = yn_Fair_move then fx_move as w else fcd_6 y as w
def fcd_4 (y : Nat) (as : List Int32) (w : Wd) : Option (Int32 × Wd) := if y = yn_Fair_dedicate then fx_dedicate as w else fcd_5 y as w
def fcd_3 (y : Nat) (as : List Int32) (w : Wd) : Option (Int32 × Wd) := if y = yn_Fair_over then fx_over as w else fcd_4 y as w
def fcd_2 (y : Nat) (as : List Int32) (w : Wd) : Option (Int32 × Wd) := if y = yn_Fair_sign then fx_sign as w else fcd_3 y as w
def fcd_1 (y : Nat) (as : List Int32) (w : Wd) : Option (Int32 × Wd) := if y = yn_Fair_leaf then fx_leaf as w else fcd_2 y as w
def fcd_0 (y : Nat) (as : List Int32) (w : Wd) : Option (Int32 × Wd) := if y = yn_Fair_name then fx_name as w else fcd_1 y as w
/-- the answer of a call, and the world behind it: y the number of the method -/
def fc_do (y : Nat) (as : List Int32) (w : Wd) : Option (Int32 × Wd) := fcd_0 y as w
theorem fi_name {w : Wd} {M : Int} {a0 a1 : Int32} (I : lw_I w M) (m0 : 0 ≤ M) (m1 : M ≤ 900000) : lw_I (((op_name w.1 a0.toInt a1.toInt).1, wd_do w (op_name w.1 a0.toInt a1.toInt))).2 (M + 61) := I.op (op_name_r I.1 m0) (by omega)
theorem fa_name {w : Wd} {M : Int} {h : ab_H} {a0 a1 : Int32} (V : sp_CW h w) (I : lw_I w M) (m0 : 0 ≤ M) (m1 : M ≤ 900000) {Q : Option Value → ab_H → Prop} (hq : ∀ h', sp_CW h' (((op_name w.1 a0.toInt a1.toInt).1, wd_do w (op_name w.1 a0.toInt a1.toInt))).2 → Q (some (.int (((op_name w.1 a0.toInt a1.toInt).1, wd_do w (op_name w.1 a0.toInt a1.toInt))).1)) h') : ab_C 8 yn_Fair_name 192 [.ref 0, .int a0, .int a1] h Q := by
  have g : ab_C 8 yn_Fair_name 192 [.ref 0, .int (Int32.ofInt a0.toInt), .int (Int32.ofInt a1.toInt)] h Q := ab_C.up (fc_name V I.1 m0 m1 (Int32.le_toInt a0) (Int32.toInt_lt a0) (Int32.le_toInt a1) (Int32.toInt_lt a1) (fun h' q1 _ => hq h' q1)) (Nat.le_of_ble_eq_true rfl)
  simp only [Int32.ofInt_toInt] at g
  exact g
theorem fi_leaf {w : Wd} {M : Int} {a0 : Int32} (I : lw_I w M) (m0 : 0 ≤ M) (m1 : M ≤ 900000) : lw_I (((op_leaf w.1 a0.toInt).1, wd_do w (op_leaf w.1 a0.toInt))).2 (M + 61) := I.op (op_leaf_r I.1 m0 (by omega)) (by omega)
theorem fa_leaf {w : Wd} {M : Int} {h : ab_H} {a0 : Int32} (V : sp_CW h w) (I : lw_I w M) (m0 : 0 ≤ M) (m1 : M ≤ 900000) {Q : Option Value → ab_H → Prop} (hq : ∀ h', sp_CW h' (((op_leaf w.1 a0.toInt).1, wd_do w (op_leaf w.1 a0.toInt))).2 → Q (some (.int (((op_leaf w.1 a0.toInt).1, wd_do w (op_leaf w.1 a0.toInt))).1)) h') : ab_C 8 yn_Fair_leaf 192 [.ref 0, .int a0] h Q := by
  have g : ab_C 8 yn_Fair_leaf 192 [.ref 0, .int (Int32.ofInt a0.toInt)] h Q := ab_C.up (fc_leaf V I.1 m0 m1 (Int32.le_toInt a0) (Int32.toInt_lt a0) (fun h' q1 _ => hq h' q1)) (Nat.le_of_ble_eq_true rfl)
  simp only [Int32.ofInt_toInt] at g
  exact g
theorem fi_sign {w : Wd} {M : Int} {a0 a1 a2 : Int32} (I : lw_I w M) (m0 : 0 ≤ M) (m1 : M ≤ 900000) : lw_I (((op_enter w.1 a0 a1.toInt a2.toInt (Int32.ofInt (-1))).1, wd_do w (op_enter w.1 a0 a1.toInt a2.toInt (Int32.ofInt (-1))))).2 (M + 61) := I.op (op_enter_r I.1 m0 ⟨-1, by omega, by omega, rfl⟩) (by omega)
theorem fa_sign {w : Wd} {M : Int} {h : ab_H} {a0 a1 a2 : Int32} (V : sp_CW h w) (I : lw_I w M) (m0 : 0 ≤ M) (m1 : M ≤ 900000) {Q : Option Value → ab_H → Prop} (hq : ∀ h', sp_CW h' (((op_enter w.1 a0 a1.toInt a2.toInt (Int32.ofInt (-1))).1, wd_do w (op_enter w.1 a0 a1.toInt a2.toInt (Int32.ofInt (-1))))).2 → Q (some (.int (((op_enter w.1 a0 a1.toInt a2.toInt (Int32.ofInt (-1))).1, wd_do w (op_enter w.1 a0 a1.toInt a2.toInt (Int32.ofInt (-1))))).1)) h') : ab_C 8 yn_Fair_sign 192 [.ref 0, .int a0, .int a1, .int a2] h Q := by
  have g : ab_C 8 yn_Fair_sign 192 [.ref 0, .int a0, .int (Int32.ofInt a1.toInt), .int (Int32.ofInt a2.toInt)] h Q := ab_C.up (fc_sign V I.1 m0 m1 (Int32.le_toInt a1) (Int32.toInt_lt a1) (Int32.le_toInt a2) (Int32.toInt_lt a2) (fun h' q1 _ => hq h' q1)) (Nat.le_of_ble_eq_true rfl)
  simp only [Int32.ofInt_toInt] at g
  exact g
theorem fi_over {w : Wd} {M : Int} {a0 a1 : Int32} (I : lw_I w M) (m0 : 0 ≤ M) (m1 : M ≤ 900000) : lw_I (((op_over w.1 a0 a1.toInt).1, wd_do w (op_over w.1 a0 a1.toInt))).2 (M + 61) := I.op (op_over_r I.1 m0) (by omega)
theorem fa_over {w : Wd} {M : Int} {h : ab_H} {a0 a1 : Int32} (V : sp_CW h w) (I : lw_I w M) (m0 : 0 ≤ M) (m1 : M ≤ 900000) {Q : Option Value → ab_H → Prop} (hq : ∀ h', sp_CW h' (((op_over w.1 a0 a1.toInt).1, wd_do w (op_over w.1 a0 a1.toInt))).2 → Q (some (.int (((op_over w.1 a0 a1.toInt).1, wd_do w (op_over w.1 a0 a1.toInt))).1)) h') : ab_C 8 yn_Fair_over 192 [.ref 0, .int a0, .int a1] h Q := by
  have g : ab_C 8 yn_Fair_over 192 [.ref 0, .int a0, .int (Int32.ofInt a1.toInt)] h Q := ab_C.up (fc_over V I.1 m0 m1 (Int32.le_toInt a1) (Int32.toInt_lt a1) (fun h' q1 _ => hq h' q1)) (Nat.le_of_ble_eq_true rfl)
  simp only [Int32.ofInt_toInt] at g
  exact g
theorem fi_dedicate {w : Wd} {M : Int} {a0 a1 a2 : Int32} (I : lw_I w M) (m0 : 0 ≤ M) (m1 : M ≤ 900000) : lw_I (((op_ded w.1 a0 a1.toInt a2.toInt).1, wd_do w (op_ded w.1 a0 a1.toInt a2.toInt))).2 (M + 61) := I.op (op_ded_r I.1 m0) (by omega)
theorem fa_dedicate {w : Wd} {M : Int} {h : ab_H} {a0 a1 a2 : Int32} (V : sp_CW h w) (I : lw_I w M) (m0 : 0 ≤ M) (m1 : M ≤ 900000) {Q : Option Value → ab_H → Prop} (hq : ∀ h', sp_CW h' (((op_ded w.1 a0 a1.toInt a2.toInt).1, wd_do w (op_ded w.1 a0 a1.toInt a2.toInt))).2 → Q (some (.int (((op_ded w.1 a0 a1.toInt a2.toInt).1, wd_do w (op_ded w.1 a0 a1.toInt a2.toInt))).1)) h') : ab_C 8 yn_Fair_dedicate 192 [.ref 0, .int a0, .int a1, .int a2] h Q := by
  have g : ab_C 8 yn_Fair_dedicate 192 [.ref 0, .int a0, .int (Int32.ofInt a1.toInt), .int (Int32.ofInt a2.toInt)] h Q := ab_C.up (fc_dedicate V I.1 m0 m1 (Int32.le_toInt a1) (Int32.toInt_lt a1) (Int32.le_toInt a2) (Int32.toInt_lt a2) (fun h' q1 _ => hq h' q1)) (Nat.le_of_ble_eq_true rfl)
  simp only [Int32.ofInt_toInt] at g
  exact g
theorem fi_move {w : Wd} {M : Int} {a0 a1 : Int32} (I : lw_I w M) (m0 : 0 ≤ M) (m1 : M ≤ 900000) : lw_I (((op_move w.1 a0 a1.toInt).1, wd_do w (op_move w.1 a0 a1.toInt))).2 (M + 61) := I.op (op_move_r I.1 m0) (by omega)
theorem fa_move {w : Wd} {M : Int} {h : ab_H} {a0 a1 : Int32} (V : sp_CW h w) (I : lw_I w M) (m0 : 0 ≤ M) (m1 : M ≤ 900000) {Q : Option Value → ab_H → Prop} (hq : ∀ h', sp_CW h' (((op_move w.1 a0 a1.toInt).1, wd_do w (op_move w.1 a0 a1.toInt))).2 → Q (some (.int (((op_move w.1 a0 a1.toInt).1, wd_do w (op_move w.1 a0 a1.toInt))).1)) h') : ab_C 8 yn_Fair_move 192 [.ref 0, .int a0, .int a1] h Q := by
  have g : ab_C 8 yn_Fair_move 192 [.ref 0, .int a0, .int (Int32.ofInt a1.toInt)] h Q := ab_C.up (fc_move V I.1 m0 m1 (Int32.le_toInt a1) (Int32.toInt_lt a1) (fun h' q1 _ => hq h' q1)) (Nat.le_of_ble_eq_true rfl)
  simp only [Int32.ofInt_toInt] at g
  exact g
theorem fi_trade {w : Wd} {M : Int} {a0 a1 a2 : Int32} (I : lw_I w M) (m0 : 0 ≤ M) (m1 : M ≤ 900000) : lw_I (((op_trade w.1 a0 a1 a2.toInt).1, wd_do w (op_trade w.1 a0 a1 a2.toInt))).2 (M + 61) := I.op (op_trade_r I.1 m0) (by omega)
theorem fa_trade {w : Wd} {M : Int} {h : ab_H} {a0 a1 a2 : Int32} (V : sp_CW h w) (I : lw_I w M) (m0 : 0 ≤ M) (m1 : M ≤ 900000) {Q : Option Value → ab_H → Prop} (hq : ∀ h', sp_CW h' (((op_trade w.1 a0 a1 a2.toInt).1, wd_do w (op_trade w.1 a0 a1 a2.toInt))).2 → Q (some (.int (((op_trade w.1 a0 a1 a2.toInt).1, wd_do w (op_trade w.1 a0 a1 a2.toInt))).1)) h') : ab_C 8 yn_Fair_trade 192 [.ref 0, .int a0, .int a1, .int a2] h Q := by
  have g : ab_C 8 yn_Fair_trade 192 [.ref 0, .int a0, .int a1, .int (Int32.ofInt a2.toInt)] h Q := ab_C.up (fc_trade V I.1 m0 m1 (Int32.le_toInt a2) (Int32.toInt_lt a2) (fun h' q1 _ => hq h' q1)) (Nat.le_of_ble_eq_true rfl)
  simp only [Int32.ofInt_toInt] at g
  exact g
theorem fi_tear {w : Wd} {M : Int} {a0 : Int32} (I : lw_I w M) (m0 : 0 ≤ M) (m1 : M ≤ 900000) : lw_I (((op_tear w.1 a0).1, wd_do w (op_tear w.1 a0))).2 (M + 61) := I.op (op_tear_r I.1 m0) (by omega)
theorem fa_tear {w : Wd} {M : Int} {h : ab_H} {a0 : Int32} (V : sp_CW h w) (I : lw_I w M) (m0 : 0 ≤ M) (m1 : M ≤ 900000) {Q : Option Value → ab_H → Prop} (hq : ∀ h', sp_CW h' (((op_tear w.1 a0).1, wd_do w (op_tear w.1 a0))).2 → Q (some (.int (((op_tear w.1 a0).1, wd_do w (op_tear w.1 a0))).1)) h') : ab_C 8 yn_Fair_tear 192 [.ref 0, .int a0] h Q := by
  have g : ab_C 8 yn_Fair_tear 192 [.ref 0, .int a0] h Q := ab_C.up (fc_tear V I.1 m0 m1  (fun h' q1 _ => hq h' q1)) (Nat.le_of_ble_eq_true rfl)
  exact g
theorem fi_coins {w : Wd} {M : Int} {a0 a1 : Int32} (I : lw_I w M) (m0 : 0 ≤ M) (m1 : M ≤ 900000) : lw_I (((op_coins w.1 a0.toInt a1.toInt).1, wd_do w (op_coins w.1 a0.toInt a1.toInt))).2 (M + 61) := I.op (op_coins_r I.1 m0) (by omega)
theorem fa_coins {w : Wd} {M : Int} {h : ab_H} {a0 a1 : Int32} (V : sp_CW h w) (I : lw_I w M) (m0 : 0 ≤ M) (m1 : M ≤ 900000) {Q : Option Value → ab_H → Prop} (hq : ∀ h', sp_CW h' (((op_coins w.1 a0.toInt a1.toInt).1, wd_do w (op_coins w.1 a0.toInt a1.toInt))).2 → Q (some (.int (((op_coins w.1 a0.toInt a1.toInt).1, wd_do w (op_coins w.1 a0.toInt a1.toInt))).1)) h') : ab_C 8 yn_Fair_coins 192 [.ref 0, .int a0, .int a1] h Q := by
  have g : ab_C 8 yn_Fair_coins 192 [.ref 0, .int (Int32.ofInt a0.toInt), .int (Int32.ofInt a1.toInt)] h Q := ab_C.up (fc_coins V I.1 m0 m1 (Int32.le_toInt a0) (Int32.toInt_lt a0) (Int32.le_toInt a1) (Int32.toInt_lt a1) (fun h' q1 _ => hq h' q1)) (Nat.le_of_ble_eq_true rfl)
  simp only [Int32.ofInt_toInt] at g
  exact g
theorem fi_pageOf {w : Wd} {M : Int} {a0 a1 a2 : Int32} (I : lw_I w M) (m0 : 0 ≤ M) (m1 : M ≤ 900000) : lw_I ((qa_page w.1 a0 a1.toInt a2.toInt, w)).2 (M + 61) := I.up (by omega)
theorem fa_pageOf {w : Wd} {M : Int} {h : ab_H} {a0 a1 a2 : Int32} (V : sp_CW h w) (I : lw_I w M) (m0 : 0 ≤ M) (m1 : M ≤ 900000) {Q : Option Value → ab_H → Prop} (hq : ∀ h', sp_CW h' ((qa_page w.1 a0 a1.toInt a2.toInt, w)).2 → Q (some (.int ((qa_page w.1 a0 a1.toInt a2.toInt, w)).1)) h') : ab_C 8 yn_Fair_pageOf 192 [.ref 0, .int a0, .int a1, .int a2] h Q := by
  have g : ab_C 8 yn_Fair_pageOf 192 [.ref 0, .int a0, .int (Int32.ofInt a1.toInt), .int (Int32.ofInt a2.toInt)] h Q := ab_C.up (fc_pageOf V I.1 (Int32.le_toInt a1) (Int32.toInt_lt a1) (Int32.le_toInt a2) (Int32.toInt_lt a2) (hq h V)) (Nat.le_of_ble_eq_true rfl)
  simp only [Int32.ofInt_toInt] at g
  exact g
theorem fi_leafOf {w : Wd} {M : Int} {a0 a1 : Int32} (I : lw_I w M) (m0 : 0 ≤ M) (m1 : M ≤ 900000) : lw_I ((qa_leaf w.1 a0 a1.toInt, w)).2 (M + 61) := I.up (by omega)
theorem fa_leafOf {w : Wd} {M : Int} {h : ab_H} {a0 a1 : Int32} (V : sp_CW h w) (I : lw_I w M) (m0 : 0 ≤ M) (m1 : M ≤ 900000) {Q : Option Value → ab_H → Prop} (hq : ∀ h', sp_CW h' ((qa_leaf w.1 a0 a1.toInt, w)).2 → Q (some (.int ((qa_leaf w.1 a0 a1.toInt, w)).1)) h') : ab_C 8 yn_Fair_leafOf 192 [.ref 0, .int a0, .int a1] h Q := by
  have g : ab_C 8 yn_Fair_leafOf 192 [.ref 0, .int a0, .int (Int32.ofInt a1.toInt)] h Q := ab_C.up (fc_leafOf V I.1 (Int32.le_toInt a1) (Int32.toInt_lt a1) (hq h V)) (Nat.le_of_ble_eq_true rfl)
  simp only [Int32.ofInt_toInt] at g
  exact g
theorem fi_at {w : Wd} {M : Int} {a0 a1 : Int32} (I : lw_I w M) (m0 : 0 ≤ M) (m1 : M ≤ 900000) : lw_I ((qa_at w.1 a0.toInt a1.toInt, w)).2 (M + 61) := I.up (by omega)
theorem fa_at {w : Wd} {M : Int} {h : ab_H} {a0 a1 : Int32} (V : sp_CW h w) (I : lw_I w M) (m0 : 0 ≤ M) (m1 : M ≤ 900000) {Q : Option Value → ab_H → Prop} (hq : ∀ h', sp_CW h' ((qa_at w.1 a0.toInt a1.toInt, w)).2 → Q (some (.int ((qa_at w.1 a0.toInt a1.toInt, w)).1)) h') : ab_C 8 yn_Fair_at 192 [.ref 0, .int a0, .int a1] h Q := by
  have g : ab_C 8 yn_Fair_at 192 [.ref 0, .int (Int32.ofInt a0.toInt), .int (Int32.ofInt a1.toInt)] h Q := ab_C.up (fc_at V I.1 (Int32.le_toInt a0) (Int32.toInt_lt a0) (Int32.le_toInt a1) (Int32.toInt_lt a1) (hq h V)) (Nat.le_of_ble_eq_true rfl)
  simp only [Int32.ofInt_toInt] at g
  exact g
theorem fi_collectorOf {w : Wd} {M : Int} {a0 a1 : Int32} (I : lw_I w M) (m0 : 0 ≤ M) (m1 : M ≤ 900000) : lw_I ((qa_coll w.1 a0.toInt a1.toInt, w)).2 (M + 61) := I.up (by omega)
theorem fa_collectorOf {w : Wd} {M : Int} {h : ab_H} {a0 a1 : Int32} (V : sp_CW h w) (I : lw_I w M) (m0 : 0 ≤ M) (m1 : M ≤ 900000) {Q : Option Value → ab_H → Prop} (hq : ∀ h', sp_CW h' ((qa_coll w.1 a0.toInt a1.toInt, w)).2 → Q (some (.int ((qa_coll w.1 a0.toInt a1.toInt, w)).1)) h') : ab_C 8 yn_Fair_collectorOf 192 [.ref 0, .int a0, .int a1] h Q := by
  have g : ab_C 8 yn_Fair_collectorOf 192 [.ref 0, .int (Int32.ofInt a0.toInt), .int (Int32.ofInt a1.toInt)] h Q := ab_C.up (fc_collectorOf V I.1 (Int32.le_toInt a0) (Int32.toInt_lt a0) (Int32.le_toInt a1) (Int32.toInt_lt a1) (hq h V)) (Nat.le_of_ble_eq_true rfl)
  simp only [Int32.ofInt_toInt] at g
  exact g
theorem fi_nameOf {w : Wd} {M : Int} {a0 a1 : Int32} (I : lw_I w M) (m0 : 0 ≤ M) (m1 : M ≤ 900000) : lw_I ((qa_name w.1 a0.toInt a1.toInt, w)).2 (M + 61) := I.up (by omega)
theorem fa_nameOf {w : Wd} {M : Int} {h : ab_H} {a0 a1 : Int32} (V : sp_CW h w) (I : lw_I w M) (m0 : 0 ≤ M) (m1 : M ≤ 900000) {Q : Option Value → ab_H → Prop} (hq : ∀ h', sp_CW h' ((qa_name w.1 a0.toInt a1.toInt, w)).2 → Q (some (.int ((qa_name w.1 a0.toInt a1.toInt, w)).1)) h') : ab_C 8 yn_Fair_nameOf 192 [.ref 0, .int a0, .int a1] h Q := by
  have g : ab_C 8 yn_Fair_nameOf 192 [.ref 0, .int (Int32.ofInt a0.toInt), .int (Int32.ofInt a1.toInt)] h Q := ab_C.up (fc_nameOf V I.1 (Int32.le_toInt a0) (Int32.toInt_lt a0) (Int32.le_toInt a1) (Int32.toInt_lt a1) (hq h V)) (Nat.le_of_ble_eq_true rfl)
  simp only [Int32.ofInt_toInt] at g
  exact g
theorem fi_gain {w : Wd} {M : Int} {a0 a1 a2 a3 : Int32} (I : lw_I w M) (m0 : 0 ≤ M) (m1 : M ≤ 900000) : lw_I ((qa_gain w.1 a0 a1 a2.toInt a3.toInt, w)).2 (M + 61) := I.up (by omega)
theorem fa_gain {w : Wd} {M : Int} {h : ab_H} {a0 a1 a2 a3 : Int32} (V : sp_CW h w) (I : lw_I w M) (m0 : 0 ≤ M) (m1 : M ≤ 900000) {Q : Option Value → ab_H → Prop} (hq : ∀ h', sp_CW h' ((qa_gain w.1 a0 a1 a2.toInt a3.toInt, w)).2 → Q (some (.int ((qa_gain w.1 a0 a1 a2.toInt a3.toInt, w)).1)) h') : ab_C 8 yn_Fair_gain 192 [.ref 0, .int a0, .int a1, .int a2, .int a3] h Q := by
  have g : ab_C 8 yn_Fair_gain 192 [.ref 0, .int a0, .int a1, .int (Int32.ofInt a2.toInt), .int (Int32.ofInt a3.toInt)] h Q := ab_C.up (fc_gain V I.1 (Int32.le_toInt a2) (Int32.toInt_lt a2) (Int32.le_toInt a3) (Int32.toInt_lt a3) (fun h' q1 _ => hq h' q1)) (Nat.le_of_ble_eq_true rfl)
  simp only [Int32.ofInt_toInt] at g
  exact g
theorem fi_fair {w : Wd} {M : Int} {a0 a1 : Int32} (I : lw_I w M) (m0 : 0 ≤ M) (m1 : M ≤ 900000) : lw_I ((qa_fair w.1 a0 a1, w)).2 (M + 61) := I.up (by omega)
theorem fa_fair {w : Wd} {M : Int} {h : ab_H} {a0 a1 : Int32} (V : sp_CW h w) (I : lw_I w M) (m0 : 0 ≤ M) (m1 : M ≤ 900000) {Q : Option Value → ab_H → Prop} (hq : ∀ h', sp_CW h' ((qa_fair w.1 a0 a1, w)).2 → Q (some (.int ((qa_fair w.1 a0 a1, w)).1)) h') : ab_C 8 yn_Fair_fair 192 [.ref 0, .int a0, .int a1] h Q := by
  have g : ab_C 8 yn_Fair_fair 192 [.ref 0, .int a0, .int a1] h Q := ab_C.up (fc_fair V I.1  (fun h' q1 _ => hq h' q1)) (Nat.le_of_ble_eq_true rfl)
  exact g
theorem fi_best {w : Wd} {M : Int} {a0 a1 : Int32} (I : lw_I w M) (m0 : 0 ≤ M) (m1 : M ≤ 900000) : lw_I ((qa_best w.1 a0.toInt a1.toInt, w)).2 (M + 61) := I.up (by omega)
theorem fa_best {w : Wd} {M : Int} {h : ab_H} {a0 a1 : Int32} (V : sp_CW h w) (I : lw_I w M) (m0 : 0 ≤ M) (m1 : M ≤ 900000) {Q : Option Value → ab_H → Prop} (hq : ∀ h', sp_CW h' ((qa_best w.1 a0.toInt a1.toInt, w)).2 → Q (some (.int ((qa_best w.1 a0.toInt a1.toInt, w)).1)) h') : ab_C 8 yn_Fair_best 192 [.ref 0, .int a0, .int a1] h Q := by
  have g : ab_C 8 yn_Fair_best 192 [.ref 0, .int (Int32.ofInt a0.toInt), .int (Int32.ofInt a1.toInt)] h Q := ab_C.up (fc_best V I.1 (Int32.le_toInt a0) (Int32.toInt_lt a0) (Int32.le_toInt a1) (Int32.toInt_lt a1) (fun h' q1 _ => hq h' q1)) (Nat.le_of_ble_eq_true rfl)
  simp only [Int32.ofInt_toInt] at g
  exact g
theorem fi_missing {w : Wd} {M : Int} {a0 a1 : Int32} (I : lw_I w M) (m0 : 0 ≤ M) (m1 : M ≤ 900000) : lw_I ((qa_miss w.1 a0.toInt a1.toInt, w)).2 (M + 61) := I.up (by omega)
theorem fa_missing {w : Wd} {M : Int} {h : ab_H} {a0 a1 : Int32} (V : sp_CW h w) (I : lw_I w M) (m0 : 0 ≤ M) (m1 : M ≤ 900000) {Q : Option Value → ab_H → Prop} (hq : ∀ h', sp_CW h' ((qa_miss w.1 a0.toInt a1.toInt, w)).2 → Q (some (.int ((qa_miss w.1 a0.toInt a1.toInt, w)).1)) h') : ab_C 8 yn_Fair_missing 192 [.ref 0, .int a0, .int a1] h Q := by
  have g : ab_C 8 yn_Fair_missing 192 [.ref 0, .int (Int32.ofInt a0.toInt), .int (Int32.ofInt a1.toInt)] h Q := ab_C.up (fc_missing V I.1 (Int32.le_toInt a0) (Int32.toInt_lt a0) (Int32.le_toInt a1) (Int32.toInt_lt a1) (hq h V)) (Nat.le_of_ble_eq_true rfl)
  simp only [Int32.ofInt_toInt] at g
  exact g
theorem fi_mean {w : Wd} {M : Int} {a0 : Int32} (I : lw_I w M) (m0 : 0 ≤ M) (m1 : M ≤ 900000) : lw_I ((qa_mean w.1 a0.toInt, w)).2 (M + 61) := I.up (by omega)
theorem fa_mean {w : Wd} {M : Int} {h : ab_H} {a0 : Int32} (V : sp_CW h w) (I : lw_I w M) (m0 : 0 ≤ M) (m1 : M ≤ 900000) {Q : Option Value → ab_H → Prop} (hq : ∀ h', sp_CW h' ((qa_mean w.1 a0.toInt, w)).2 → Q (some (.int ((qa_mean w.1 a0.toInt, w)).1)) h') : ab_C 8 yn_Fair_mean 192 [.ref 0, .int a0] h Q := by
  have g : ab_C 8 yn_Fair_mean 192 [.ref 0, .int (Int32.ofInt a0.toInt)] h Q := ab_C.up (fc_mean V I.1 (Int32.le_toInt a0) (Int32.toInt_lt a0) (hq h V)) (Nat.le_of_ble_eq_true rfl)
  simp only [Int32.ofInt_toInt] at g
  exact g
theorem fi_count {w : Wd} {M : Int} {a0 : Int32} (I : lw_I w M) (m0 : 0 ≤ M) (m1 : M ≤ 900000) : lw_I ((qa_count w a0.toInt, w)).2 (M + 61) := I.up (by omega)
theorem fa_count {w : Wd} {M : Int} {h : ab_H} {a0 : Int32} (V : sp_CW h w) (I : lw_I w M) (m0 : 0 ≤ M) (m1 : M ≤ 900000) {Q : Option Value → ab_H → Prop} (hq : ∀ h', sp_CW h' ((qa_count w a0.toInt, w)).2 → Q (some (.int ((qa_count w a0.toInt, w)).1)) h') : ab_C 8 yn_Fair_count 192 [.ref 0, .int a0] h Q := by
  have g : ab_C 8 yn_Fair_count 192 [.ref 0, .int (Int32.ofInt a0.toInt)] h Q := ab_C.up (fc_count V I.1 (Int32.le_toInt a0) (Int32.toInt_lt a0) (hq h V)) (Nat.le_of_ble_eq_true rfl)
  simp only [Int32.ofInt_toInt] at g
  exact g
theorem fi_undo {w : Wd} {M : Int} (I : lw_I w M) (m0 : 0 ≤ M) (m1 : M ≤ 900000) : lw_I (wd_undo w).2 (M + 61) := I.undo
theorem fa_undo {w : Wd} {M : Int} {h : ab_H} (V : sp_CW h w) (I : lw_I w M) (m0 : 0 ≤ M) (m1 : M ≤ 900000) {Q : Option Value → ab_H → Prop} (hq : ∀ h', sp_CW h' (wd_undo w).2 → Q (some (.int (wd_undo w).1)) h') : ab_C 8 yn_Fair_undo 192 [.ref 0] h Q := by
  have g : ab_C 8 yn_Fair_undo 192 [.ref 0] h Q := ab_C.up (fc_undo V  (fun h' q1 _ => hq h' q1)) (Nat.le_of_ble_eq_true rfl)
  exact g
theorem fi_type {w : Wd} {M : Int} {a0 : Int32} (I : lw_I w M) (m0 : 0 ≤ M) (m1 : M ≤ 900000) : lw_I (wd_type w a0.toInt).2 (M + 61) := I.type
theorem fa_type {w : Wd} {M : Int} {h : ab_H} {a0 : Int32} (V : sp_CW h w) (I : lw_I w M) (m0 : 0 ≤ M) (m1 : M ≤ 900000) {Q : Option Value → ab_H → Prop} (hq : ∀ h', sp_CW h' (wd_type w a0.toInt).2 → Q (some (.int (wd_type w a0.toInt).1)) h') : ab_C 8 yn_Fair_type 192 [.ref 0, .int a0] h Q := by
  have g : ab_C 8 yn_Fair_type 192 [.ref 0, .int (Int32.ofInt a0.toInt)] h Q := ab_C.up (fc_type V I.2.2 (Int32.le_toInt a0) (Int32.toInt_lt a0) (fun h' q1 _ => hq h' q1)) (Nat.le_of_ble_eq_true rfl)
  simp only [Int32.ofInt_toInt] at g
  exact g
theorem fi_clearText {w : Wd} {M : Int} (I : lw_I w M) (m0 : 0 ≤ M) (m1 : M ≤ 900000) : lw_I ((Int32.ofInt w.2.2.length, (w.1, w.2.1, ([] : List Int)))).2 (M + 61) := I.clear
theorem fa_clearText {w : Wd} {M : Int} {h : ab_H} (V : sp_CW h w) (I : lw_I w M) (m0 : 0 ≤ M) (m1 : M ≤ 900000) {Q : Option Value → ab_H → Prop} (hq : ∀ h', sp_CW h' ((Int32.ofInt w.2.2.length, (w.1, w.2.1, ([] : List Int)))).2 → Q (some (.int ((Int32.ofInt w.2.2.length, (w.1, w.2.1, ([] : List Int)))).1)) h') : ab_C 8 yn_Fair_clearText 192 [.ref 0] h Q := by
  have g : ab_C 8 yn_Fair_clearText 192 [.ref 0] h Q := ab_C.up (fc_clearText V I.2.2  (fun h' q1 _ => hq h' q1)) (Nat.le_of_ble_eq_true rfl)
  exact g
theorem fi_fault {w : Wd} {M : Int} {a0 : Int32} (I : lw_I w M) (m0 : 0 ≤ M) (m1 : M ≤ 900000) : lw_I ((qa_fault w a0.toInt, w)).2 (M + 61) := I.up (by omega)
theorem fa_fault {w : Wd} {M : Int} {h : ab_H} {a0 : Int32} (V : sp_CW h w) (I : lw_I w M) (m0 : 0 ≤ M) (m1 : M ≤ 900000) {Q : Option Value → ab_H → Prop} (hq : ∀ h', sp_CW h' ((qa_fault w a0.toInt, w)).2 → Q (some (.int ((qa_fault w a0.toInt, w)).1)) h') : ab_C 8 yn_Fair_fault 192 [.ref 0, .int a0] h Q := by
  have g : ab_C 8 yn_Fair_fault 192 [.ref 0, .int (Int32.ofInt a0.toInt)] h Q := ab_C.up (fc_fault V I.1 I.2.2 m0 m1 (Int32.le_toInt a0) (Int32.toInt_lt a0) (fun h' q1 _ => hq h' q1)) (Nat.le_of_ble_eq_true rfl)
  simp only [Int32.ofInt_toInt] at g
  exact g
theorem fi_play {w : Wd} {M : Int} (I : lw_I w M) (m0 : 0 ≤ M) (m1 : M ≤ 900000) : lw_I (wd_play w).2 (M + 61) := I.play m0 m1
theorem fa_play {w : Wd} {M : Int} {h : ab_H} (V : sp_CW h w) (I : lw_I w M) (m0 : 0 ≤ M) (m1 : M ≤ 900000) {Q : Option Value → ab_H → Prop} (hq : ∀ h', sp_CW h' (wd_play w).2 → Q (some (.int (wd_play w).1)) h') : ab_C 8 yn_Fair_play 192 [.ref 0] h Q := by
  have g : ab_C 8 yn_Fair_play 192 [.ref 0] h Q := ab_C.up (fc_play V I.1 I.2.2 m0 m1  (fun h' q1 _ => hq h' q1)) (Nat.le_of_ble_eq_true rfl)
  exact g
theorem fcI_24 {y : Nat} {as : List Int32} {w w' : Wd} {r : Int32} {M : Int} (I : lw_I w M) (m0 : 0 ≤ M) (m1 : M ≤ 900000) (e : fcd_24 y as w = some (r, w')) : lw_I w' (M + 61) := by
  unfold fcd_24 at e
  by_cases hy : y = yn_Fair_play
  · rw [if_pos hy] at e
    subst hy
    unfold fx_play at e
    split at e
    · have e2 := Option.some.inj e
      have e3 : _ = r := congrArg Prod.fst e2
      have e4 : _ = w' := congrArg Prod.snd e2
      subst e3 e4
      exact fi_play I m0 m1
    · cases e
  · rw [if_neg hy] at e
    cases e
theorem fcI_23 {y : Nat} {as : List Int32} {w w' : Wd} {r : Int32} {M : Int} (I : lw_I w M) (m0 : 0 ≤ M) (m1 : M ≤ 900000) (e : fcd_23 y as w = some (r, w')) : lw_I w' (M + 61) := by
  unfold fcd_23 at e
  by_cases hy : y = yn_Fair_fault
  · rw [if_pos hy] at e
    subst hy
    unfold fx_fault at e
    split at e
    · have e2 := Option.some.inj e
      have e3 : _ = r := congrArg Prod.fst e2
      have e4 : _ = w' := congrArg Prod.snd e2
      subst e3 e4
      exact fi_fault I m0 m1
    · cases e
  · rw [if_neg hy] at e
    exact fcI_24 I m0 m1 e
theorem fcI_22 {y : Nat} {as : List Int32} {w w' : Wd} {r : Int32} {M : Int} (I : lw_I w M) (m0 : 0 ≤ M) (m1 : M ≤ 900000) (e : fcd_22 y as w = some (r, w')) : lw_I w' (M + 61) := by
  unfold fcd_22 at e
  by_cases hy : y = yn_Fair_clearText
  · rw [if_pos hy] at e
    subst hy
    unfold fx_clearText at e
    split at e
    · have e2 := Option.some.inj e
      have e3 : _ = r := congrArg Prod.fst e2
      have e4 : _ = w' := congrArg Prod.snd e2
      subst e3 e4
      exact fi_clearText I m0 m1
    · cases e
  · rw [if_neg hy] at e
    exact fcI_23 I m0 m1 e
theorem fcI_21 {y : Nat} {as : List Int32} {w w' : Wd} {r : Int32} {M : Int} (I : lw_I w M) (m0 : 0 ≤ M) (m1 : M ≤ 900000) (e : fcd_21 y as w = some (r, w')) : lw_I w' (M + 61) := by
  unfold fcd_21 at e
  by_cases hy : y = yn_Fair_type
  · rw [if_pos hy] at e
    subst hy
    unfold fx_type at e
    split at e
    · have e2 := Option.some.inj e
      have e3 : _ = r := congrArg Prod.fst e2
      have e4 : _ = w' := congrArg Prod.snd e2
      subst e3 e4
      exact fi_type I m0 m1
    · cases e
  · rw [if_neg hy] at e
    exact fcI_22 I m0 m1 e
theorem fcI_20 {y : Nat} {as : List Int32} {w w' : Wd} {r : Int32} {M : Int} (I : lw_I w M) (m0 : 0 ≤ M) (m1 : M ≤ 900000) (e : fcd_20 y as w = some (r, w')) : lw_I w' (M + 61) := by
  unfold fcd_20 at e
  by_cases hy : y = yn_Fair_undo
  · rw [if_pos hy] at e
    subst hy
    unfold fx_undo at e
    split at e
    · have e2 := Option.some.inj e
      have e3 : _ = r := congrArg Prod.fst e2
      have e4 : _ = w' := congrArg Prod.snd e2
      subst e3 e4
      exact fi_undo I m0 m1
    · cases e
  · rw [if_neg hy] at e
    exact fcI_21 I m0 m1 e
theorem fcI_19 {y : Nat} {as : List Int32} {w w' : Wd} {r : Int32} {M : Int} (I : lw_I w M) (m0 : 0 ≤ M) (m1 : M ≤ 900000) (e : fcd_19 y as w = some (r, w')) : lw_I w' (M + 61) := by
  unfold fcd_19 at e
  by_cases hy : y = yn_Fair_count
  · rw [if_pos hy] at e
    subst hy
    unfold fx_count at e
    split at e
    · have e2 := Option.some.inj e
      have e3 : _ = r := congrArg Prod.fst e2
      have e4 : _ = w' := congrArg Prod.snd e2
      subst e3 e4
      exact fi_count I m0 m1
    · cases e
  · rw [if_neg hy] at e
    exact fcI_20 I m0 m1 e
theorem fcI_18 {y : Nat} {as : List Int32} {w w' : Wd} {r : Int32} {M : Int} (I : lw_I w M) (m0 : 0 ≤ M) (m1 : M ≤ 900000) (e : fcd_18 y as w = some (r, w')) : lw_I w' (M + 61) := by
  unfold fcd_18 at e
  by_cases hy : y = yn_Fair_mean
  · rw [if_pos hy] at e
    subst hy
    unfold fx_mean at e
    split at e
    · have e2 := Option.some.inj e
      have e3 : _ = r := congrArg Prod.fst e2
      have e4 : _ = w' := congrArg Prod.snd e2
      subst e3 e4
      exact fi_mean I m0 m1
    · cases e
  · rw [if_neg hy] at e
    exact fcI_19 I m0 m1 e
theorem fcI_17 {y : Nat} {as : List Int32} {w w' : Wd} {r : Int32} {M : Int} (I : lw_I w M) (m0 : 0 ≤ M) (m1 : M ≤ 900000) (e : fcd_17 y as w = some (r, w')) : lw_I w' (M + 61) := by
  unfold fcd_17 at e
  by_cases hy : y = yn_Fair_missing
  · rw [if_pos hy] at e
    subst hy
    unfold fx_missing at e
    split at e
    · have e2 := Option.some.inj e
      have e3 : _ = r := congrArg Prod.fst e2
      have e4 : _ = w' := congrArg Prod.snd e2
      subst e3 e4
      exact fi_missing I m0 m1
    · cases e
  · rw [if_neg hy] at e
    exact fcI_18 I m0 m1 e
theorem fcI_16 {y : Nat} {as : List Int32} {w w' : Wd} {r : Int32} {M : Int} (I : lw_I w M) (m0 : 0 ≤ M) (m1 : M ≤ 900000) (e : fcd_16 y as w = some (r, w')) : lw_I w' (M + 61) := by
  unfold fcd_16 at e
  by_cases hy : y = yn_Fair_best
  · rw [if_pos hy] at e
    subst hy
    unfold fx_best at e
    split at e
    · have e2 := Option.some.inj e
      have e3 : _ = r := congrArg Prod.fst e2
      have e4 : _ = w' := congrArg Prod.snd e2
      subst e3 e4
      exact fi_best I m0 m1
    · cases e
  · rw [if_neg hy] at e
    exact fcI_17 I m0 m1 e
theorem fcI_15 {y : Nat} {as : List Int32} {w w' : Wd} {r : Int32} {M : Int} (I : lw_I w M) (m0 : 0 ≤ M) (m1 : M ≤ 900000) (e : fcd_15 y as w = some (r, w')) : lw_I w' (M + 61) := by
  unfold fcd_15 at e
  by_cases hy : y = yn_Fair_fair
  · rw [if_pos hy] at e
    subst hy
    unfold fx_fair at e
    split at e
    · have e2 := Option.some.inj e
      have e3 : _ = r := congrArg Prod.fst e2
      have e4 : _ = w' := congrArg Prod.snd e2
      subst e3 e4
      exact fi_fair I m0 m1
    · cases e
  · rw [if_neg hy] at e
    exact fcI_16 I m0 m1 e
theorem fcI_14 {y : Nat} {as : List Int32} {w w' : Wd} {r : Int32} {M : Int} (I : lw_I w M) (m0 : 0 ≤ M) (m1 : M ≤ 900000) (e : fcd_14 y as w = some (r, w')) : lw_I w' (M + 61) := by
  unfold fcd_14 at e
  by_cases hy : y = yn_Fair_gain
  · rw [if_pos hy] at e
    subst hy
    unfold fx_gain at e
    split at e
    · have e2 := Option.some.inj e
      have e3 : _ = r := congrArg Prod.fst e2
      have e4 : _ = w' := congrArg Prod.snd e2
      subst e3 e4
      exact fi_gain I m0 m1
    · cases e
  · rw [if_neg hy] at e
    exact fcI_15 I m0 m1 e
theorem fcI_13 {y : Nat} {as : List Int32} {w w' : Wd} {r : Int32} {M : Int} (I : lw_I w M) (m0 : 0 ≤ M) (m1 : M ≤ 900000) (e : fcd_13 y as w = some (r, w')) : lw_I w' (M + 61) := by
  unfold fcd_13 at e
  by_cases hy : y = yn_Fair_nameOf
  · rw [if_pos hy] at e
    subst hy
    unfold fx_nameOf at e
    split at e
    · have e2 := Option.some.inj e
      have e3 : _ = r := congrArg Prod.fst e2
      have e4 : _ = w' := congrArg Prod.snd e2
      subst e3 e4
      exact fi_nameOf I m0 m1
    · cases e
  · rw [if_neg hy] at e
    exact fcI_14 I m0 m1 e
theorem fcI_12 {y : Nat} {as : List Int32} {w w' : Wd} {r : Int32} {M : Int} (I : lw_I w M) (m0 : 0 ≤ M) (m1 : M ≤ 900000) (e : fcd_12 y as w = some (r, w')) : lw_I w' (M + 61) := by
  unfold fcd_12 at e
  by_cases hy : y = yn_Fair_collectorOf
  · rw [if_pos hy] at e
    subst hy
    unfold fx_collectorOf at e
    split at e
    · have e2 := Option.some.inj e
      have e3 : _ = r := congrArg Prod.fst e2
      have e4 : _ = w' := congrArg Prod.snd e2
      subst e3 e4
      exact fi_collectorOf I m0 m1
    · cases e
  · rw [if_neg hy] at e
    exact fcI_13 I m0 m1 e
theorem fcI_11 {y : Nat} {as : List Int32} {w w' : Wd} {r : Int32} {M : Int} (I : lw_I w M) (m0 : 0 ≤ M) (m1 : M ≤ 900000) (e : fcd_11 y as w = some (r, w')) : lw_I w' (M + 61) := by
  unfold fcd_11 at e
  by_cases hy : y = yn_Fair_at
  · rw [if_pos hy] at e
    subst hy
    unfold fx_at at e
    split at e
    · have e2 := Option.some.inj e
      have e3 : _ = r := congrArg Prod.fst e2
      have e4 : _ = w' := congrArg Prod.snd e2
      subst e3 e4
      exact fi_at I m0 m1
    · cases e
  · rw [if_neg hy] at e
    exact fcI_12 I m0 m1 e
theorem fcI_10 {y : Nat} {as : List Int32} {w w' : Wd} {r : Int32} {M : Int} (I : lw_I w M) (m0 : 0 ≤ M) (m1 : M ≤ 900000) (e : fcd_10 y as w = some (r, w')) : lw_I w' (M + 61) := by
  unfold fcd_10 at e
  by_cases hy : y = yn_Fair_leafOf
  · rw [if_pos hy] at e
    subst hy
    unfold fx_leafOf at e
    split at e
    · have e2 := Option.some.inj e
      have e3 : _ = r := congrArg Prod.fst e2
      have e4 : _ = w' := congrArg Prod.snd e2
      subst e3 e4
      exact fi_leafOf I m0 m1
    · cases e
  · rw [if_neg hy] at e
    exact fcI_11 I m0 m1 e
theorem fcI_9 {y : Nat} {as : List Int32} {w w' : Wd} {r : Int32} {M : Int} (I : lw_I w M) (m0 : 0 ≤ M) (m1 : M ≤ 900000) (e : fcd_9 y as w = some (r, w')) : lw_I w' (M + 61) := by
  unfold fcd_9 at e
  by_cases hy : y = yn_Fair_pageOf
  · rw [if_pos hy] at e
    subst hy
    unfold fx_pageOf at e
    split at e
    · have e2 := Option.some.inj e
      have e3 : _ = r := congrArg Prod.fst e2
      have e4 : _ = w' := congrArg Prod.snd e2
      subst e3 e4
      exact fi_pageOf I m0 m1
    · cases e
  · rw [if_neg hy] at e
    exact fcI_10 I m0 m1 e
theorem fcI_8 {y : Nat} {as : List Int32} {w w' : Wd} {r : Int32} {M : Int} (I : lw_I w M) (m0 : 0 ≤ M) (m1 : M ≤ 900000) (e : fcd_8 y as w = some (r, w')) : lw_I w' (M + 61) := by
  unfold fcd_8 at e
  by_cases hy : y = yn_Fair_coins
  · rw [if_pos hy] at e
    subst hy
    unfold fx_coins at e
    split at e
    · have e2 := Option.some.inj e
      have e3 : _ = r := congrArg Prod.fst e2
      have e4 : _ = w' := congrArg Prod.snd e2
      subst e3 e4
      exact fi_coins I m0 m1
    · cases e
  · rw [if_neg hy] at e
    exact fcI_9 I m0 m1 e
theorem fcI_7 {y : Nat} {as : List Int32} {w w' : Wd} {r : Int32} {M : Int} (I : lw_I w M) (m0 : 0 ≤ M) (m1 : M ≤ 900000) (e : fcd_7 y as w = some (r, w')) : lw_I w' (M + 61) := by
  unfold fcd_7 at e
  by_cases hy : y = yn_Fair_tear
  · rw [if_pos hy] at e
    subst hy
    unfold fx_tear at e
    split at e
    · have e2 := Option.some.inj e
      have e3 : _ = r := congrArg Prod.fst e2
      have e4 : _ = w' := congrArg Prod.snd e2
      subst e3 e4
      exact fi_tear I m0 m1
    · cases e
  · rw [if_neg hy] at e
    exact fcI_8 I m0 m1 e
theorem fcI_6 {y : Nat} {as : List Int32} {w w' : Wd} {r : Int32} {M : Int} (I : lw_I w M) (m0 : 0 ≤ M) (m1 : M ≤ 900000) (e : fcd_6 y as w = some (r, w')) : lw_I w' (M + 61) := by
  unfold fcd_6 at e
  by_cases hy : y = yn_Fair_trade
  · rw [if_pos hy] at e
    subst hy
    unfold fx_trade at e
    split at e
    · have e2 := Option.some.inj e
      have e3 : _ = r := congrArg Prod.fst e2
      have e4 : _ = w' := congrArg Prod.snd e2
      subst e3 e4
      exact fi_trade I m0 m1
    · cases e
  · rw [if_neg hy] at e
    exact fcI_7 I m0 m1 e
theorem fcI_5 {y : Nat} {as : List Int32} {w w' : Wd} {r : Int32} {M : Int} (I : lw_I w M) (m0 : 0 ≤ M) (m1 : M ≤ 900000) (e : fcd_5 y as w = some (r, w')) : lw_I w' (M + 61) := by
  unfold fcd_5 at e
  by_cases hy : y = yn_Fair_move
  · rw [if_pos hy] at e
    subst hy
    unfold fx_move at e
    split at e
    · have e2 := Option.some.inj e
      have e3 : _ = r := congrArg Prod.fst e2
      have e4 : _ = w' := congrArg Prod.snd e2
      subst e3 e4
      exact fi_move I m0 m1
    · cases e
  · rw [if_neg hy] at e
    exact fcI_6 I m0 m1 e
theorem fcI_4 {y : Nat} {as : List Int32} {w w' : Wd} {r : Int32} {M : Int} (I : lw_I w M) (m0 : 0 ≤ M) (m1 : M ≤ 900000) (e : fcd_4 y as w = some (r, w')) : lw_I w' (M + 61) := by
  unfold fcd_4 at e
  by_cases hy : y = yn_Fair_dedicate
  · rw [if_pos hy] at e
    subst hy
    unfold fx_dedicate at e
    split at e
    · have e2 := Option.some.inj e
      have e3 : _ = r := congrArg Prod.fst e2
      have e4 : _ = w' := congrArg Prod.snd e2
      subst e3 e4
      exact fi_dedicate I m0 m1
    · cases e
  · rw [if_neg hy] at e
    exact fcI_5 I m0 m1 e
theorem fcI_3 {y : Nat} {as : List Int32} {w w' : Wd} {r : Int32} {M : Int} (I : lw_I w M) (m0 : 0 ≤ M) (m1 : M ≤ 900000) (e : fcd_3 y as w = some (r, w')) : lw_I w' (M + 61) := by
  unfold fcd_3 at e
  by_cases hy : y = yn_Fair_over
  · rw [if_pos hy] at e
    subst hy
    unfold fx_over at e
    split at e
    · have e2 := Option.some.inj e
      have e3 : _ = r := congrArg Prod.fst e2
      have e4 : _ = w' := congrArg Prod.snd e2
      subst e3 e4
      exact fi_over I m0 m1
    · cases e
  · rw [if_neg hy] at e
    exact fcI_4 I m0 m1 e
theorem fcI_2 {y : Nat} {as : List Int32} {w w' : Wd} {r : Int32} {M : Int} (I : lw_I w M) (m0 : 0 ≤ M) (m1 : M ≤ 900000) (e : fcd_2 y as w = some (r, w')) : lw_I w' (M + 61) := by
  unfold fcd_2 at e
  by_cases hy : y = yn_Fair_sign
  · rw [if_pos hy] at e
    subst hy
    unfold fx_sign at e
    split at e
    · have e2 := Option.some.inj e
      have e3 : _ = r := congrArg Prod.fst e2
      have e4 : _ = w' := congrArg Prod.snd e2
      subst e3 e4
      exact fi_sign I m0 m1
    · cases e
  · rw [if_neg hy] at e
    exact fcI_3 I m0 m1 e
theorem fcI_1 {y : Nat} {as : List Int32} {w w' : Wd} {r : Int32} {M : Int} (I : lw_I w M) (m0 : 0 ≤ M) (m1 : M ≤ 900000) (e : fcd_1 y as w = some (r, w')) : lw_I w' (M + 61) := by
  unfold fcd_1 at e
  by_cases hy : y = yn_Fair_leaf
  · rw [if_pos hy] at e
    subst hy
    unfold fx_leaf at e
    split at e
    · have e2 := Option.some.inj e
      have e3 : _ = r := congrArg Prod.fst e2
      have e4 : _ = w' := congrArg Prod.snd e2
      subst e3 e4
      exact fi_leaf I m0 m1
    · cases e
  · rw [if_neg hy] at e
    exact fcI_2 I m0 m1 e
theorem fcI_0 {y : Nat} {as : List Int32} {w w' : Wd} {r : Int32} {M : Int} (I : lw_I w M) (m0 : 0 ≤ M) (m1 : M ≤ 900000) (e : fcd_0 y as w = some (r, w')) : lw_I w' (M + 61) := by
  unfold fcd_0 at e
  by_cases hy : y = yn_Fair_name
  · rw [if_pos hy] at e
    subst hy
    unfold fx_name at e
    split at e
    · have e2 := Option.some.inj e
      have e3 : _ = r := congrArg Prod.fst e2
      have e4 : _ = w' := congrArg Prod.snd e2
      subst e3 e4
      exact fi_name I m0 m1
    · cases e
  · rw [if_neg hy] at e
    exact fcI_1 I m0 m1 e
theorem fc_I {y : Nat} {as : List Int32} {w w' : Wd} {r : Int32} {M : Int} (I : lw_I w M) (m0 : 0 ≤ M) (m1 : M ≤ 900000) (e : fc_do y as w = some (r, w')) : lw_I w' (M + 61) := fcI_0 I m0 m1 e
theorem fcO_24 {y : Nat} {as : List Int32} {w w' : Wd} {r : Int32} {M : Int} {h : ab_H} (V : sp_CW h w) (I : lw_I w M) (m0 : 0 ≤ M) (m1 : M ≤ 900000) (e : fcd_24 y as w = some (r, w')) {Q : Option Value → ab_H → Prop} (hq : ∀ h', sp_CW h' w' → Q (some (.int r)) h') : ab_C 8 y 192 (.ref 0 :: as.map .int) h Q := by
  unfold fcd_24 at e
  by_cases hy : y = yn_Fair_play
  · rw [if_pos hy] at e
    subst hy
    unfold fx_play at e
    split at e
    · have e2 := Option.some.inj e
      have e3 : _ = r := congrArg Prod.fst e2
      have e4 : _ = w' := congrArg Prod.snd e2
      subst e3 e4
      exact fa_play V I m0 m1 hq
    · cases e
  · rw [if_neg hy] at e
    cases e
theorem fcO_23 {y : Nat} {as : List Int32} {w w' : Wd} {r : Int32} {M : Int} {h : ab_H} (V : sp_CW h w) (I : lw_I w M) (m0 : 0 ≤ M) (m1 : M ≤ 900000) (e : fcd_23 y as w = some (r, w')) {Q : Option Value → ab_H → Prop} (hq : ∀ h', sp_CW h' w' → Q (some (.int r)) h') : ab_C 8 y 192 (.ref 0 :: as.map .int) h Q := by
  unfold fcd_23 at e
  by_cases hy : y = yn_Fair_fault
  · rw [if_pos hy] at e
    subst hy
    unfold fx_fault at e
    split at e
    · have e2 := Option.some.inj e
      have e3 : _ = r := congrArg Prod.fst e2
      have e4 : _ = w' := congrArg Prod.snd e2
      subst e3 e4
      exact fa_fault V I m0 m1 hq
    · cases e
  · rw [if_neg hy] at e
    exact fcO_24 V I m0 m1 e hq
theorem fcO_22 {y : Nat} {as : List Int32} {w w' : Wd} {r : Int32} {M : Int} {h : ab_H} (V : sp_CW h w) (I : lw_I w M) (m0 : 0 ≤ M) (m1 : M ≤ 900000) (e : fcd_22 y as w = some (r, w')) {Q : Option Value → ab_H → Prop} (hq : ∀ h', sp_CW h' w' → Q (some (.int r)) h') : ab_C 8 y 192 (.ref 0 :: as.map .int) h Q := by
  unfold fcd_22 at e
  by_cases hy : y = yn_Fair_clearText
  · rw [if_pos hy] at e
    subst hy
    unfold fx_clearText at e
    split at e
    · have e2 := Option.some.inj e
      have e3 : _ = r := congrArg Prod.fst e2
      have e4 : _ = w' := congrArg Prod.snd e2
      subst e3 e4
      exact fa_clearText V I m0 m1 hq
    · cases e
  · rw [if_neg hy] at e
    exact fcO_23 V I m0 m1 e hq
theorem fcO_21 {y : Nat} {as : List Int32} {w w' : Wd} {r : Int32} {M : Int} {h : ab_H} (V : sp_CW h w) (I : lw_I w M) (m0 : 0 ≤ M) (m1 : M ≤ 900000) (e : fcd_21 y as w = some (r, w')) {Q : Option Value → ab_H → Prop} (hq : ∀ h', sp_CW h' w' → Q (some (.int r)) h') : ab_C 8 y 192 (.ref 0 :: as.map .int) h Q := by
  unfold fcd_21 at e
  by_cases hy : y = yn_Fair_type
  · rw [if_pos hy] at e
    subst hy
    unfold fx_type at e
    split at e
    · have e2 := Option.some.inj e
      have e3 : _ = r := congrArg Prod.fst e2
      have e4 : _ = w' := congrArg Prod.snd e2
      subst e3 e4
      exact fa_type V I m0 m1 hq
    · cases e
  · rw [if_neg hy] at e
    exact fcO_22 V I m0 m1 e hq
theorem fcO_20 {y : Nat} {as : List Int32} {w w' : Wd} {r : Int32} {M : Int} {h : ab_H} (V : sp_CW h w) (I : lw_I w M) (m0 : 0 ≤ M) (m1 : M ≤ 900000) (e : fcd_20 y as w = some (r, w')) {Q : Option Value → ab_H → Prop} (hq : ∀ h', sp_CW h' w' → Q (some (.int r)) h') : ab_C 8 y 192 (.ref 0 :: as.map .int) h Q := by
  unfold fcd_20 at e
  by_cases hy : y = yn_Fair_undo
  · rw [if_pos hy] at e
    subst hy
    unfold fx_undo at e
    split at e
    · have e2 := Option.some.inj e
      have e3 : _ = r := congrArg Prod.fst e2
      have e4 : _ = w' := congrArg Prod.snd e2
      subst e3 e4
      exact fa_undo V I m0 m1 hq
    · cases e
  · rw [if_neg hy] at e
    exact fcO_21 V I m0 m1 e hq
theorem fcO_19 {y : Nat} {as : List Int32} {w w' : Wd} {r : Int32} {M : Int} {h : ab_H} (V : sp_CW h w) (I : lw_I w M) (m0 : 0 ≤ M) (m1 : M ≤ 900000) (e : fcd_19 y as w = some (r, w')) {Q : Option Value → ab_H → Prop} (hq : ∀ h', sp_CW h' w' → Q (some (.int r)) h') : ab_C 8 y 192 (.ref 0 :: as.map .int) h Q := by
  unfold fcd_19 at e
  by_cases hy : y = yn_Fair_count
  · rw [if_pos hy] at e
    subst hy
    unfold fx_count at e
    split at e
    · have e2 := Option.some.inj e
      have e3 : _ = r := congrArg Prod.fst e2
      have e4 : _ = w' := congrArg Prod.snd e2
      subst e3 e4
      exact fa_count V I m0 m1 hq
    · cases e
  · rw [if_neg hy] at e
    exact fcO_20 V I m0 m1 e hq
theorem fcO_18 {y : Nat} {as : List Int32} {w w' : Wd} {r : Int32} {M : Int} {h : ab_H} (V : sp_CW h w) (I : lw_I w M) (m0 : 0 ≤ M) (m1 : M ≤ 900000) (e : fcd_18 y as w = some (r, w')) {Q : Option Value → ab_H → Prop} (hq : ∀ h', sp_CW h' w' → Q (some (.int r)) h') : ab_C 8 y 192 (.ref 0 :: as.map .int) h Q := by
  unfold fcd_18 at e
  by_cases hy : y = yn_Fair_mean
  · rw [if_pos hy] at e
    subst hy
    unfold fx_mean at e
    split at e
    · have e2 := Option.some.inj e
      have e3 : _ = r := congrArg Prod.fst e2
      have e4 : _ = w' := congrArg Prod.snd e2
      subst e3 e4
      exact fa_mean V I m0 m1 hq
    · cases e
  · rw [if_neg hy] at e
    exact fcO_19 V I m0 m1 e hq
theorem fcO_17 {y : Nat} {as : List Int32} {w w' : Wd} {r : Int32} {M : Int} {h : ab_H} (V : sp_CW h w) (I : lw_I w M) (m0 : 0 ≤ M) (m1 : M ≤ 900000) (e : fcd_17 y as w = some (r, w')) {Q : Option Value → ab_H → Prop} (hq : ∀ h', sp_CW h' w' → Q (some (.int r)) h') : ab_C 8 y 192 (.ref 0 :: as.map .int) h Q := by
  unfold fcd_17 at e
  by_cases hy : y = yn_Fair_missing
  · rw [if_pos hy] at e
    subst hy
    unfold fx_missing at e
    split at e
    · have e2 := Option.some.inj e
      have e3 : _ = r := congrArg Prod.fst e2
      have e4 : _ = w' := congrArg Prod.snd e2
      subst e3 e4
      exact fa_missing V I m0 m1 hq
    · cases e
  · rw [if_neg hy] at e
    exact fcO_18 V I m0 m1 e hq
theorem fcO_16 {y : Nat} {as : List Int32} {w w' : Wd} {r : Int32} {M : Int} {h : ab_H} (V : sp_CW h w) (I : lw_I w M) (m0 : 0 ≤ M) (m1 : M ≤ 900000) (e : fcd_16 y as w = some (r, w')) {Q : Option Value → ab_H → Prop} (hq : ∀ h', sp_CW h' w' → Q (some (.int r)) h') : ab_C 8 y 192 (.ref 0 :: as.map .int) h Q := by
  unfold fcd_16 at e
  by_cases hy : y = yn_Fair_best
  · rw [if_pos hy] at e
    subst hy
    unfold fx_best at e
    split at e
    · have e2 := Option.some.inj e
      have e3 : _ = r := congrArg Prod.fst e2
      have e4 : _ = w' := congrArg Prod.snd e2
      subst e3 e4
      exact fa_best V I m0 m1 hq
    · cases e
  · rw [if_neg hy] at e
    exact fcO_17 V I m0 m1 e hq
theorem fcO_15 {y : Nat} {as : List Int32} {w w' : Wd} {r : Int32} {M : Int} {h : ab_H} (V : sp_CW h w) (I : lw_I w M) (m0 : 0 ≤ M) (m1 : M ≤ 900000) (e : fcd_15 y as w = some (r, w')) {Q : Option Value → ab_H → Prop} (hq : ∀ h', sp_CW h' w' → Q (some (.int r)) h') : ab_C 8 y 192 (.ref 0 :: as.map .int) h Q := by
  unfold fcd_15 at e
  by_cases hy : y = yn_Fair_fair
  · rw [if_pos hy] at e
    subst hy
    unfold fx_fair at e
    split at e
    · have e2 := Option.some.inj e
      have e3 : _ = r := congrArg Prod.fst e2
      have e4 : _ = w' := congrArg Prod.snd e2
      subst e3 e4
      exact fa_fair V I m0 m1 hq
    · cases e
  · rw [if_neg hy] at e
    exact fcO_16 V I m0 m1 e hq
theorem fcO_14 {y : Nat} {as : List Int32} {w w' : Wd} {r : Int32} {M : Int} {h : ab_H} (V : sp_CW h w) (I : lw_I w M) (m0 : 0 ≤ M) (m1 : M ≤ 900000) (e : fcd_14 y as w = some (r, w')) {Q : Option Value → ab_H → Prop} (hq : ∀ h', sp_CW h' w' → Q (some (.int r)) h') : ab_C 8 y 192 (.ref 0 :: as.map .int) h Q := by
  unfold fcd_14 at e
  by_cases hy : y = yn_Fair_gain
  · rw [if_pos hy] at e
    subst hy
    unfold fx_gain at e
    split at e
    · have e2 := Option.some.inj e
      have e3 : _ = r := congrArg Prod.fst e2
      have e4 : _ = w' := congrArg Prod.snd e2
      subst e3 e4
      exact fa_gain V I m0 m1 hq
    · cases e
  · rw [if_neg hy] at e
    exact fcO_15 V I m0 m1 e hq
theorem fcO_13 {y : Nat} {as : List Int32} {w w' : Wd} {r : Int32} {M : Int} {h : ab_H} (V : sp_CW h w) (I : lw_I w M) (m0 : 0 ≤ M) (m1 : M ≤ 900000) (e : fcd_13 y as w = some (r, w')) {Q : Option Value → ab_H → Prop} (hq : ∀ h', sp_CW h' w' → Q (some (.int r)) h') : ab_C 8 y 192 (.ref 0 :: as.map .int) h Q := by
  unfold fcd_13 at e
  by_cases hy : y = yn_Fair_nameOf
  · rw [if_pos hy] at e
    subst hy
    unfold fx_nameOf at e
    split at e
    · have e2 := Option.some.inj e
      have e3 : _ = r := congrArg Prod.fst e2
      have e4 : _ = w' := congrArg Prod.snd e2
      subst e3 e4
      exact fa_nameOf V I m0 m1 hq
    · cases e
  · rw [if_neg hy] at e
    exact fcO_14 V I m0 m1 e hq
theorem fcO_12 {y : Nat} {as : List Int32} {w w' : Wd} {r : Int32} {M : Int} {h : ab_H} (V : sp_CW h w) (I : lw_I w M) (m0 : 0 ≤ M) (m1 : M ≤ 900000) (e : fcd_12 y as w = some (r, w')) {Q : Option Value → ab_H → Prop} (hq : ∀ h', sp_CW h' w' → Q (some (.int r)) h') : ab_C 8 y 192 (.ref 0 :: as.map .int) h Q := by
  unfold fcd_12 at e
  by_cases hy : y = yn_Fair_collectorOf
  · rw [if_pos hy] at e
    subst hy
    unfold fx_collectorOf at e
    split at e
    · have e2 := Option.some.inj e
      have e3 : _ = r := congrArg Prod.fst e2
      have e4 : _ = w' := congrArg Prod.snd e2
      subst e3 e4
      exact fa_collectorOf V I m0 m1 hq
    · cases e
  · rw [if_neg hy] at e
    exact fcO_13 V I m0 m1 e hq
theorem fcO_11 {y : Nat} {as : List Int32} {w w' : Wd} {r : Int32} {M : Int} {h : ab_H} (V : sp_CW h w) (I : lw_I w M) (m0 : 0 ≤ M) (m1 : M ≤ 900000) (e : fcd_11 y as w = some (r, w')) {Q : Option Value → ab_H → Prop} (hq : ∀ h', sp_CW h' w' → Q (some (.int r)) h') : ab_C 8 y 192 (.ref 0 :: as.map .int) h Q := by
  unfold fcd_11 at e
  by_cases hy : y = yn_Fair_at
  · rw [if_pos hy] at e
    subst hy
    unfold fx_at at e
    split at e
    · have e2 := Option.some.inj e
      have e3 : _ = r := congrArg Prod.fst e2
      have e4 : _ = w' := congrArg Prod.snd e2
      subst e3 e4
      exact fa_at V I m0 m1 hq
    · cases e
  · rw [if_neg hy] at e
    exact fcO_12 V I m0 m1 e hq
theorem fcO_10 {y : Nat} {as : List Int32} {w w' : Wd} {r : Int32} {M : Int} {h : ab_H} (V : sp_CW h w) (I : lw_I w M) (m0 : 0 ≤ M) (m1 : M ≤ 900000) (e : fcd_10 y as w = some (r, w')) {Q : Option Value → ab_H → Prop} (hq : ∀ h', sp_CW h' w' → Q (some (.int r)) h') : ab_C 8 y 192 (.ref 0 :: as.map .int) h Q := by
  unfold fcd_10 at e
  by_cases hy : y = yn_Fair_leafOf
  · rw [if_pos hy] at e
    subst hy
    unfold fx_leafOf at e
    split at e
    · have e2 := Option.some.inj e
      have e3 : _ = r := congrArg Prod.fst e2
      have e4 : _ = w' := congrArg Prod.snd e2
      subst e3 e4
      exact fa_leafOf V I m0 m1 hq
    · cases e
  · rw [if_neg hy] at e
    exact fcO_11 V I m0 m1 e hq
theorem fcO_9 {y : Nat} {as : List Int32} {w w' : Wd} {r : Int32} {M : Int} {h : ab_H} (V : sp_CW h w) (I : lw_I w M) (m0 : 0 ≤ M) (m1 : M ≤ 900000) (e : fcd_9 y as w = some (r, w')) {Q : Option Value → ab_H → Prop} (hq : ∀ h', sp_CW h' w' → Q (some (.int r)) h') : ab_C 8 y 192 (.ref 0 :: as.map .int) h Q := by
  unfold fcd_9 at e
  by_cases hy : y = yn_Fair_pageOf
  · rw [if_pos hy] at e
    subst hy
    unfold fx_pageOf at e
    split at e
    · have e2 := Option.some.inj e
      have e3 : _ = r := congrArg Prod.fst e2
      have e4 : _ = w' := congrArg Prod.snd e2
      subst e3 e4
      exact fa_pageOf V I m0 m1 hq
    · cases e
  · rw [if_neg hy] at e
    exact fcO_10 V I m0 m1 e hq
theorem fcO_8 {y : Nat} {as : List Int32} {w w' : Wd} {r : Int32} {M : Int} {h : ab_H} (V : sp_CW h w) (I : lw_I w M) (m0 : 0 ≤ M) (m1 : M ≤ 900000) (e : fcd_8 y as w = some (r, w')) {Q : Option Value → ab_H → Prop} (hq : ∀ h', sp_CW h' w' → Q (some (.int r)) h') : ab_C 8 y 192 (.ref 0 :: as.map .int) h Q := by
  unfold fcd_8 at e
  by_cases hy : y = yn_Fair_coins
  · rw [if_pos hy] at e
    subst hy
    unfold fx_coins at e
    split at e
    · have e2 := Option.some.inj e
      have e3 : _ = r := congrArg Prod.fst e2
      have e4 : _ = w' := congrArg Prod.snd e2
      subst e3 e4
      exact fa_coins V I m0 m1 hq
    · cases e
  · rw [if_neg hy] at e
    exact fcO_9 V I m0 m1 e hq
theorem fcO_7 {y : Nat} {as : List Int32} {w w' : Wd} {r : Int32} {M : Int} {h : ab_H} (V : sp_CW h w) (I : lw_I w M) (m0 : 0 ≤ M) (m1 : M ≤ 900000) (e : fcd_7 y as w = some (r, w')) {Q : Option Value → ab_H → Prop} (hq : ∀ h', sp_CW h' w' → Q (some (.int r)) h') : ab_C 8 y 192 (.ref 0 :: as.map .int) h Q := by
  unfold fcd_7 at e
  by_cases hy : y = yn_Fair_tear
  · rw [if_pos hy] at e
    subst hy
    unfold fx_tear at e
    split at e
    · have e2 := Option.some.inj e
      have e3 : _ = r := congrArg Prod.fst e2
      have e4 : _ = w' := congrArg Prod.snd e2
      subst e3 e4
      exact fa_tear V I m0 m1 hq
    · cases e
  · rw [if_neg hy] at e
    exact fcO_8 V I m0 m1 e hq
theorem fcO_6 {y : Nat} {as : List Int32} {w w' : Wd} {r : Int32} {M : Int} {h : ab_H} (V : sp_CW h w) (I : lw_I w M) (m0 : 0 ≤ M) (m1 : M ≤ 900000) (e : fcd_6 y as w = some (r, w')) {Q : Option Value → ab_H → Prop} (hq : ∀ h', sp_CW h' w' → Q (some (.int r)) h') : ab_C 8 y 192 (.ref 0 :: as.map .int) h Q := by
  unfold fcd_6 at e
  by_cases hy : y = yn_Fair_trade
  · rw [if_pos hy] at e
    subst hy
    unfold fx_trade at e
    split at e
    · have e2 := Option.some.inj e
      have e3 : _ = r := congrArg Prod.fst e2
      have e4 : _ = w' := congrArg Prod.snd e2
      subst e3 e4
      exact fa_trade V I m0 m1 hq
    · cases e
  · rw [if_neg hy] at e
    exact fcO_7 V I m0 m1 e hq
theorem fcO_5 {y : Nat} {as : List Int32} {w w' : Wd} {r : Int32} {M : Int} {h : ab_H} (V : sp_CW h w) (I : lw_I w M) (m0 : 0 ≤ M) (m1 : M ≤ 900000) (e : fcd_5 y as w = some (r, w')) {Q : Option Value → ab_H → Prop} (hq : ∀ h', sp_CW h' w' → Q (some (.int r)) h') : ab_C 8 y 192 (.ref 0 :: as.map .int) h Q := by
  unfold fcd_5 at e
  by_cases hy : y = yn_Fair_move
  · rw [if_pos hy] at e
    subst hy
    unfold fx_move at e
    split at e
    · have e2 := Option.some.inj e
      have e3 : _ = r := congrArg Prod.fst e2
      have e4 : _ = w' := congrArg Prod.snd e2
      subst e3 e4
      exact fa_move V I m0 m1 hq
    · cases e
  · rw [if_neg hy] at e
    exact fcO_6 V I m0 m1 e hq
theorem fcO_4 {y : Nat} {as : List Int32} {w w' : Wd} {r : Int32} {M : Int} {h : ab_H} (V : sp_CW h w) (I : lw_I w M) (m0 : 0 ≤ M) (m1 : M ≤ 900000) (e : fcd_4 y as w = some (r, w')) {Q : Option Value → ab_H → Prop} (hq : ∀ h', sp_CW h' w' → Q (some (.int r)) h') : ab_C 8 y 192 (.ref 0 :: as.map .int) h Q := by
  unfold fcd_4 at e
  by_cases hy : y = yn_Fair_dedicate
  · rw [if_pos hy] at e
    subst hy
    unfold fx_dedicate at e
    split at e
    · have e2 := Option.some.inj e
      have e3 : _ = r := congrArg Prod.fst e2
      have e4 : _ = w' := congrArg Prod.snd e2
      subst e3 e4
      exact fa_dedicate V I m0 m1 hq
    · cases e
  · rw [if_neg hy] at e
    exact fcO_5 V I m0 m1 e hq
theorem fcO_3 {y : Nat} {as : List Int32} {w w' : Wd} {r : Int32} {M : Int} {h : ab_H} (V : sp_CW h w) (I : lw_I w M) (m0 : 0 ≤ M) (m1 : M ≤ 900000) (e : fcd_3 y as w = some (r, w')) {Q : Option Value → ab_H → Prop} (hq : ∀ h', sp_CW h' w' → Q (some (.int r)) h') : ab_C 8 y 192 (.ref 0 :: as.map .int) h Q := by
  unfold fcd_3 at e
  by_cases hy : y = yn_Fair_over
  · rw [if_pos hy] at e
    subst hy
    unfold fx_over at e
    split at e
    · have e2 := Option.some.inj e
      have e3 : _ = r := congrArg Prod.fst e2
      have e4 : _ = w' := congrArg Prod.snd e2
      subst e3 e4
      exact fa_over V I m0 m1 hq
    · cases e
  · rw [if_neg hy] at e
    exact fcO_4 V I m0 m1 e hq
theorem fcO_2 {y : Nat} {as : List Int32} {w w' : Wd} {r : Int32} {M : Int} {h : ab_H} (V : sp_CW h w) (I : lw_I w M) (m0 : 0 ≤ M) (m1 : M ≤ 900000) (e : fcd_2 y as w = some (r, w')) {Q : Option Value → ab_H → Prop} (hq : ∀ h', sp_CW h' w' → Q (some (.int r)) h') : ab_C 8 y 192 (.ref 0 :: as.map .int) h Q := by
  unfold fcd_2 at e
  by_cases hy : y = yn_Fair_sign
  · rw [if_pos hy] at e
    subst hy
    unfold fx_sign at e
    split at e
    · have e2 := Option.some.inj e
      have e3 : _ = r := congrArg Prod.fst e2
      have e4 : _ = w' := congrArg Prod.snd e2
      subst e3 e4
      exact fa_sign V I m0 m1 hq
    · cases e
  · rw [if_neg hy] at e
    exact fcO_3 V I m0 m1 e hq
theorem fcO_1 {y : Nat} {as : List Int32} {w w' : Wd} {r : Int32} {M : Int} {h : ab_H} (V : sp_CW h w) (I : lw_I w M) (m0 : 0 ≤ M) (m1 : M ≤ 900000) (e : fcd_1 y as w = some (r, w')) {Q : Option Value → ab_H → Prop} (hq : ∀ h', sp_CW h' w' → Q (some (.int r)) h') : ab_C 8 y 192 (.ref 0 :: as.map .int) h Q := by
  unfold fcd_1 at e
  by_cases hy : y = yn_Fair_leaf
  · rw [if_pos hy] at e
    subst hy
    unfold fx_leaf at e
    split at e
    · have e2 := Option.some.inj e
      have e3 : _ = r := congrArg Prod.fst e2
      have e4 : _ = w' := congrArg Prod.snd e2
      subst e3 e4
      exact fa_leaf V I m0 m1 hq
    · cases e
  · rw [if_neg hy] at e
    exact fcO_2 V I m0 m1 e hq
theorem fcO_0 {y : Nat} {as : List Int32} {w w' : Wd} {r : Int32} {M : Int} {h : ab_H} (V : sp_CW h w) (I : lw_I w M) (m0 : 0 ≤ M) (m1 : M ≤ 900000) (e : fcd_0 y as w = some (r, w')) {Q : Option Value → ab_H → Prop} (hq : ∀ h', sp_CW h' w' → Q (some (.int r)) h') : ab_C 8 y 192 (.ref 0 :: as.map .int) h Q := by
  unfold fcd_0 at e
  by_cases hy : y = yn_Fair_name
  · rw [if_pos hy] at e
    subst hy
    unfold fx_name at e
    split at e
    · have e2 := Option.some.inj e
      have e3 : _ = r := congrArg Prod.fst e2
      have e4 : _ = w' := congrArg Prod.snd e2
      subst e3 e4
      exact fa_name V I m0 m1 hq
    · cases e
  · rw [if_neg hy] at e
    exact fcO_1 V I m0 m1 e hq
theorem fc_ok {y : Nat} {as : List Int32} {w w' : Wd} {r : Int32} {M : Int} {h : ab_H} (V : sp_CW h w) (I : lw_I w M) (m0 : 0 ≤ M) (m1 : M ≤ 900000) (e : fc_do y as w = some (r, w')) {Q : Option Value → ab_H → Prop} (hq : ∀ h', sp_CW h' w' → Q (some (.int r)) h') : ab_C 8 y 192 (.ref 0 :: as.map .int) h Q := fcO_0 V I m0 m1 e hq
