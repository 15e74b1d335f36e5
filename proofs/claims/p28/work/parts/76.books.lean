/-! ===== the law's books and isFault, by evaluation (printed by wip/p28/mk76.py) ===== -/
theorem mc_i : ab_mc yn_Fair_init = 191 ∧ ab_ms yn_Fair_init = 3955 ∧ ab_nf 7 = 6 := by decide +kernel
/-- an object is made: its world is there -/
theorem nw_ok {d : Nat} {J : Nat → ab_K} {Q : Option Value → ab_H → Prop} {os : List ab_O} {i1 l1 l2 i3 l3 ne p1 p2 p3 p4 : Nat} {dt1 dt2 : List Nat} {v1 v2 v3 : Int} {ls : List (Option Value)} {h : ab_H} (hd : 8 ≤ d)
    (hq : ∀ h', sp_CW h' (s_0, [], []) → ab_wp d J Q os 192 0 0 ls [.ref 0] h') : ab_wp d J Q ((.new i1, l1, (7 :: dt1), v1) :: (.dup, l2, dt2, v2) :: (.invokespecial i3, l3, [yn_Fair_init, 1, 2, ne, p1, p2, p3, p4], v3) :: os) 0 192 3961 ls [] h := by
  obtain ⟨m1, m2, m3⟩ := mc_i
  show ab_sh 0 = 7 ∧ 1 ≤ 192 ∧ ab_nf 7 ≤ 3961 ∧ (1 ≤ d ∧ ab_st1 [.ref 0] = true ∧ True ∧ ab_mc yn_Fair_init ≤ 192 - 1 ∧ ab_ms yn_Fair_init ≤ 3961 - ab_nf 7 ∧ ab_C (d - 1) yn_Fair_init (0 + 1) [.ref 0] (ab_hn h 0) (fun rv h' => ab_wp d J Q os (0 + 1 + ab_mc yn_Fair_init) (192 - 1 - ab_mc yn_Fair_init) (3961 - ab_nf 7 - ab_ms yn_Fair_init) ls (rv.toList ++ [.ref 0]) h'))
  rw [m1, m2, m3]
  refine ⟨hh_0, by omega, by omega, by omega, rfl, trivial, by omega, by omega, ?_⟩
  exact ab_C.up (sp_Fair_init (fun h' q => hq h' (sp_born q))) (show 4 ≤ d - 1 by omega)
theorem lx_use {f g c : Nat} {bt : List (Nat × List ab_O)} {os : List ab_O} {ls : List (Option Value)} {d k F : Nat} {h : ab_H} {Q : Option Value → ab_H → Prop} (e : (lx f g bt os ls [] (s_0, [], []) c).map (fun q => q.1) = some 1) (hc : 61 * (c : Int) ≤ 900000) (hd : 9 + g ≤ d) (hF : f ≤ F) (V : sp_CW h (s_0, [], [])) (hq : ∀ h', Q (some (.int 1)) h') : ab_wp d (ab_rn d k bt [] Q F) Q os 192 0 0 ls [] h := by
  cases hr : lx f g bt os ls [] (s_0, [], []) c with
  | none => rw [hr] at e; cases e
  | some q =>
    obtain ⟨z, q'⟩ := q
    rw [hr] at e
    obtain rfl : z = 1 := Option.some.inj e
    have I0 : lw_I (s_0, [], []) 0 := ⟨s_0_inv, fun t ht => absurd ht List.not_mem_nil, Nat.zero_le _, fun x hx => absurd hx List.not_mem_nil⟩
    exact (lx_ok f g bt os ls [] (s_0, [], []) c 1 q' hr I0 (Int.le_refl _) (by omega)).2 d k F h Q hd hF V (fun h' _ => hq h')
set_option maxRecDepth 100000 in
theorem books_lx : (lx 3000 1 bt_Law_books (bk_Law_books_0.drop 4) [some (.ref 0), none] [] (s_0, [], []) 14000).map (fun q => q.1) = some 1 := by decide +kernel
theorem mc_b : ab_mc yn_Law_books = 192 ∧ ab_ms yn_Law_books = 3961 ∧ ab_mc yn_Law_isFault = 192 ∧ ab_ms yn_Law_isFault = 3961 := by decide +kernel
theorem books_hd : ab_bl bt_Law_books 0 = (.new 14, 3, [7,19,20,9], 0) :: (.dup, 1, [], 0) :: (.invokespecial 98, 3, [91,1,2,0,21,22,0,9], 0) :: (.astore_n 0, 1, [0], 0) :: bk_Law_books_0.drop 4 := rfl
set_option maxRecDepth 100000 in
theorem sp_Law_books {h : ab_H} {Q : Option Value → ab_H → Prop} (hq : ∀ h', Q (some (.int 1)) h') : ab_C 10 yn_Law_books 0 [] h Q := by
  refine ab_of ⟨Nat.le_of_ble_eq_true rfl, Nat.le_of_ble_eq_true rfl⟩ (by simp) (Nat.le_of_ble_eq_true rfl) ?_
  rw [mc_b.1, mc_b.2.1]
  show ab_W 10 yn_Law_books 0 0 192 3961 [none, none] [] h Q
  refine ab_go [] 3000 bo_Law_books ?_
  rw [books_hd]
  refine nw_ok (by omega) (fun h' V => ?_)
  rw [ev_astore_0]
  exact lx_use (ls := [some (.ref 0), none]) books_lx (by decide) (by omega) (Nat.le_refl _) V hq
theorem if_Lv {a b : Int64} {x y z : Int32} (base : Nat) (lsr : Array Slot) (h : lv_has lsr (ab_ml yn_Law_isFault) (lv_args 0 ([.long a, .long b, .int x, .int y, .int z].map (ab_em base)))) : ab_Lv base (ab_lo yn_Law_isFault) lsr (ab_ml yn_Law_isFault) [some (.long a), none, some (.long b), none, some (.int x), some (.int y), some (.int z), none] := by
  refine ⟨h.1, h.2.1, fun i v hi => ?_⟩
  match i, hi with
  | 0, hi => cases hi; exact ⟨Or.inr (by decide), h.2.2 (0, _) List.mem_cons_self⟩
  | 1, hi => cases hi
  | 2, hi => cases hi; exact ⟨Or.inr (by decide), h.2.2 (2, _) (List.mem_cons_of_mem _ List.mem_cons_self)⟩
  | 3, hi => cases hi
  | 4, hi => cases hi; exact ⟨Or.inl rfl, h.2.2 (4, _) (List.mem_cons_of_mem _ (List.mem_cons_of_mem _ List.mem_cons_self))⟩
  | 5, hi => cases hi; exact ⟨Or.inl rfl, h.2.2 (5, _) (List.mem_cons_of_mem _ (List.mem_cons_of_mem _ (List.mem_cons_of_mem _ List.mem_cons_self)))⟩
  | 6, hi => cases hi; exact ⟨Or.inl rfl, h.2.2 (6, _) (List.mem_cons_of_mem _ (List.mem_cons_of_mem _ (List.mem_cons_of_mem _ (List.mem_cons_of_mem _ List.mem_cons_self))))⟩
  | 7, hi => cases hi
  | i + 8, hi => simp [ab_lg] at hi
theorem if_slen {a b : Int64} {x y z : Int32} : ∀ base, (lg_sl ([.long a, .long b, .int x, .int y, .int z].map (ab_em base))).length ≤ ab_ml yn_Law_isFault := fun _ => Nat.le_of_ble_eq_true rfl
def if_lx (a b : Int64) (x y z : Int32) : Prop := (lx 3000 1 bt_Law_isFault (bk_Law_isFault_0.drop 4) [some (.long a), none, some (.long b), none, some (.int x), some (.int y), some (.int z), some (.ref 0)] [] (s_0, [], []) 14000).map (fun q => q.1) = some 1
theorem isFault_hd : ab_bl bt_Law_isFault 0 = (.new 14, 3, [7,19,20,9], 0) :: (.dup, 1, [], 0) :: (.invokespecial 98, 3, [91,1,2,0,21,22,0,9], 0) :: (.astore 7, 2, [7], 0) :: bk_Law_isFault_0.drop 4 := rfl
set_option maxRecDepth 100000 in
theorem sp_Law_isFault {a b : Int64} {x y z : Int32} (e : if_lx a b x y z) {h : ab_H} {Q : Option Value → ab_H → Prop} (hq : ∀ h', Q (some (.int 1)) h') : ab_C 10 yn_Law_isFault 0 [.long a, .long b, .int x, .int y, .int z] h Q := by
  refine ab_ofL ⟨Nat.le_of_ble_eq_true rfl, Nat.le_of_ble_eq_true rfl⟩ if_slen if_Lv ?_
  rw [mc_b.2.2.1, mc_b.2.2.2]
  refine ab_go [] 3000 bo_Law_isFault ?_
  rw [isFault_hd]
  refine nw_ok (by omega) (fun h' V => ?_)
  rw [ev_astore_7]
  exact lx_use (ls := [some (.long a), none, some (.long b), none, some (.int x), some (.int y), some (.int z), some (.ref 0)]) e (by decide) (by omega) (Nat.le_refl _) V hq
set_option maxRecDepth 100000 in
theorem if_0 : if_lx (Int64.ofInt 30779) (Int64.ofInt 0) (Int32.ofInt 0) (Int32.ofInt 1) (Int32.ofInt 0) := by unfold if_lx; decide +kernel
set_option maxRecDepth 100000 in
theorem if_1 : if_lx (Int64.ofInt 108) (Int64.ofInt 0) (Int32.ofInt 0) (Int32.ofInt 1) (Int32.ofInt 1) := by unfold if_lx; decide +kernel
set_option maxRecDepth 100000 in
theorem if_2 : if_lx (Int64.ofInt 27696) (Int64.ofInt 0) (Int32.ofInt 0) (Int32.ofInt 1) (Int32.ofInt 2) := by unfold if_lx; decide +kernel
set_option maxRecDepth 100000 in
theorem if_3 : if_lx (Int64.ofInt 1815100268) (Int64.ofInt 0) (Int32.ofInt 3) (Int32.ofInt 1) (Int32.ofInt 1) := by unfold if_lx; decide +kernel
set_option maxRecDepth 100000 in
theorem if_4 : if_lx (Int64.ofInt 464664932411) (Int64.ofInt 0) (Int32.ofInt 0) (Int32.ofInt 1) (Int32.ofInt 3) := by unfold if_lx; decide +kernel
set_option maxRecDepth 100000 in
theorem if_5 : if_lx (Int64.ofInt 7091259) (Int64.ofInt 0) (Int32.ofInt 0) (Int32.ofInt 2) (Int32.ofInt (-1000001)) := by unfold if_lx; decide +kernel
set_option maxRecDepth 100000 in
theorem if_6 : if_lx (Int64.ofInt 32422588666622011) (Int64.ofInt 0) (Int32.ofInt 0) (Int32.ofInt 2) (Int32.ofInt (-1000001)) := by unfold if_lx; decide +kernel
set_option maxRecDepth 100000 in
theorem if_7 : if_lx (Int64.ofInt 7795796320893808684) (Int64.ofInt 12347) (Int32.ofInt 3) (Int32.ofInt 2) (Int32.ofInt (-1000001)) := by unfold if_lx; decide +kernel
set_option maxRecDepth 100000 in
theorem if_8 : if_lx (Int64.ofInt 464665669424) (Int64.ofInt 0) (Int32.ofInt 3) (Int32.ofInt 1) (Int32.ofInt 2) := by unfold if_lx; decide +kernel
set_option maxRecDepth 100000 in
theorem if_9 : if_lx (Int64.ofInt 7795796325188775995) (Int64.ofInt 0) (Int32.ofInt 3) (Int32.ofInt 2) (Int32.ofInt (-1000002)) := by unfold if_lx; decide +kernel
set_option maxRecDepth 100000 in
theorem if_10 : if_lx (Int64.ofInt 32) (Int64.ofInt 0) (Int32.ofInt 0) (Int32.ofInt 1) (Int32.ofInt 0) := by unfold if_lx; decide +kernel
set_option maxRecDepth 100000 in
theorem if_11 : if_lx (Int64.ofInt 430304931899) (Int64.ofInt 0) (Int32.ofInt 0) (Int32.ofInt 1) (Int32.ofInt 4) := by unfold if_lx; decide +kernel
set_option maxRecDepth 100000 in
theorem if_12 : if_lx (Int64.ofInt 7796077765806748721) (Int64.ofInt 2896443) (Int32.ofInt 6) (Int32.ofInt 2) (Int32.ofInt (-1000001)) := by unfold if_lx; decide +kernel
set_option maxRecDepth 100000 in
theorem if_13 : if_lx (Int64.ofInt 1815100219) (Int64.ofInt 0) (Int32.ofInt 3) (Int32.ofInt 1) (Int32.ofInt 0) := by unfold if_lx; decide +kernel
set_option maxRecDepth 100000 in
theorem texts_lx : (lx 3000 1 bt_Law_texts (bk_Law_texts_196.drop 4) [some (.ref 0), none] [] (s_0, [], []) 14000).map (fun q => q.1) = some 1 := by decide +kernel
theorem texts_hd : ab_bl bt_Law_texts 196 = (.new 14, 3, [7,19,20,9], 0) :: (.dup, 1, [], 0) :: (.invokespecial 98, 3, [91,1,2,0,21,22,0,9], 0) :: (.astore_n 0, 1, [0], 0) :: bk_Law_texts_196.drop 4 := rfl
set_option maxRecDepth 100000 in
theorem sp_texts_tail {h : ab_H} {Q : Option Value → ab_H → Prop} (hq : ∀ h', Q (some (.int 1)) h') : ab_W 10 yn_Law_texts 196 0 192 3961 [none, none] [] h Q := by
  refine ab_go [] 3000 bo_Law_texts ?_
  rw [texts_hd]
  refine nw_ok (by omega) (fun h' V => ?_)
  rw [ev_astore_0]
  exact lx_use (ls := [some (.ref 0), none]) texts_lx (by decide) (by omega) (Nat.le_refl _) V hq
