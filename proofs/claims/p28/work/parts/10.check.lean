/-! ===== the blocks are the bytecode ===== -/
set_option maxRecDepth 100000 in
theorem bo_Integer_bitCount : bt_Integer_bitCount.all (fun q => ab_chk 2 q.1 q.2) = true := by decide +kernel
set_option maxRecDepth 100000 in
theorem bo_Names_init : bt_Names_init.all (fun q => ab_chk 3 q.1 q.2) = true := by decide +kernel
set_option maxRecDepth 100000 in
theorem bo_Names_has : bt_Names_has.all (fun q => ab_chk 4 q.1 q.2) = true := by decide +kernel
set_option maxRecDepth 100000 in
theorem bo_Names_fameOf : bt_Names_fameOf.all (fun q => ab_chk 5 q.1 q.2) = true := by decide +kernel
set_option maxRecDepth 100000 in
theorem bo_Names_themeOf : bt_Names_themeOf.all (fun q => ab_chk 6 q.1 q.2) = true := by decide +kernel
set_option maxRecDepth 100000 in
theorem bo_Names_setOf : bt_Names_setOf.all (fun q => ab_chk 7 q.1 q.2) = true := by decide +kernel
set_option maxRecDepth 100000 in
theorem bo_Names_add : bt_Names_add.all (fun q => ab_chk 8 q.1 q.2) = true := by decide +kernel
set_option maxRecDepth 100000 in
theorem bo_Names_copyFrom : bt_Names_copyFrom.all (fun q => ab_chk 9 q.1 q.2) = true := by decide +kernel
set_option maxRecDepth 100000 in
theorem bo_Book_init : bt_Book_init.all (fun q => ab_chk 10 q.1 q.2) = true := by decide +kernel
set_option maxRecDepth 100000 in
theorem bo_Book_numberAt : bt_Book_numberAt.all (fun q => ab_chk 11 q.1 q.2) = true := by decide +kernel
set_option maxRecDepth 100000 in
theorem bo_Book_kindOf : bt_Book_kindOf.all (fun q => ab_chk 12 q.1 q.2) = true := by decide +kernel
set_option maxRecDepth 100000 in
theorem bo_Book_nameOn : bt_Book_nameOn.all (fun q => ab_chk 13 q.1 q.2) = true := by decide +kernel
set_option maxRecDepth 100000 in
theorem bo_Book_friendOn : bt_Book_friendOn.all (fun q => ab_chk 14 q.1 q.2) = true := by decide +kernel
set_option maxRecDepth 100000 in
theorem bo_Book_find : bt_Book_find.all (fun q => ab_chk 15 q.1 q.2) = true := by decide +kernel
set_option maxRecDepth 100000 in
theorem bo_Book_startsEntry : bt_Book_startsEntry.all (fun q => ab_chk 16 q.1 q.2) = true := by decide +kernel
set_option maxRecDepth 100000 in
theorem bo_Book_countEntries : bt_Book_countEntries.all (fun q => ab_chk 17 q.1 q.2) = true := by decide +kernel
set_option maxRecDepth 100000 in
theorem bo_Book_countEntriesOf : bt_Book_countEntriesOf.all (fun q => ab_chk 18 q.1 q.2) = true := by decide +kernel
set_option maxRecDepth 100000 in
theorem bo_Book_countDedicatedTo : bt_Book_countDedicatedTo.all (fun q => ab_chk 19 q.1 q.2) = true := by decide +kernel
set_option maxRecDepth 100000 in
theorem bo_Book_countDedicated : bt_Book_countDedicated.all (fun q => ab_chk 20 q.1 q.2) = true := by decide +kernel
set_option maxRecDepth 100000 in
theorem bo_Book_nameSet : bt_Book_nameSet.all (fun q => ab_chk 21 q.1 q.2) = true := by decide +kernel
set_option maxRecDepth 100000 in
theorem bo_Book_namesAhead : bt_Book_namesAhead.all (fun q => ab_chk 22 q.1 q.2) = true := by decide +kernel
set_option maxRecDepth 100000 in
theorem bo_Book_valueOn : bt_Book_valueOn.all (fun q => ab_chk 23 q.1 q.2) = true := by decide +kernel
set_option maxRecDepth 100000 in
theorem bo_Book_valueBehind : bt_Book_valueBehind.all (fun q => ab_chk 24 q.1 q.2) = true := by decide +kernel
set_option maxRecDepth 100000 in
theorem bo_Book_sumOfValues : bt_Book_sumOfValues.all (fun q => ab_chk 25 q.1 q.2) = true := by decide +kernel
set_option maxRecDepth 100000 in
theorem bo_Book_wholeThemes : bt_Book_wholeThemes.all (fun q => ab_chk 26 q.1 q.2) = true := by decide +kernel
set_option maxRecDepth 100000 in
theorem bo_Book_worth : bt_Book_worth.all (fun q => ab_chk 27 q.1 q.2) = true := by decide +kernel
set_option maxRecDepth 100000 in
theorem bo_Book_isJoined : bt_Book_isJoined.all (fun q => ab_chk 28 q.1 q.2) = true := by decide +kernel
set_option maxRecDepth 100000 in
theorem bo_Book_startsBundle : bt_Book_startsBundle.all (fun q => ab_chk 29 q.1 q.2) = true := by decide +kernel
set_option maxRecDepth 100000 in
theorem bo_Book_bundleFirst : bt_Book_bundleFirst.all (fun q => ab_chk 30 q.1 q.2) = true := by decide +kernel
set_option maxRecDepth 100000 in
theorem bo_Book_bundleEnd : bt_Book_bundleEnd.all (fun q => ab_chk 31 q.1 q.2) = true := by decide +kernel
set_option maxRecDepth 100000 in
theorem bo_Book_bundleSize : bt_Book_bundleSize.all (fun q => ab_chk 32 q.1 q.2) = true := by decide +kernel
set_option maxRecDepth 100000 in
theorem bo_Book_countBundles : bt_Book_countBundles.all (fun q => ab_chk 33 q.1 q.2) = true := by decide +kernel
set_option maxRecDepth 100000 in
theorem bo_Book_canShift : bt_Book_canShift.all (fun q => ab_chk 34 q.1 q.2) = true := by decide +kernel
set_option maxRecDepth 100000 in
theorem bo_Book_setEntry : bt_Book_setEntry.all (fun q => ab_chk 35 q.1 q.2) = true := by decide +kernel
set_option maxRecDepth 100000 in
theorem bo_Book_setFriend : bt_Book_setFriend.all (fun q => ab_chk 36 q.1 q.2) = true := by decide +kernel
set_option maxRecDepth 100000 in
theorem bo_Book_addLeaf : bt_Book_addLeaf.all (fun q => ab_chk 37 q.1 q.2) = true := by decide +kernel
set_option maxRecDepth 100000 in
theorem bo_Book_addLeaves : bt_Book_addLeaves.all (fun q => ab_chk 38 q.1 q.2) = true := by decide +kernel
set_option maxRecDepth 100000 in
theorem bo_Book_clearFor : bt_Book_clearFor.all (fun q => ab_chk 39 q.1 q.2) = true := by decide +kernel
set_option maxRecDepth 100000 in
theorem bo_Book_copyFrom : bt_Book_copyFrom.all (fun q => ab_chk 40 q.1 q.2) = true := by decide +kernel
set_option maxRecDepth 100000 in
theorem bo_Bench_init : bt_Bench_init.all (fun q => ab_chk 41 q.1 q.2) = true := by decide +kernel
set_option maxRecDepth 100000 in
theorem bo_Bench_takeOut : bt_Bench_takeOut.all (fun q => ab_chk 42 q.1 q.2) = true := by decide +kernel
set_option maxRecDepth 100000 in
theorem bo_Bench_shift : bt_Bench_shift.all (fun q => ab_chk 43 q.1 q.2) = true := by decide +kernel
set_option maxRecDepth 100000 in
theorem bo_Bench_layOut : bt_Bench_layOut.all (fun q => ab_chk 44 q.1 q.2) = true := by decide +kernel
set_option maxRecDepth 100000 in
theorem bo_Bench_layOutFor : bt_Bench_layOutFor.all (fun q => ab_chk 45 q.1 q.2) = true := by decide +kernel
set_option maxRecDepth 100000 in
theorem bo_Bench_fits : bt_Bench_fits.all (fun q => ab_chk 46 q.1 q.2) = true := by decide +kernel
set_option maxRecDepth 100000 in
theorem bo_Bench_gainOfOne : bt_Bench_gainOfOne.all (fun q => ab_chk 47 q.1 q.2) = true := by decide +kernel
set_option maxRecDepth 100000 in
theorem bo_Bench_gainOfOther : bt_Bench_gainOfOther.all (fun q => ab_chk 48 q.1 q.2) = true := by decide +kernel
set_option maxRecDepth 100000 in
theorem bo_Bench_settle : bt_Bench_settle.all (fun q => ab_chk 49 q.1 q.2) = true := by decide +kernel
set_option maxRecDepth 100000 in
theorem bo_State_init : bt_State_init.all (fun q => ab_chk 50 q.1 q.2) = true := by decide +kernel
set_option maxRecDepth 100000 in
theorem bo_State_copyFrom : bt_State_copyFrom.all (fun q => ab_chk 51 q.1 q.2) = true := by decide +kernel
set_option maxRecDepth 100000 in
theorem bo_State_bookOf : bt_State_bookOf.all (fun q => ab_chk 52 q.1 q.2) = true := by decide +kernel
set_option maxRecDepth 100000 in
theorem bo_State_bookWith : bt_State_bookWith.all (fun q => ab_chk 53 q.1 q.2) = true := by decide +kernel
set_option maxRecDepth 100000 in
theorem bo_State_purseOf : bt_State_purseOf.all (fun q => ab_chk 54 q.1 q.2) = true := by decide +kernel
set_option maxRecDepth 100000 in
theorem bo_State_setPurse : bt_State_setPurse.all (fun q => ab_chk 55 q.1 q.2) = true := by decide +kernel
set_option maxRecDepth 100000 in
theorem bo_State_addName : bt_State_addName.all (fun q => ab_chk 56 q.1 q.2) = true := by decide +kernel
set_option maxRecDepth 100000 in
theorem bo_State_addLeaf : bt_State_addLeaf.all (fun q => ab_chk 57 q.1 q.2) = true := by decide +kernel
set_option maxRecDepth 100000 in
theorem bo_State_addEntry : bt_State_addEntry.all (fun q => ab_chk 58 q.1 q.2) = true := by decide +kernel
set_option maxRecDepth 100000 in
theorem bo_State_addWideEntry : bt_State_addWideEntry.all (fun q => ab_chk 59 q.1 q.2) = true := by decide +kernel
set_option maxRecDepth 100000 in
theorem bo_State_setFriend : bt_State_setFriend.all (fun q => ab_chk 60 q.1 q.2) = true := by decide +kernel
set_option maxRecDepth 100000 in
theorem bo_State_shiftBundle : bt_State_shiftBundle.all (fun q => ab_chk 61 q.1 q.2) = true := by decide +kernel
set_option maxRecDepth 100000 in
theorem bo_State_exchange : bt_State_exchange.all (fun q => ab_chk 62 q.1 q.2) = true := by decide +kernel
set_option maxRecDepth 100000 in
theorem bo_State_takeOut : bt_State_takeOut.all (fun q => ab_chk 63 q.1 q.2) = true := by decide +kernel
set_option maxRecDepth 100000 in
theorem bo_State_fillPurse : bt_State_fillPurse.all (fun q => ab_chk 64 q.1 q.2) = true := by decide +kernel
set_option maxRecDepth 100000 in
theorem bo_State_wealth : bt_State_wealth.all (fun q => ab_chk 65 q.1 q.2) = true := by decide +kernel
set_option maxRecDepth 100000 in
theorem bo_State_richest : bt_State_richest.all (fun q => ab_chk 66 q.1 q.2) = true := by decide +kernel
set_option maxRecDepth 100000 in
theorem bo_State_sumOfWorths : bt_State_sumOfWorths.all (fun q => ab_chk 67 q.1 q.2) = true := by decide +kernel
set_option maxRecDepth 100000 in
theorem bo_State_countLeaves : bt_State_countLeaves.all (fun q => ab_chk 68 q.1 q.2) = true := by decide +kernel
set_option maxRecDepth 100000 in
theorem bo_State_countEntries : bt_State_countEntries.all (fun q => ab_chk 69 q.1 q.2) = true := by decide +kernel
set_option maxRecDepth 100000 in
theorem bo_State_countDedicated : bt_State_countDedicated.all (fun q => ab_chk 70 q.1 q.2) = true := by decide +kernel
set_option maxRecDepth 100000 in
theorem bo_State_countEntriesOf : bt_State_countEntriesOf.all (fun q => ab_chk 71 q.1 q.2) = true := by decide +kernel
set_option maxRecDepth 100000 in
theorem bo_State_ownersOf : bt_State_ownersOf.all (fun q => ab_chk 72 q.1 q.2) = true := by decide +kernel
set_option maxRecDepth 100000 in
theorem bo_BestTrade_init : bt_BestTrade_init.all (fun q => ab_chk 73 q.1 q.2) = true := by decide +kernel
set_option maxRecDepth 100000 in
theorem bo_BestTrade_search : bt_BestTrade_search.all (fun q => ab_chk 74 q.1 q.2) = true := by decide +kernel
set_option maxRecDepth 100000 in
theorem bo_BestTrade_searchBook : bt_BestTrade_searchBook.all (fun q => ab_chk 75 q.1 q.2) = true := by decide +kernel
set_option maxRecDepth 100000 in
theorem bo_History_init : bt_History_init.all (fun q => ab_chk 76 q.1 q.2) = true := by decide +kernel
set_option maxRecDepth 100000 in
theorem bo_History_prepare : bt_History_prepare.all (fun q => ab_chk 77 q.1 q.2) = true := by decide +kernel
set_option maxRecDepth 100000 in
theorem bo_History_keep : bt_History_keep.all (fun q => ab_chk 78 q.1 q.2) = true := by decide +kernel
set_option maxRecDepth 100000 in
theorem bo_History_restore : bt_History_restore.all (fun q => ab_chk 79 q.1 q.2) = true := by decide +kernel
set_option maxRecDepth 100000 in
theorem bo_Orders_init : bt_Orders_init.all (fun q => ab_chk 80 q.1 q.2) = true := by decide +kernel
set_option maxRecDepth 100000 in
theorem bo_Orders_append : bt_Orders_append.all (fun q => ab_chk 81 q.1 q.2) = true := by decide +kernel
set_option maxRecDepth 100000 in
theorem bo_Orders_run : bt_Orders_run.all (fun q => ab_chk 82 q.1 q.2) = true := by decide +kernel
set_option maxRecDepth 100000 in
theorem bo_Orders_characterAt : bt_Orders_characterAt.all (fun q => ab_chk 83 q.1 q.2) = true := by decide +kernel
set_option maxRecDepth 100000 in
theorem bo_Orders_readOrder : bt_Orders_readOrder.all (fun q => ab_chk 84 q.1 q.2) = true := by decide +kernel
set_option maxRecDepth 100000 in
theorem bo_Orders_skip : bt_Orders_skip.all (fun q => ab_chk 85 q.1 q.2) = true := by decide +kernel
set_option maxRecDepth 100000 in
theorem bo_Orders_readNumber : bt_Orders_readNumber.all (fun q => ab_chk 86 q.1 q.2) = true := by decide +kernel
set_option maxRecDepth 100000 in
theorem bo_Orders_number : bt_Orders_number.all (fun q => ab_chk 87 q.1 q.2) = true := by decide +kernel
set_option maxRecDepth 100000 in
theorem bo_Orders_doOrder : bt_Orders_doOrder.all (fun q => ab_chk 88 q.1 q.2) = true := by decide +kernel
set_option maxRecDepth 100000 in
theorem bo_Orders_howManyNumbers : bt_Orders_howManyNumbers.all (fun q => ab_chk 89 q.1 q.2) = true := by decide +kernel
set_option maxRecDepth 100000 in
theorem bo_Orders_isDigit : bt_Orders_isDigit.all (fun q => ab_chk 90 q.1 q.2) = true := by decide +kernel
set_option maxRecDepth 100000 in
theorem bo_Fair_init : bt_Fair_init.all (fun q => ab_chk 91 q.1 q.2) = true := by decide +kernel
set_option maxRecDepth 100000 in
theorem bo_Fair_name : bt_Fair_name.all (fun q => ab_chk 92 q.1 q.2) = true := by decide +kernel
set_option maxRecDepth 100000 in
theorem bo_Fair_leaf : bt_Fair_leaf.all (fun q => ab_chk 93 q.1 q.2) = true := by decide +kernel
set_option maxRecDepth 100000 in
theorem bo_Fair_sign : bt_Fair_sign.all (fun q => ab_chk 94 q.1 q.2) = true := by decide +kernel
set_option maxRecDepth 100000 in
theorem bo_Fair_over : bt_Fair_over.all (fun q => ab_chk 95 q.1 q.2) = true := by decide +kernel
set_option maxRecDepth 100000 in
theorem bo_Fair_dedicate : bt_Fair_dedicate.all (fun q => ab_chk 96 q.1 q.2) = true := by decide +kernel
set_option maxRecDepth 100000 in
theorem bo_Fair_move : bt_Fair_move.all (fun q => ab_chk 97 q.1 q.2) = true := by decide +kernel
set_option maxRecDepth 100000 in
theorem bo_Fair_trade : bt_Fair_trade.all (fun q => ab_chk 98 q.1 q.2) = true := by decide +kernel
set_option maxRecDepth 100000 in
theorem bo_Fair_tear : bt_Fair_tear.all (fun q => ab_chk 99 q.1 q.2) = true := by decide +kernel
set_option maxRecDepth 100000 in
theorem bo_Fair_coins : bt_Fair_coins.all (fun q => ab_chk 100 q.1 q.2) = true := by decide +kernel
set_option maxRecDepth 100000 in
theorem bo_Fair_pageOf : bt_Fair_pageOf.all (fun q => ab_chk 101 q.1 q.2) = true := by decide +kernel
set_option maxRecDepth 100000 in
theorem bo_Fair_leafOf : bt_Fair_leafOf.all (fun q => ab_chk 102 q.1 q.2) = true := by decide +kernel
set_option maxRecDepth 100000 in
theorem bo_Fair_at : bt_Fair_at.all (fun q => ab_chk 103 q.1 q.2) = true := by decide +kernel
set_option maxRecDepth 100000 in
theorem bo_Fair_collectorOf : bt_Fair_collectorOf.all (fun q => ab_chk 104 q.1 q.2) = true := by decide +kernel
set_option maxRecDepth 100000 in
theorem bo_Fair_nameOf : bt_Fair_nameOf.all (fun q => ab_chk 105 q.1 q.2) = true := by decide +kernel
set_option maxRecDepth 100000 in
theorem bo_Fair_gain : bt_Fair_gain.all (fun q => ab_chk 106 q.1 q.2) = true := by decide +kernel
set_option maxRecDepth 100000 in
theorem bo_Fair_fair : bt_Fair_fair.all (fun q => ab_chk 107 q.1 q.2) = true := by decide +kernel
set_option maxRecDepth 100000 in
theorem bo_Fair_best : bt_Fair_best.all (fun q => ab_chk 108 q.1 q.2) = true := by decide +kernel
set_option maxRecDepth 100000 in
theorem bo_Fair_missing : bt_Fair_missing.all (fun q => ab_chk 109 q.1 q.2) = true := by decide +kernel
set_option maxRecDepth 100000 in
theorem bo_Fair_mean : bt_Fair_mean.all (fun q => ab_chk 110 q.1 q.2) = true := by decide +kernel
set_option maxRecDepth 100000 in
theorem bo_Fair_count : bt_Fair_count.all (fun q => ab_chk 111 q.1 q.2) = true := by decide +kernel
set_option maxRecDepth 100000 in
theorem bo_Fair_undo : bt_Fair_undo.all (fun q => ab_chk 112 q.1 q.2) = true := by decide +kernel
set_option maxRecDepth 100000 in
theorem bo_Fair_type : bt_Fair_type.all (fun q => ab_chk 113 q.1 q.2) = true := by decide +kernel
set_option maxRecDepth 100000 in
theorem bo_Fair_clearText : bt_Fair_clearText.all (fun q => ab_chk 114 q.1 q.2) = true := by decide +kernel
set_option maxRecDepth 100000 in
theorem bo_Fair_fault : bt_Fair_fault.all (fun q => ab_chk 115 q.1 q.2) = true := by decide +kernel
set_option maxRecDepth 100000 in
theorem bo_Fair_play : bt_Fair_play.all (fun q => ab_chk 116 q.1 q.2) = true := by decide +kernel
set_option maxRecDepth 100000 in
theorem bo_Fair_isCollector : bt_Fair_isCollector.all (fun q => ab_chk 117 q.1 q.2) = true := by decide +kernel
set_option maxRecDepth 100000 in
theorem bo_Fair_isTheme : bt_Fair_isTheme.all (fun q => ab_chk 118 q.1 q.2) = true := by decide +kernel
set_option maxRecDepth 100000 in
theorem bo_Fair_isSide : bt_Fair_isSide.all (fun q => ab_chk 119 q.1 q.2) = true := by decide +kernel
set_option maxRecDepth 100000 in
theorem bo_Fair_arePaid : bt_Fair_arePaid.all (fun q => ab_chk 120 q.1 q.2) = true := by decide +kernel
set_option maxRecDepth 100000 in
theorem bo_Fair_bitsOf : bt_Fair_bitsOf.all (fun q => ab_chk 121 q.1 q.2) = true := by decide +kernel
set_option maxRecDepth 100000 in
theorem bo_Law_part : bt_Law_part.all (fun q => ab_chk 122 q.1 q.2) = true := by decide +kernel
set_option maxRecDepth 100000 in
theorem bo_Law_drawn : bt_Law_drawn.all (fun q => ab_chk 123 q.1 q.2) = true := by decide +kernel
set_option maxRecDepth 100000 in
theorem bo_Law_seen : bt_Law_seen.all (fun q => ab_chk 124 q.1 q.2) = true := by decide +kernel
set_option maxRecDepth 100000 in
theorem bo_Law_refusesAny : bt_Law_refusesAny.all (fun q => ab_chk 125 q.1 q.2) = true := by decide +kernel
set_option maxRecDepth 100000 in
theorem bo_Law_refused : bt_Law_refused.all (fun q => ab_chk 126 q.1 q.2) = true := by decide +kernel
set_option maxRecDepth 100000 in
theorem bo_Law_books : bt_Law_books.all (fun q => ab_chk 127 q.1 q.2) = true := by decide +kernel
set_option maxRecDepth 100000 in
theorem bo_Law_types : bt_Law_types.all (fun q => ab_chk 128 q.1 q.2) = true := by decide +kernel
set_option maxRecDepth 100000 in
theorem bo_Law_isFault : bt_Law_isFault.all (fun q => ab_chk 129 q.1 q.2) = true := by decide +kernel
set_option maxRecDepth 100000 in
theorem bo_Law_texts : bt_Law_texts.all (fun q => ab_chk 130 q.1 q.2) = true := by decide +kernel
def ab_bl (bt : List (Nat × List ab_O)) (pc : Nat) : List ab_O := (bt.lookup pc).getD []
theorem ab_bl_ok {k pc : Nat} {bt : List (Nat × List ab_O)} (hb : bt.all (fun q => ab_chk k q.1 q.2) = true) : ab_chk k pc (ab_bl bt pc) = true := by
  unfold ab_bl
  cases h : bt.lookup pc with
  | none => rfl
  | some os =>
    have h2 := List.all_eq_true.mp hb (pc, os) (by
      obtain ⟨l1, l2, e, -⟩ := List.lookup_eq_some_iff.mp h
      rw [e]; simp)
    exact h2
def ab_rn (d k : Nat) (bt : List (Nat × List ab_O)) (stop : List Nat) (Q : Option Value → ab_H → Prop) : Nat → Nat → ab_K
  | 0, pc, n, bc, bs, ls, st, h => ab_W d k pc n bc bs ls st h Q
  | f + 1, pc, n, bc, bs, ls, st, h => if pc ∈ stop then ab_W d k pc n bc bs ls st h Q else ab_wp d (ab_rn d k bt stop Q f) Q (ab_bl bt pc) n bc bs ls st h
theorem ab_rn_ok {d k : Nat} {bt : List (Nat × List ab_O)} {stop : List Nat} {Q : Option Value → ab_H → Prop} (hb : bt.all (fun q => ab_chk k q.1 q.2) = true) : ∀ (f : Nat) {pc n bc bs : Nat} {ls : List (Option Value)} {st : List Value} {h : ab_H}, ab_rn d k bt stop Q f pc n bc bs ls st h → ab_W d k pc n bc bs ls st h Q
  | 0, _, _, _, _, _, _, _, hw => hw
  | f + 1, pc, n, bc, bs, ls, st, h, hw => by
    unfold ab_rn at hw
    split at hw
    · exact hw
    · exact ab_wp_ok (fun t n bc bs ls st h q => ab_rn_ok hb f q) _ (ab_bl_ok hb) hw
/-- on from a program counter: the blocks are walked until a place of the list 'stop' (or f blocks on) -/
theorem ab_go {d k : Nat} {bt : List (Nat × List ab_O)} (stop : List Nat) (f : Nat) {Q : Option Value → ab_H → Prop} (hb : bt.all (fun q => ab_chk k q.1 q.2) = true) {pc n bc bs : Nat} {ls : List (Option Value)} {st : List Value} {h : ab_H} (hw : ab_wp d (ab_rn d k bt stop Q f) Q (ab_bl bt pc) n bc bs ls st h) : ab_W d k pc n bc bs ls st h Q :=
  ab_wp_ok (fun t n bc bs ls st h q => ab_rn_ok hb f q) _ (ab_bl_ok hb) hw
