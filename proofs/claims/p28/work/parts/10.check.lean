/-! ===== the blocks are the bytecode ===== -/
def ab_sz (a : List ab_O) : Nat := (a.map (fun o => o.2.1)).sum
theorem ab_chk_app {k pc2 : Nat} {b : List ab_O} : ∀ {a : List ab_O} {pc : Nat}, ab_chk k pc a = true → pc + ab_sz a = pc2 → ab_chk k pc2 b = true → ab_chk k pc (a ++ b) = true
  | [], pc, _, h2, h3 => by
    have e : pc = pc2 := by rw [← h2]; rfl
    rw [e]; exact h3
  | o :: a, pc, h1, h2, h3 => by
    rw [ab_chk, Bool.and_eq_true] at h1
    rw [List.cons_append, ab_chk, Bool.and_eq_true]
    refine ⟨h1.1, ab_chk_app h1.2 ?_ h3⟩
    rw [← h2]
    show pc + o.2.1 + ab_sz a = pc + (o.2.1 + ab_sz a)
    omega
theorem ab_all_cons {k t : Nat} {b : List ab_O} {l : List (Nat × List ab_O)} (h : ab_chk k t b = true) (h2 : l.all (fun q => ab_chk k q.1 q.2) = true) : ((t, b) :: l).all (fun q => ab_chk k q.1 q.2) = true := by
  rw [List.all_cons, h2, Bool.and_true]
  exact h
set_option maxRecDepth 100000 in
theorem bo_Integer_bitCount : bt_Integer_bitCount.all (fun q => ab_chk 2 q.1 q.2) = true := by decide +kernel
set_option maxRecDepth 100000 in
theorem bo_Names_init : bt_Names_init.all (fun q => ab_chk 3 q.1 q.2) = true := by decide +kernel
set_option maxRecDepth 100000 in
theorem bo_Names_has : bt_Names_has.all (fun q => ab_chk 4 q.1 q.2) = true := by decide +kernel
set_option maxRecDepth 100000 in
theorem bo_Names_fameOf : bt_Names_fameOf.all (fun q => ab_chk 5 q.1 q.2) = true := by decide +kernel
set_option maxRecDepth 100000 in
theorem bo_Names_themeOf : bt_Names_themeOf.all (fun q => ab_chk 6 q.1 q.2) = true := by decide +kernel
set_option maxRecDepth 100000 in
theorem bo_Names_setOf : bt_Names_setOf.all (fun q => ab_chk 7 q.1 q.2) = true := by decide +kernel
set_option maxRecDepth 100000 in
theorem bo_Names_add : bt_Names_add.all (fun q => ab_chk 8 q.1 q.2) = true := by decide +kernel
set_option maxRecDepth 100000 in
theorem bo_Names_copyFrom : bt_Names_copyFrom.all (fun q => ab_chk 9 q.1 q.2) = true := by decide +kernel
set_option maxRecDepth 100000 in
theorem bo_Book_init : bt_Book_init.all (fun q => ab_chk 10 q.1 q.2) = true := by decide +kernel
set_option maxRecDepth 100000 in
theorem bo_Book_numberAt : bt_Book_numberAt.all (fun q => ab_chk 11 q.1 q.2) = true := by decide +kernel
set_option maxRecDepth 100000 in
theorem bo_Book_kindOf : bt_Book_kindOf.all (fun q => ab_chk 12 q.1 q.2) = true := by decide +kernel
set_option maxRecDepth 100000 in
theorem bo_Book_nameOn : bt_Book_nameOn.all (fun q => ab_chk 13 q.1 q.2) = true := by decide +kernel
set_option maxRecDepth 100000 in
theorem bo_Book_friendOn : bt_Book_friendOn.all (fun q => ab_chk 14 q.1 q.2) = true := by decide +kernel
set_option maxRecDepth 100000 in
theorem bo_Book_find : bt_Book_find.all (fun q => ab_chk 15 q.1 q.2) = true := by decide +kernel
set_option maxRecDepth 100000 in
theorem bo_Book_startsEntry : bt_Book_startsEntry.all (fun q => ab_chk 16 q.1 q.2) = true := by decide +kernel
set_option maxRecDepth 100000 in
theorem bo_Book_countEntries : bt_Book_countEntries.all (fun q => ab_chk 17 q.1 q.2) = true := by decide +kernel
set_option maxRecDepth 100000 in
theorem bo_Book_countEntriesOf : bt_Book_countEntriesOf.all (fun q => ab_chk 18 q.1 q.2) = true := by decide +kernel
set_option maxRecDepth 100000 in
theorem bo_Book_countDedicatedTo : bt_Book_countDedicatedTo.all (fun q => ab_chk 19 q.1 q.2) = true := by decide +kernel
set_option maxRecDepth 100000 in
theorem bo_Book_countDedicated : bt_Book_countDedicated.all (fun q => ab_chk 20 q.1 q.2) = true := by decide +kernel
set_option maxRecDepth 100000 in
theorem bo_Book_nameSet : bt_Book_nameSet.all (fun q => ab_chk 21 q.1 q.2) = true := by decide +kernel
set_option maxRecDepth 100000 in
theorem bo_Book_namesAhead : bt_Book_namesAhead.all (fun q => ab_chk 22 q.1 q.2) = true := by decide +kernel
set_option maxRecDepth 100000 in
theorem bo_Book_valueOn : bt_Book_valueOn.all (fun q => ab_chk 23 q.1 q.2) = true := by decide +kernel
set_option maxRecDepth 100000 in
theorem bo_Book_valueBehind : bt_Book_valueBehind.all (fun q => ab_chk 24 q.1 q.2) = true := by decide +kernel
set_option maxRecDepth 100000 in
theorem bo_Book_sumOfValues : bt_Book_sumOfValues.all (fun q => ab_chk 25 q.1 q.2) = true := by decide +kernel
set_option maxRecDepth 100000 in
theorem bo_Book_wholeThemes : bt_Book_wholeThemes.all (fun q => ab_chk 26 q.1 q.2) = true := by decide +kernel
set_option maxRecDepth 100000 in
theorem bo_Book_worth : bt_Book_worth.all (fun q => ab_chk 27 q.1 q.2) = true := by decide +kernel
set_option maxRecDepth 100000 in
theorem bo_Book_isJoined : bt_Book_isJoined.all (fun q => ab_chk 28 q.1 q.2) = true := by decide +kernel
set_option maxRecDepth 100000 in
theorem bo_Book_startsBundle : bt_Book_startsBundle.all (fun q => ab_chk 29 q.1 q.2) = true := by decide +kernel
set_option maxRecDepth 100000 in
theorem bo_Book_bundleFirst : bt_Book_bundleFirst.all (fun q => ab_chk 30 q.1 q.2) = true := by decide +kernel
set_option maxRecDepth 100000 in
theorem bo_Book_bundleEnd : bt_Book_bundleEnd.all (fun q => ab_chk 31 q.1 q.2) = true := by decide +kernel
set_option maxRecDepth 100000 in
theorem bo_Book_bundleSize : bt_Book_bundleSize.all (fun q => ab_chk 32 q.1 q.2) = true := by decide +kernel
set_option maxRecDepth 100000 in
theorem bo_Book_countBundles : bt_Book_countBundles.all (fun q => ab_chk 33 q.1 q.2) = true := by decide +kernel
set_option maxRecDepth 100000 in
theorem bo_Book_canShift : bt_Book_canShift.all (fun q => ab_chk 34 q.1 q.2) = true := by decide +kernel
set_option maxRecDepth 100000 in
theorem bo_Book_setEntry : bt_Book_setEntry.all (fun q => ab_chk 35 q.1 q.2) = true := by decide +kernel
set_option maxRecDepth 100000 in
theorem bo_Book_setFriend : bt_Book_setFriend.all (fun q => ab_chk 36 q.1 q.2) = true := by decide +kernel
set_option maxRecDepth 100000 in
theorem bo_Book_addLeaf : bt_Book_addLeaf.all (fun q => ab_chk 37 q.1 q.2) = true := by decide +kernel
set_option maxRecDepth 100000 in
theorem bo_Book_addLeaves : bt_Book_addLeaves.all (fun q => ab_chk 38 q.1 q.2) = true := by decide +kernel
set_option maxRecDepth 100000 in
theorem bo_Book_clearFor : bt_Book_clearFor.all (fun q => ab_chk 39 q.1 q.2) = true := by decide +kernel
set_option maxRecDepth 100000 in
theorem bo_Book_copyFrom : bt_Book_copyFrom.all (fun q => ab_chk 40 q.1 q.2) = true := by decide +kernel
set_option maxRecDepth 100000 in
theorem bo_Bench_init : bt_Bench_init.all (fun q => ab_chk 41 q.1 q.2) = true := by decide +kernel
set_option maxRecDepth 100000 in
theorem bo_Bench_takeOut : bt_Bench_takeOut.all (fun q => ab_chk 42 q.1 q.2) = true := by decide +kernel
set_option maxRecDepth 100000 in
theorem bo_Bench_shift : bt_Bench_shift.all (fun q => ab_chk 43 q.1 q.2) = true := by decide +kernel
set_option maxRecDepth 100000 in
theorem bo_Bench_layOut : bt_Bench_layOut.all (fun q => ab_chk 44 q.1 q.2) = true := by decide +kernel
set_option maxRecDepth 100000 in
theorem bo_Bench_layOutFor : bt_Bench_layOutFor.all (fun q => ab_chk 45 q.1 q.2) = true := by decide +kernel
set_option maxRecDepth 100000 in
theorem bo_Bench_fits : bt_Bench_fits.all (fun q => ab_chk 46 q.1 q.2) = true := by decide +kernel
set_option maxRecDepth 100000 in
theorem bo_Bench_gainOfOne : bt_Bench_gainOfOne.all (fun q => ab_chk 47 q.1 q.2) = true := by decide +kernel
set_option maxRecDepth 100000 in
theorem bo_Bench_gainOfOther : bt_Bench_gainOfOther.all (fun q => ab_chk 48 q.1 q.2) = true := by decide +kernel
set_option maxRecDepth 100000 in
theorem bo_Bench_settle : bt_Bench_settle.all (fun q => ab_chk 49 q.1 q.2) = true := by decide +kernel
set_option maxRecDepth 100000 in
theorem bo_State_init : bt_State_init.all (fun q => ab_chk 50 q.1 q.2) = true := by decide +kernel
set_option maxRecDepth 100000 in
theorem bo_State_copyFrom : bt_State_copyFrom.all (fun q => ab_chk 51 q.1 q.2) = true := by decide +kernel
set_option maxRecDepth 100000 in
theorem bo_State_bookOf : bt_State_bookOf.all (fun q => ab_chk 52 q.1 q.2) = true := by decide +kernel
set_option maxRecDepth 100000 in
theorem bo_State_bookWith : bt_State_bookWith.all (fun q => ab_chk 53 q.1 q.2) = true := by decide +kernel
set_option maxRecDepth 100000 in
theorem bo_State_purseOf : bt_State_purseOf.all (fun q => ab_chk 54 q.1 q.2) = true := by decide +kernel
set_option maxRecDepth 100000 in
theorem bo_State_setPurse : bt_State_setPurse.all (fun q => ab_chk 55 q.1 q.2) = true := by decide +kernel
set_option maxRecDepth 100000 in
theorem bo_State_addName : bt_State_addName.all (fun q => ab_chk 56 q.1 q.2) = true := by decide +kernel
set_option maxRecDepth 100000 in
theorem bo_State_addLeaf : bt_State_addLeaf.all (fun q => ab_chk 57 q.1 q.2) = true := by decide +kernel
set_option maxRecDepth 100000 in
theorem bo_State_addEntry : bt_State_addEntry.all (fun q => ab_chk 58 q.1 q.2) = true := by decide +kernel
set_option maxRecDepth 100000 in
theorem bo_State_addWideEntry : bt_State_addWideEntry.all (fun q => ab_chk 59 q.1 q.2) = true := by decide +kernel
set_option maxRecDepth 100000 in
theorem bo_State_setFriend : bt_State_setFriend.all (fun q => ab_chk 60 q.1 q.2) = true := by decide +kernel
set_option maxRecDepth 100000 in
theorem bo_State_shiftBundle : bt_State_shiftBundle.all (fun q => ab_chk 61 q.1 q.2) = true := by decide +kernel
set_option maxRecDepth 100000 in
theorem bo_State_exchange : bt_State_exchange.all (fun q => ab_chk 62 q.1 q.2) = true := by decide +kernel
set_option maxRecDepth 100000 in
theorem bo_State_takeOut : bt_State_takeOut.all (fun q => ab_chk 63 q.1 q.2) = true := by decide +kernel
set_option maxRecDepth 100000 in
theorem bo_State_fillPurse : bt_State_fillPurse.all (fun q => ab_chk 64 q.1 q.2) = true := by decide +kernel
set_option maxRecDepth 100000 in
theorem bo_State_wealth : bt_State_wealth.all (fun q => ab_chk 65 q.1 q.2) = true := by decide +kernel
set_option maxRecDepth 100000 in
theorem bo_State_richest : bt_State_richest.all (fun q => ab_chk 66 q.1 q.2) = true := by decide +kernel
set_option maxRecDepth 100000 in
theorem bo_State_sumOfWorths : bt_State_sumOfWorths.all (fun q => ab_chk 67 q.1 q.2) = true := by decide +kernel
set_option maxRecDepth 100000 in
theorem bo_State_countLeaves : bt_State_countLeaves.all (fun q => ab_chk 68 q.1 q.2) = true := by decide +kernel
set_option maxRecDepth 100000 in
theorem bo_State_countEntries : bt_State_countEntries.all (fun q => ab_chk 69 q.1 q.2) = true := by decide +kernel
set_option maxRecDepth 100000 in
theorem bo_State_countDedicated : bt_State_countDedicated.all (fun q => ab_chk 70 q.1 q.2) = true := by decide +kernel
set_option maxRecDepth 100000 in
theorem bo_State_countEntriesOf : bt_State_countEntriesOf.all (fun q => ab_chk 71 q.1 q.2) = true := by decide +kernel
set_option maxRecDepth 100000 in
theorem bo_State_ownersOf : bt_State_ownersOf.all (fun q => ab_chk 72 q.1 q.2) = true := by decide +kernel
set_option maxRecDepth 100000 in
theorem bo_BestTrade_init : bt_BestTrade_init.all (fun q => ab_chk 73 q.1 q.2) = true := by decide +kernel
set_option maxRecDepth 100000 in
theorem bo_BestTrade_search : bt_BestTrade_search.all (fun q => ab_chk 74 q.1 q.2) = true := by decide +kernel
set_option maxRecDepth 100000 in
theorem bo_BestTrade_searchBook : bt_BestTrade_searchBook.all (fun q => ab_chk 75 q.1 q.2) = true := by decide +kernel
set_option maxRecDepth 100000 in
theorem bo_History_init : bt_History_init.all (fun q => ab_chk 76 q.1 q.2) = true := by decide +kernel
set_option maxRecDepth 100000 in
theorem bo_History_prepare : bt_History_prepare.all (fun q => ab_chk 77 q.1 q.2) = true := by decide +kernel
set_option maxRecDepth 100000 in
theorem bo_History_keep : bt_History_keep.all (fun q => ab_chk 78 q.1 q.2) = true := by decide +kernel
set_option maxRecDepth 100000 in
theorem bo_History_restore : bt_History_restore.all (fun q => ab_chk 79 q.1 q.2) = true := by decide +kernel
set_option maxRecDepth 100000 in
theorem bo_Orders_init : bt_Orders_init.all (fun q => ab_chk 80 q.1 q.2) = true := by decide +kernel
set_option maxRecDepth 100000 in
theorem bo_Orders_append : bt_Orders_append.all (fun q => ab_chk 81 q.1 q.2) = true := by decide +kernel
set_option maxRecDepth 100000 in
theorem bo_Orders_run : bt_Orders_run.all (fun q => ab_chk 82 q.1 q.2) = true := by decide +kernel
set_option maxRecDepth 100000 in
theorem bo_Orders_characterAt : bt_Orders_characterAt.all (fun q => ab_chk 83 q.1 q.2) = true := by decide +kernel
set_option maxRecDepth 100000 in
theorem bo_Orders_readOrder : bt_Orders_readOrder.all (fun q => ab_chk 84 q.1 q.2) = true := by decide +kernel
set_option maxRecDepth 100000 in
theorem bo_Orders_skip : bt_Orders_skip.all (fun q => ab_chk 85 q.1 q.2) = true := by decide +kernel
set_option maxRecDepth 100000 in
theorem bo_Orders_readNumber : bt_Orders_readNumber.all (fun q => ab_chk 86 q.1 q.2) = true := by decide +kernel
set_option maxRecDepth 100000 in
theorem bo_Orders_number : bt_Orders_number.all (fun q => ab_chk 87 q.1 q.2) = true := by decide +kernel
set_option maxRecDepth 100000 in
theorem bo_Orders_doOrder : bt_Orders_doOrder.all (fun q => ab_chk 88 q.1 q.2) = true := by decide +kernel
set_option maxRecDepth 100000 in
theorem bo_Orders_howManyNumbers : bt_Orders_howManyNumbers.all (fun q => ab_chk 89 q.1 q.2) = true := by decide +kernel
set_option maxRecDepth 100000 in
theorem bo_Orders_isDigit : bt_Orders_isDigit.all (fun q => ab_chk 90 q.1 q.2) = true := by decide +kernel
set_option maxRecDepth 100000 in
theorem bo_Fair_init : bt_Fair_init.all (fun q => ab_chk 91 q.1 q.2) = true := by decide +kernel
set_option maxRecDepth 100000 in
theorem bo_Fair_name : bt_Fair_name.all (fun q => ab_chk 92 q.1 q.2) = true := by decide +kernel
set_option maxRecDepth 100000 in
theorem bo_Fair_leaf : bt_Fair_leaf.all (fun q => ab_chk 93 q.1 q.2) = true := by decide +kernel
set_option maxRecDepth 100000 in
theorem bo_Fair_sign : bt_Fair_sign.all (fun q => ab_chk 94 q.1 q.2) = true := by decide +kernel
set_option maxRecDepth 100000 in
theorem bo_Fair_over : bt_Fair_over.all (fun q => ab_chk 95 q.1 q.2) = true := by decide +kernel
set_option maxRecDepth 100000 in
theorem bo_Fair_dedicate : bt_Fair_dedicate.all (fun q => ab_chk 96 q.1 q.2) = true := by decide +kernel
set_option maxRecDepth 100000 in
theorem bo_Fair_move : bt_Fair_move.all (fun q => ab_chk 97 q.1 q.2) = true := by decide +kernel
set_option maxRecDepth 100000 in
theorem bo_Fair_trade : bt_Fair_trade.all (fun q => ab_chk 98 q.1 q.2) = true := by decide +kernel
set_option maxRecDepth 100000 in
theorem bo_Fair_tear : bt_Fair_tear.all (fun q => ab_chk 99 q.1 q.2) = true := by decide +kernel
set_option maxRecDepth 100000 in
theorem bo_Fair_coins : bt_Fair_coins.all (fun q => ab_chk 100 q.1 q.2) = true := by decide +kernel
set_option maxRecDepth 100000 in
theorem bo_Fair_pageOf : bt_Fair_pageOf.all (fun q => ab_chk 101 q.1 q.2) = true := by decide +kernel
set_option maxRecDepth 100000 in
theorem bo_Fair_leafOf : bt_Fair_leafOf.all (fun q => ab_chk 102 q.1 q.2) = true := by decide +kernel
set_option maxRecDepth 100000 in
theorem bo_Fair_at : bt_Fair_at.all (fun q => ab_chk 103 q.1 q.2) = true := by decide +kernel
set_option maxRecDepth 100000 in
theorem bo_Fair_collectorOf : bt_Fair_collectorOf.all (fun q => ab_chk 104 q.1 q.2) = true := by decide +kernel
set_option maxRecDepth 100000 in
theorem bo_Fair_nameOf : bt_Fair_nameOf.all (fun q => ab_chk 105 q.1 q.2) = true := by decide +kernel
set_option maxRecDepth 100000 in
theorem bo_Fair_gain : bt_Fair_gain.all (fun q => ab_chk 106 q.1 q.2) = true := by decide +kernel
set_option maxRecDepth 100000 in
theorem bo_Fair_fair : bt_Fair_fair.all (fun q => ab_chk 107 q.1 q.2) = true := by decide +kernel
set_option maxRecDepth 100000 in
theorem bo_Fair_best : bt_Fair_best.all (fun q => ab_chk 108 q.1 q.2) = true := by decide +kernel
set_option maxRecDepth 100000 in
theorem bo_Fair_missing : bt_Fair_missing.all (fun q => ab_chk 109 q.1 q.2) = true := by decide +kernel
set_option maxRecDepth 100000 in
theorem bo_Fair_mean : bt_Fair_mean.all (fun q => ab_chk 110 q.1 q.2) = true := by decide +kernel
set_option maxRecDepth 100000 in
theorem bo_Fair_count : bt_Fair_count.all (fun q => ab_chk 111 q.1 q.2) = true := by decide +kernel
set_option maxRecDepth 100000 in
theorem bo_Fair_undo : bt_Fair_undo.all (fun q => ab_chk 112 q.1 q.2) = true := by decide +kernel
set_option maxRecDepth 100000 in
theorem bo_Fair_type : bt_Fair_type.all (fun q => ab_chk 113 q.1 q.2) = true := by decide +kernel
set_option maxRecDepth 100000 in
theorem bo_Fair_clearText : bt_Fair_clearText.all (fun q => ab_chk 114 q.1 q.2) = true := by decide +kernel
set_option maxRecDepth 100000 in
theorem bo_Fair_fault : bt_Fair_fault.all (fun q => ab_chk 115 q.1 q.2) = true := by decide +kernel
set_option maxRecDepth 100000 in
theorem bo_Fair_play : bt_Fair_play.all (fun q => ab_chk 116 q.1 q.2) = true := by decide +kernel
set_option maxRecDepth 100000 in
theorem bo_Fair_isCollector : bt_Fair_isCollector.all (fun q => ab_chk 117 q.1 q.2) = true := by decide +kernel
set_option maxRecDepth 100000 in
theorem bo_Fair_isTheme : bt_Fair_isTheme.all (fun q => ab_chk 118 q.1 q.2) = true := by decide +kernel
set_option maxRecDepth 100000 in
theorem bo_Fair_isSide : bt_Fair_isSide.all (fun q => ab_chk 119 q.1 q.2) = true := by decide +kernel
set_option maxRecDepth 100000 in
theorem bo_Fair_arePaid : bt_Fair_arePaid.all (fun q => ab_chk 120 q.1 q.2) = true := by decide +kernel
set_option maxRecDepth 100000 in
theorem bo_Fair_bitsOf : bt_Fair_bitsOf.all (fun q => ab_chk 121 q.1 q.2) = true := by decide +kernel
set_option maxRecDepth 100000 in
theorem bo_Law_part : bt_Law_part.all (fun q => ab_chk 122 q.1 q.2) = true := by decide +kernel
set_option maxRecDepth 100000 in
theorem bo_Law_drawn : bt_Law_drawn.all (fun q => ab_chk 123 q.1 q.2) = true := by decide +kernel
set_option maxRecDepth 100000 in
theorem bo_Law_seen : bt_Law_seen.all (fun q => ab_chk 124 q.1 q.2) = true := by decide +kernel
set_option maxRecDepth 100000 in
theorem bo_Law_refusesAny_0 : ab_chk 125 0 bk_Law_refusesAny_0 = true := by decide +kernel
set_option maxRecDepth 100000 in
theorem bo_Law_refusesAny_8 : ab_chk 125 8 bk_Law_refusesAny_8 = true := by decide +kernel
set_option maxRecDepth 100000 in
theorem bo_Law_refusesAny_9 : ab_chk 125 9 bk_Law_refusesAny_9 = true := by decide +kernel
set_option maxRecDepth 100000 in
theorem bo_Law_refusesAny_18 : ab_chk 125 18 bk_Law_refusesAny_18 = true := by decide +kernel
set_option maxRecDepth 100000 in
theorem bo_Law_refusesAny_23 : ab_chk 125 23 bk_Law_refusesAny_23 = true := by decide +kernel
set_option maxRecDepth 100000 in
theorem bo_Law_refusesAny_32 : ab_chk 125 32 bk_Law_refusesAny_32 = true := by decide +kernel
set_option maxRecDepth 100000 in
theorem bo_Law_refusesAny_37 : ab_chk 125 37 bk_Law_refusesAny_37 = true := by decide +kernel
set_option maxRecDepth 100000 in
theorem bo_Law_refusesAny_47 : ab_chk 125 47 bk_Law_refusesAny_47 = true := by decide +kernel
set_option maxRecDepth 100000 in
theorem bo_Law_refusesAny_48 : ab_chk 125 48 bk_Law_refusesAny_48 = true := by decide +kernel
set_option maxRecDepth 100000 in
theorem bo_Law_refusesAny_60 : ab_chk 125 60 bk_Law_refusesAny_60 = true := by decide +kernel
set_option maxRecDepth 100000 in
theorem bo_Law_refusesAny_63 : ab_chk 125 63 bk_Law_refusesAny_63 = true := by decide +kernel
set_option maxRecDepth 100000 in
theorem bo_Law_refusesAny_74 : ab_chk 125 74 bk_Law_refusesAny_74 = true := by decide +kernel
set_option maxRecDepth 100000 in
theorem bo_Law_refusesAny_76_0 : ab_chk 125 76 bk_Law_refusesAny_76_0 = true := by decide +kernel
set_option maxRecDepth 100000 in
theorem bo_Law_refusesAny_76_1 : ab_chk 125 133 bk_Law_refusesAny_76_1 = true := by decide +kernel
set_option maxRecDepth 100000 in
theorem bo_Law_refusesAny_76_2 : ab_chk 125 188 bk_Law_refusesAny_76_2 = true := by decide +kernel
set_option maxRecDepth 100000 in
theorem bo_Law_refusesAny_76 : ab_chk 125 76 bk_Law_refusesAny_76 = true := (ab_chk_app (pc2 := 133) bo_Law_refusesAny_76_0 rfl (ab_chk_app (pc2 := 188) bo_Law_refusesAny_76_1 rfl bo_Law_refusesAny_76_2))
set_option maxRecDepth 100000 in
theorem bo_Law_refusesAny_240 : ab_chk 125 240 bk_Law_refusesAny_240 = true := by decide +kernel
set_option maxRecDepth 100000 in
theorem bo_Law_refusesAny_242_0 : ab_chk 125 242 bk_Law_refusesAny_242_0 = true := by decide +kernel
set_option maxRecDepth 100000 in
theorem bo_Law_refusesAny_242_1 : ab_chk 125 296 bk_Law_refusesAny_242_1 = true := by decide +kernel
set_option maxRecDepth 100000 in
theorem bo_Law_refusesAny_242 : ab_chk 125 242 bk_Law_refusesAny_242 = true := (ab_chk_app (pc2 := 296) bo_Law_refusesAny_242_0 rfl bo_Law_refusesAny_242_1)
set_option maxRecDepth 100000 in
theorem bo_Law_refusesAny_325 : ab_chk 125 325 bk_Law_refusesAny_325 = true := by decide +kernel
set_option maxRecDepth 100000 in
theorem bo_Law_refusesAny_328 : ab_chk 125 328 bk_Law_refusesAny_328 = true := by decide +kernel
set_option maxRecDepth 100000 in
theorem bo_Law_refusesAny_373 : ab_chk 125 373 bk_Law_refusesAny_373 = true := by decide +kernel
set_option maxRecDepth 100000 in
theorem bo_Law_refusesAny_374 : ab_chk 125 374 bk_Law_refusesAny_374 = true := by decide +kernel
set_option maxRecDepth 100000 in
theorem bo_Law_refusesAny_404 : ab_chk 125 404 bk_Law_refusesAny_404 = true := by decide +kernel
set_option maxRecDepth 100000 in
theorem bo_Law_refusesAny_405 : ab_chk 125 405 bk_Law_refusesAny_405 = true := by decide +kernel
set_option maxRecDepth 100000 in
theorem bo_Law_refusesAny_447 : ab_chk 125 447 bk_Law_refusesAny_447 = true := by decide +kernel
set_option maxRecDepth 100000 in
theorem bo_Law_refusesAny_449 : ab_chk 125 449 bk_Law_refusesAny_449 = true := by decide +kernel
set_option maxRecDepth 100000 in
theorem bo_Law_refusesAny_470 : ab_chk 125 470 bk_Law_refusesAny_470 = true := by decide +kernel
set_option maxRecDepth 100000 in
theorem bo_Law_refusesAny_472 : ab_chk 125 472 bk_Law_refusesAny_472 = true := by decide +kernel
set_option maxRecDepth 100000 in
theorem bo_Law_refusesAny_501 : ab_chk 125 501 bk_Law_refusesAny_501 = true := by decide +kernel
set_option maxRecDepth 100000 in
theorem bo_Law_refusesAny_502_0 : ab_chk 125 502 bk_Law_refusesAny_502_0 = true := by decide +kernel
set_option maxRecDepth 100000 in
theorem bo_Law_refusesAny_502_1 : ab_chk 125 555 bk_Law_refusesAny_502_1 = true := by decide +kernel
set_option maxRecDepth 100000 in
theorem bo_Law_refusesAny_502 : ab_chk 125 502 bk_Law_refusesAny_502 = true := (ab_chk_app (pc2 := 555) bo_Law_refusesAny_502_0 rfl bo_Law_refusesAny_502_1)
set_option maxRecDepth 100000 in
theorem bo_Law_refusesAny_609 : ab_chk 125 609 bk_Law_refusesAny_609 = true := by decide +kernel
set_option maxRecDepth 100000 in
theorem bo_Law_refusesAny_610 : ab_chk 125 610 bk_Law_refusesAny_610 = true := by decide +kernel
set_option maxRecDepth 100000 in
theorem bo_Law_refusesAny_659 : ab_chk 125 659 bk_Law_refusesAny_659 = true := by decide +kernel
set_option maxRecDepth 100000 in
theorem bo_Law_refusesAny_661 : ab_chk 125 661 bk_Law_refusesAny_661 = true := by decide +kernel
set_option maxRecDepth 100000 in
theorem bo_Law_refusesAny_679 : ab_chk 125 679 bk_Law_refusesAny_679 = true := by decide +kernel
set_option maxRecDepth 100000 in
theorem bo_Law_refusesAny_681 : ab_chk 125 681 bk_Law_refusesAny_681 = true := by decide +kernel
set_option maxRecDepth 100000 in
theorem bo_Law_refusesAny_698 : ab_chk 125 698 bk_Law_refusesAny_698 = true := by decide +kernel
set_option maxRecDepth 100000 in
theorem bo_Law_refusesAny_699 : ab_chk 125 699 bk_Law_refusesAny_699 = true := by decide +kernel
set_option maxRecDepth 100000 in
theorem bo_Law_refusesAny_711 : ab_chk 125 711 bk_Law_refusesAny_711 = true := by decide +kernel
set_option maxRecDepth 100000 in
theorem bo_Law_refusesAny_712 : ab_chk 125 712 bk_Law_refusesAny_712 = true := by decide +kernel
set_option maxRecDepth 100000 in
theorem bo_Law_refusesAny : bt_Law_refusesAny.all (fun q => ab_chk 125 q.1 q.2) = true := (ab_all_cons bo_Law_refusesAny_0 (ab_all_cons bo_Law_refusesAny_8 (ab_all_cons bo_Law_refusesAny_9 (ab_all_cons bo_Law_refusesAny_18 (ab_all_cons bo_Law_refusesAny_23 (ab_all_cons bo_Law_refusesAny_32 (ab_all_cons bo_Law_refusesAny_37 (ab_all_cons bo_Law_refusesAny_47 (ab_all_cons bo_Law_refusesAny_48 (ab_all_cons bo_Law_refusesAny_60 (ab_all_cons bo_Law_refusesAny_63 (ab_all_cons bo_Law_refusesAny_74 (ab_all_cons bo_Law_refusesAny_76 (ab_all_cons bo_Law_refusesAny_240 (ab_all_cons bo_Law_refusesAny_242 (ab_all_cons bo_Law_refusesAny_325 (ab_all_cons bo_Law_refusesAny_328 (ab_all_cons bo_Law_refusesAny_373 (ab_all_cons bo_Law_refusesAny_374 (ab_all_cons bo_Law_refusesAny_404 (ab_all_cons bo_Law_refusesAny_405 (ab_all_cons bo_Law_refusesAny_447 (ab_all_cons bo_Law_refusesAny_449 (ab_all_cons bo_Law_refusesAny_470 (ab_all_cons bo_Law_refusesAny_472 (ab_all_cons bo_Law_refusesAny_501 (ab_all_cons bo_Law_refusesAny_502 (ab_all_cons bo_Law_refusesAny_609 (ab_all_cons bo_Law_refusesAny_610 (ab_all_cons bo_Law_refusesAny_659 (ab_all_cons bo_Law_refusesAny_661 (ab_all_cons bo_Law_refusesAny_679 (ab_all_cons bo_Law_refusesAny_681 (ab_all_cons bo_Law_refusesAny_698 (ab_all_cons bo_Law_refusesAny_699 (ab_all_cons bo_Law_refusesAny_711 (ab_all_cons bo_Law_refusesAny_712 rfl)))))))))))))))))))))))))))))))))))))
set_option maxRecDepth 100000 in
theorem bo_Law_refused : bt_Law_refused.all (fun q => ab_chk 126 q.1 q.2) = true := by decide +kernel
set_option maxRecDepth 100000 in
theorem bo_Law_books_0_0 : ab_chk 127 0 bk_Law_books_0_0 = true := by decide +kernel
set_option maxRecDepth 100000 in
theorem bo_Law_books_0_1 : ab_chk 127 59 bk_Law_books_0_1 = true := by decide +kernel
set_option maxRecDepth 100000 in
theorem bo_Law_books_0_2 : ab_chk 127 114 bk_Law_books_0_2 = true := by decide +kernel
set_option maxRecDepth 100000 in
theorem bo_Law_books_0_3 : ab_chk 127 167 bk_Law_books_0_3 = true := by decide +kernel
set_option maxRecDepth 100000 in
theorem bo_Law_books_0_4 : ab_chk 127 221 bk_Law_books_0_4 = true := by decide +kernel
set_option maxRecDepth 100000 in
theorem bo_Law_books_0_5 : ab_chk 127 273 bk_Law_books_0_5 = true := by decide +kernel
set_option maxRecDepth 100000 in
theorem bo_Law_books_0 : ab_chk 127 0 bk_Law_books_0 = true := (ab_chk_app (pc2 := 59) bo_Law_books_0_0 rfl (ab_chk_app (pc2 := 114) bo_Law_books_0_1 rfl (ab_chk_app (pc2 := 167) bo_Law_books_0_2 rfl (ab_chk_app (pc2 := 221) bo_Law_books_0_3 rfl (ab_chk_app (pc2 := 273) bo_Law_books_0_4 rfl bo_Law_books_0_5)))))
set_option maxRecDepth 100000 in
theorem bo_Law_books_285 : ab_chk 127 285 bk_Law_books_285 = true := by decide +kernel
set_option maxRecDepth 100000 in
theorem bo_Law_books_287_0 : ab_chk 127 287 bk_Law_books_287_0 = true := by decide +kernel
set_option maxRecDepth 100000 in
theorem bo_Law_books_287_1 : ab_chk 127 337 bk_Law_books_287_1 = true := by decide +kernel
set_option maxRecDepth 100000 in
theorem bo_Law_books_287_2 : ab_chk 127 390 bk_Law_books_287_2 = true := by decide +kernel
set_option maxRecDepth 100000 in
theorem bo_Law_books_287_3 : ab_chk 127 447 bk_Law_books_287_3 = true := by decide +kernel
set_option maxRecDepth 100000 in
theorem bo_Law_books_287_4 : ab_chk 127 503 bk_Law_books_287_4 = true := by decide +kernel
set_option maxRecDepth 100000 in
theorem bo_Law_books_287_5 : ab_chk 127 552 bk_Law_books_287_5 = true := by decide +kernel
set_option maxRecDepth 100000 in
theorem bo_Law_books_287 : ab_chk 127 287 bk_Law_books_287 = true := (ab_chk_app (pc2 := 337) bo_Law_books_287_0 rfl (ab_chk_app (pc2 := 390) bo_Law_books_287_1 rfl (ab_chk_app (pc2 := 447) bo_Law_books_287_2 rfl (ab_chk_app (pc2 := 503) bo_Law_books_287_3 rfl (ab_chk_app (pc2 := 552) bo_Law_books_287_4 rfl bo_Law_books_287_5)))))
set_option maxRecDepth 100000 in
theorem bo_Law_books_575 : ab_chk 127 575 bk_Law_books_575 = true := by decide +kernel
set_option maxRecDepth 100000 in
theorem bo_Law_books_577_0 : ab_chk 127 577 bk_Law_books_577_0 = true := by decide +kernel
set_option maxRecDepth 100000 in
theorem bo_Law_books_577_1 : ab_chk 127 628 bk_Law_books_577_1 = true := by decide +kernel
set_option maxRecDepth 100000 in
theorem bo_Law_books_577_2 : ab_chk 127 680 bk_Law_books_577_2 = true := by decide +kernel
set_option maxRecDepth 100000 in
theorem bo_Law_books_577_3 : ab_chk 127 731 bk_Law_books_577_3 = true := by decide +kernel
set_option maxRecDepth 100000 in
theorem bo_Law_books_577_4 : ab_chk 127 787 bk_Law_books_577_4 = true := by decide +kernel
set_option maxRecDepth 100000 in
theorem bo_Law_books_577_5 : ab_chk 127 841 bk_Law_books_577_5 = true := by decide +kernel
set_option maxRecDepth 100000 in
theorem bo_Law_books_577 : ab_chk 127 577 bk_Law_books_577 = true := (ab_chk_app (pc2 := 628) bo_Law_books_577_0 rfl (ab_chk_app (pc2 := 680) bo_Law_books_577_1 rfl (ab_chk_app (pc2 := 731) bo_Law_books_577_2 rfl (ab_chk_app (pc2 := 787) bo_Law_books_577_3 rfl (ab_chk_app (pc2 := 841) bo_Law_books_577_4 rfl bo_Law_books_577_5)))))
set_option maxRecDepth 100000 in
theorem bo_Law_books_891 : ab_chk 127 891 bk_Law_books_891 = true := by decide +kernel
set_option maxRecDepth 100000 in
theorem bo_Law_books_893_0 : ab_chk 127 893 bk_Law_books_893_0 = true := by decide +kernel
set_option maxRecDepth 100000 in
theorem bo_Law_books_893_1 : ab_chk 127 950 bk_Law_books_893_1 = true := by decide +kernel
set_option maxRecDepth 100000 in
theorem bo_Law_books_893 : ab_chk 127 893 bk_Law_books_893 = true := (ab_chk_app (pc2 := 950) bo_Law_books_893_0 rfl bo_Law_books_893_1)
set_option maxRecDepth 100000 in
theorem bo_Law_books_997 : ab_chk 127 997 bk_Law_books_997 = true := by decide +kernel
set_option maxRecDepth 100000 in
theorem bo_Law_books_999 : ab_chk 127 999 bk_Law_books_999 = true := by decide +kernel
set_option maxRecDepth 100000 in
theorem bo_Law_books_1001 : ab_chk 127 1001 bk_Law_books_1001 = true := by decide +kernel
set_option maxRecDepth 100000 in
theorem bo_Law_books_1020 : ab_chk 127 1020 bk_Law_books_1020 = true := by decide +kernel
set_option maxRecDepth 100000 in
theorem bo_Law_books_1026_0 : ab_chk 127 1026 bk_Law_books_1026_0 = true := by decide +kernel
set_option maxRecDepth 100000 in
theorem bo_Law_books_1026_1 : ab_chk 127 1079 bk_Law_books_1026_1 = true := by decide +kernel
set_option maxRecDepth 100000 in
theorem bo_Law_books_1026 : ab_chk 127 1026 bk_Law_books_1026 = true := (ab_chk_app (pc2 := 1079) bo_Law_books_1026_0 rfl bo_Law_books_1026_1)
set_option maxRecDepth 100000 in
theorem bo_Law_books_1084 : ab_chk 127 1084 bk_Law_books_1084 = true := by decide +kernel
set_option maxRecDepth 100000 in
theorem bo_Law_books_1086 : ab_chk 127 1086 bk_Law_books_1086 = true := by decide +kernel
set_option maxRecDepth 100000 in
theorem bo_Law_books_1088 : ab_chk 127 1088 bk_Law_books_1088 = true := by decide +kernel
set_option maxRecDepth 100000 in
theorem bo_Law_books_1106 : ab_chk 127 1106 bk_Law_books_1106 = true := by decide +kernel
set_option maxRecDepth 100000 in
theorem bo_Law_books_1112 : ab_chk 127 1112 bk_Law_books_1112 = true := by decide +kernel
set_option maxRecDepth 100000 in
theorem bo_Law_books_1156 : ab_chk 127 1156 bk_Law_books_1156 = true := by decide +kernel
set_option maxRecDepth 100000 in
theorem bo_Law_books_1157 : ab_chk 127 1157 bk_Law_books_1157 = true := by decide +kernel
set_option maxRecDepth 100000 in
theorem bo_Law_books : bt_Law_books.all (fun q => ab_chk 127 q.1 q.2) = true := (ab_all_cons bo_Law_books_0 (ab_all_cons bo_Law_books_285 (ab_all_cons bo_Law_books_287 (ab_all_cons bo_Law_books_575 (ab_all_cons bo_Law_books_577 (ab_all_cons bo_Law_books_891 (ab_all_cons bo_Law_books_893 (ab_all_cons bo_Law_books_997 (ab_all_cons bo_Law_books_999 (ab_all_cons bo_Law_books_1001 (ab_all_cons bo_Law_books_1020 (ab_all_cons bo_Law_books_1026 (ab_all_cons bo_Law_books_1084 (ab_all_cons bo_Law_books_1086 (ab_all_cons bo_Law_books_1088 (ab_all_cons bo_Law_books_1106 (ab_all_cons bo_Law_books_1112 (ab_all_cons bo_Law_books_1156 (ab_all_cons bo_Law_books_1157 rfl)))))))))))))))))))
set_option maxRecDepth 100000 in
theorem bo_Law_types : bt_Law_types.all (fun q => ab_chk 128 q.1 q.2) = true := by decide +kernel
set_option maxRecDepth 100000 in
theorem bo_Law_isFault : bt_Law_isFault.all (fun q => ab_chk 129 q.1 q.2) = true := by decide +kernel
set_option maxRecDepth 100000 in
theorem bo_Law_texts_93 : ab_chk 130 93 bk_Law_texts_93 = true := by decide +kernel
set_option maxRecDepth 100000 in
theorem bo_Law_texts_194 : ab_chk 130 194 bk_Law_texts_194 = true := by decide +kernel
set_option maxRecDepth 100000 in
theorem bo_Law_texts_196_0 : ab_chk 130 196 bk_Law_texts_196_0 = true := by decide +kernel
set_option maxRecDepth 100000 in
theorem bo_Law_texts_196_1 : ab_chk 130 259 bk_Law_texts_196_1 = true := by decide +kernel
set_option maxRecDepth 100000 in
theorem bo_Law_texts_196_2 : ab_chk 130 318 bk_Law_texts_196_2 = true := by decide +kernel
set_option maxRecDepth 100000 in
theorem bo_Law_texts_196_3 : ab_chk 130 377 bk_Law_texts_196_3 = true := by decide +kernel
set_option maxRecDepth 100000 in
theorem bo_Law_texts_196 : ab_chk 130 196 bk_Law_texts_196 = true := (ab_chk_app (pc2 := 259) bo_Law_texts_196_0 rfl (ab_chk_app (pc2 := 318) bo_Law_texts_196_1 rfl (ab_chk_app (pc2 := 377) bo_Law_texts_196_2 rfl bo_Law_texts_196_3)))
set_option maxRecDepth 100000 in
theorem bo_Law_texts_422 : ab_chk 130 422 bk_Law_texts_422 = true := by decide +kernel
set_option maxRecDepth 100000 in
theorem bo_Law_texts_424 : ab_chk 130 424 bk_Law_texts_424 = true := by decide +kernel
set_option maxRecDepth 100000 in
theorem bo_Law_texts_426 : ab_chk 130 426 bk_Law_texts_426 = true := by decide +kernel
set_option maxRecDepth 100000 in
theorem bo_Law_texts_446 : ab_chk 130 446 bk_Law_texts_446 = true := by decide +kernel
set_option maxRecDepth 100000 in
theorem bo_Law_texts_452 : ab_chk 130 452 bk_Law_texts_452 = true := by decide +kernel
set_option maxRecDepth 100000 in
theorem bo_Law_texts_493 : ab_chk 130 493 bk_Law_texts_493 = true := by decide +kernel
set_option maxRecDepth 100000 in
theorem bo_Law_texts_494 : ab_chk 130 494 bk_Law_texts_494 = true := by decide +kernel
set_option maxRecDepth 100000 in
theorem bo_Law_texts : bt_Law_texts.all (fun q => ab_chk 130 q.1 q.2) = true := (ab_all_cons bo_Law_texts_93 (ab_all_cons bo_Law_texts_194 (ab_all_cons bo_Law_texts_196 (ab_all_cons bo_Law_texts_422 (ab_all_cons bo_Law_texts_424 (ab_all_cons bo_Law_texts_426 (ab_all_cons bo_Law_texts_446 (ab_all_cons bo_Law_texts_452 (ab_all_cons bo_Law_texts_493 (ab_all_cons bo_Law_texts_494 rfl))))))))))
def ab_bl (bt : List (Nat × List ab_O)) (pc : Nat) : List ab_O := (bt.lookup pc).getD []
theorem ab_bl_ok {k pc : Nat} {bt : List (Nat × List ab_O)} (hb : bt.all (fun q => ab_chk k q.1 q.2) = true) : ab_chk k pc (ab_bl bt pc) = true := by
  unfold ab_bl
  cases h : bt.lookup pc with
  | none => rfl
  | some os =>
    have h2 := List.all_eq_true.mp hb (pc, os) (by
      obtain ⟨l1, l2, e, -⟩ := List.lookup_eq_some_iff.mp h
      rw [e]; simp)
    exact h2
def ab_rn (d k : Nat) (bt : List (Nat × List ab_O)) (stop : List Nat) (Q : Option Value → ab_H → Prop) : Nat → Nat → ab_K
  | 0, pc, n, bc, bs, ls, st, h => ab_W d k pc n bc bs ls st h Q
  | f + 1, pc, n, bc, bs, ls, st, h => if pc ∈ stop then ab_W d k pc n bc bs ls st h Q else ab_wp d (ab_rn d k bt stop Q f) Q (ab_bl bt pc) n bc bs ls st h
theorem ab_rn_ok {d k : Nat} {bt : List (Nat × List ab_O)} {stop : List Nat} {Q : Option Value → ab_H → Prop} (hb : bt.all (fun q => ab_chk k q.1 q.2) = true) : ∀ (f : Nat) {pc n bc bs : Nat} {ls : List (Option Value)} {st : List Value} {h : ab_H}, ab_rn d k bt stop Q f pc n bc bs ls st h → ab_W d k pc n bc bs ls st h Q
  | 0, _, _, _, _, _, _, _, hw => hw
  | f + 1, pc, n, bc, bs, ls, st, h, hw => by
    unfold ab_rn at hw
    split at hw
    · exact hw
    · exact ab_wp_ok (fun t n bc bs ls st h q => ab_rn_ok hb f q) _ (ab_bl_ok hb) hw
/-- on from a program counter: the blocks are walked until a place of the list 'stop' (or f blocks on) -/
theorem ab_go {d k : Nat} {bt : List (Nat × List ab_O)} (stop : List Nat) (f : Nat) {Q : Option Value → ab_H → Prop} (hb : bt.all (fun q => ab_chk k q.1 q.2) = true) {pc n bc bs : Nat} {ls : List (Option Value)} {st : List Value} {h : ab_H} (hw : ab_wp d (ab_rn d k bt stop Q f) Q (ab_bl bt pc) n bc bs ls st h) : ab_W d k pc n bc bs ls st h Q :=
  ab_wp_ok (fun t n bc bs ls st h q => ab_rn_ok hb f q) _ (ab_bl_ok hb) hw
