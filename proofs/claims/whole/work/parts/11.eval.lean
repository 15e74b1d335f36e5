/-! ===== evaluation: rows that unfold the weakest precondition ===== -/
set_option maxHeartbeats 4000000 in
theorem tt_numberAt {b : Nat} {x : Int32} {h : ab_H} {Q : Option Value → ab_H → Prop} (hb : b < 200) (hs : ab_sh b = 2) (hr : h.2 b 0 = b + 1) (hs1 : ab_sh (b + 1) = 116) (hb1 : b + 1 < 200)
    (hq : Q (some (.int (if ¬ x < 0 ∧ ¬ Int32.ofInt 16 ≤ x then h.1 (b + 1) x.toNatClampNeg else Int32.ofInt (-1)))) h) : ab_W 0 yn_Book_numberAt 0 200 0 0 [some (.ref b), some (.int x)] [] h Q := by
  refine ab_go [] 9 bo_Book_numberAt ?_
  simp only [ab_bl, bt_Book_numberAt, List.lookup, ab_wp, ab_rn, bk_Book_numberAt_0, ab_step, ab_lg, ab_oi, ab_or, ab_d0, ab_d1, ab_d2, ab_p1, ab_p2, ab_pr, ab_pa, ab_cb]
  trace_state
  sorry
