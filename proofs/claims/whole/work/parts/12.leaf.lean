set_option maxHeartbeats 4000000 in
theorem tt_numberAt {b : Nat} {x : Int32} {h : ab_H} {Q : Option Value → ab_H → Prop} (hb : b < 200) (hs : ab_sh b = 2) (hr : h.2 b 0 = b + 1) (hs1 : ab_sh (b + 1) = 116) (hb1 : b + 1 < 200)
    (hq : Q (some (.int (if ¬ x < 0 ∧ ¬ Int32.ofInt 16 ≤ x then h.1 (b + 1) x.toNatClampNeg else Int32.ofInt (-1)))) h) : ab_W 0 yn_Book_numberAt 0 200 0 0 [some (.ref b), some (.int x)] [] h Q := by
  refine ab_go [] 9 bo_Book_numberAt ?_
  simp only [↓ev_rn, ↓ev_aload_0, ↓ev_aload_0N, ↓ev_arraylength, ↓ev_getfield_1, ↓ev_goto, ↓ev_iaload, ↓ev_icmp_ge, ↓ev_iconst, ↓ev_if_lt, ↓ev_iload_1, ↓ev_ireturn_0, ↓ev_nop, bq_Book_numberAt_0, bk_Book_numberAt_0, bq_Book_numberAt_22, bk_Book_numberAt_22, bq_Book_numberAt_23, bk_Book_numberAt_23]
  trace_state
  simp only [List.not_mem_nil, if_false, ab_ac, ab_ar, hr, hs, hs1]
  trace_state
  sorry
