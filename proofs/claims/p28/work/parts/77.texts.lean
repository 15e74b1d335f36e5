/-! ===== the law's texts (printed by wip/p28/mk76.py) ===== -/
set_option maxRecDepth 100000 in
theorem dx_0 : decode (ab_cod yn_Law_texts) 0 = .ok (.ldc2_w 123, 3) := by decide +kernel
set_option maxRecDepth 100000 in
theorem dx_3 : decode (ab_cod yn_Law_texts) 3 = .ok (.lconst 0, 1) := by decide +kernel
set_option maxRecDepth 100000 in
theorem dx_4 : decode (ab_cod yn_Law_texts) 4 = .ok (.iconst 0, 1) := by decide +kernel
set_option maxRecDepth 100000 in
theorem dx_5 : decode (ab_cod yn_Law_texts) 5 = .ok (.iconst 1, 1) := by decide +kernel
set_option maxRecDepth 100000 in
theorem dx_6 : decode (ab_cod yn_Law_texts) 6 = .ok (.iconst 0, 1) := by decide +kernel
set_option maxRecDepth 100000 in
theorem dx_7 : decode (ab_cod yn_Law_texts) 7 = .ok (.invokestatic 125, 3) := by decide +kernel
set_option maxRecDepth 100000 in
theorem dx_10 : decode (ab_cod yn_Law_texts) 10 = .ok (.ifCond .eq 83, 3) := by decide +kernel
set_option maxRecDepth 100000 in
theorem dx_13 : decode (ab_cod yn_Law_texts) 13 = .ok (.ldc2_w 129, 3) := by decide +kernel
set_option maxRecDepth 100000 in
theorem dx_16 : decode (ab_cod yn_Law_texts) 16 = .ok (.lconst 0, 1) := by decide +kernel
set_option maxRecDepth 100000 in
theorem dx_17 : decode (ab_cod yn_Law_texts) 17 = .ok (.iconst 0, 1) := by decide +kernel
set_option maxRecDepth 100000 in
theorem dx_18 : decode (ab_cod yn_Law_texts) 18 = .ok (.iconst 1, 1) := by decide +kernel
set_option maxRecDepth 100000 in
theorem dx_19 : decode (ab_cod yn_Law_texts) 19 = .ok (.iconst 1, 1) := by decide +kernel
set_option maxRecDepth 100000 in
theorem dx_20 : decode (ab_cod yn_Law_texts) 20 = .ok (.invokestatic 125, 3) := by decide +kernel
set_option maxRecDepth 100000 in
theorem dx_23 : decode (ab_cod yn_Law_texts) 23 = .ok (.ifCond .eq 70, 3) := by decide +kernel
set_option maxRecDepth 100000 in
theorem dx_26 : decode (ab_cod yn_Law_texts) 26 = .ok (.ldc2_w 131, 3) := by decide +kernel
set_option maxRecDepth 100000 in
theorem dx_29 : decode (ab_cod yn_Law_texts) 29 = .ok (.lconst 0, 1) := by decide +kernel
set_option maxRecDepth 100000 in
theorem dx_30 : decode (ab_cod yn_Law_texts) 30 = .ok (.iconst 0, 1) := by decide +kernel
set_option maxRecDepth 100000 in
theorem dx_31 : decode (ab_cod yn_Law_texts) 31 = .ok (.iconst 1, 1) := by decide +kernel
set_option maxRecDepth 100000 in
theorem dx_32 : decode (ab_cod yn_Law_texts) 32 = .ok (.iconst 2, 1) := by decide +kernel
set_option maxRecDepth 100000 in
theorem dx_33 : decode (ab_cod yn_Law_texts) 33 = .ok (.invokestatic 125, 3) := by decide +kernel
set_option maxRecDepth 100000 in
theorem dx_36 : decode (ab_cod yn_Law_texts) 36 = .ok (.ifCond .eq 57, 3) := by decide +kernel
set_option maxRecDepth 100000 in
theorem dx_39 : decode (ab_cod yn_Law_texts) 39 = .ok (.ldc2_w 133, 3) := by decide +kernel
set_option maxRecDepth 100000 in
theorem dx_42 : decode (ab_cod yn_Law_texts) 42 = .ok (.lconst 0, 1) := by decide +kernel
set_option maxRecDepth 100000 in
theorem dx_43 : decode (ab_cod yn_Law_texts) 43 = .ok (.iconst 3, 1) := by decide +kernel
set_option maxRecDepth 100000 in
theorem dx_44 : decode (ab_cod yn_Law_texts) 44 = .ok (.iconst 1, 1) := by decide +kernel
set_option maxRecDepth 100000 in
theorem dx_45 : decode (ab_cod yn_Law_texts) 45 = .ok (.iconst 1, 1) := by decide +kernel
set_option maxRecDepth 100000 in
theorem dx_46 : decode (ab_cod yn_Law_texts) 46 = .ok (.invokestatic 125, 3) := by decide +kernel
set_option maxRecDepth 100000 in
theorem dx_49 : decode (ab_cod yn_Law_texts) 49 = .ok (.ifCond .eq 44, 3) := by decide +kernel
set_option maxRecDepth 100000 in
theorem dx_52 : decode (ab_cod yn_Law_texts) 52 = .ok (.ldc2_w 135, 3) := by decide +kernel
set_option maxRecDepth 100000 in
theorem dx_55 : decode (ab_cod yn_Law_texts) 55 = .ok (.lconst 0, 1) := by decide +kernel
set_option maxRecDepth 100000 in
theorem dx_56 : decode (ab_cod yn_Law_texts) 56 = .ok (.iconst 0, 1) := by decide +kernel
set_option maxRecDepth 100000 in
theorem dx_57 : decode (ab_cod yn_Law_texts) 57 = .ok (.iconst 1, 1) := by decide +kernel
set_option maxRecDepth 100000 in
theorem dx_58 : decode (ab_cod yn_Law_texts) 58 = .ok (.iconst 3, 1) := by decide +kernel
set_option maxRecDepth 100000 in
theorem dx_59 : decode (ab_cod yn_Law_texts) 59 = .ok (.invokestatic 125, 3) := by decide +kernel
set_option maxRecDepth 100000 in
theorem dx_62 : decode (ab_cod yn_Law_texts) 62 = .ok (.ifCond .eq 31, 3) := by decide +kernel
set_option maxRecDepth 100000 in
theorem dx_65 : decode (ab_cod yn_Law_texts) 65 = .ok (.ldc2_w 137, 3) := by decide +kernel
set_option maxRecDepth 100000 in
theorem dx_68 : decode (ab_cod yn_Law_texts) 68 = .ok (.lconst 0, 1) := by decide +kernel
set_option maxRecDepth 100000 in
theorem dx_69 : decode (ab_cod yn_Law_texts) 69 = .ok (.iconst 0, 1) := by decide +kernel
set_option maxRecDepth 100000 in
theorem dx_70 : decode (ab_cod yn_Law_texts) 70 = .ok (.iconst 2, 1) := by decide +kernel
set_option maxRecDepth 100000 in
theorem dx_71 : decode (ab_cod yn_Law_texts) 71 = .ok (.ldc 38, 2) := by decide +kernel
set_option maxRecDepth 100000 in
theorem dx_73 : decode (ab_cod yn_Law_texts) 73 = .ok (.invokestatic 125, 3) := by decide +kernel
set_option maxRecDepth 100000 in
theorem dx_76 : decode (ab_cod yn_Law_texts) 76 = .ok (.ifCond .eq 17, 3) := by decide +kernel
set_option maxRecDepth 100000 in
theorem dx_79 : decode (ab_cod yn_Law_texts) 79 = .ok (.ldc2_w 139, 3) := by decide +kernel
set_option maxRecDepth 100000 in
theorem dx_82 : decode (ab_cod yn_Law_texts) 82 = .ok (.lconst 0, 1) := by decide +kernel
set_option maxRecDepth 100000 in
theorem dx_83 : decode (ab_cod yn_Law_texts) 83 = .ok (.iconst 0, 1) := by decide +kernel
set_option maxRecDepth 100000 in
theorem dx_84 : decode (ab_cod yn_Law_texts) 84 = .ok (.iconst 2, 1) := by decide +kernel
set_option maxRecDepth 100000 in
theorem dx_85 : decode (ab_cod yn_Law_texts) 85 = .ok (.ldc 38, 2) := by decide +kernel
set_option maxRecDepth 100000 in
theorem dx_87 : decode (ab_cod yn_Law_texts) 87 = .ok (.invokestatic 125, 3) := by decide +kernel
set_option maxRecDepth 100000 in
theorem dx_90 : decode (ab_cod yn_Law_texts) 90 = .ok (.ifCond .ne 5, 3) := by decide +kernel
set_option maxRecDepth 100000 in
theorem dx_95 : decode (ab_cod yn_Law_texts) 95 = .ok (.ldc2_w 141, 3) := by decide +kernel
set_option maxRecDepth 100000 in
theorem dx_98 : decode (ab_cod yn_Law_texts) 98 = .ok (.ldc2_w 143, 3) := by decide +kernel
set_option maxRecDepth 100000 in
theorem dx_101 : decode (ab_cod yn_Law_texts) 101 = .ok (.iconst 3, 1) := by decide +kernel
set_option maxRecDepth 100000 in
theorem dx_102 : decode (ab_cod yn_Law_texts) 102 = .ok (.iconst 2, 1) := by decide +kernel
set_option maxRecDepth 100000 in
theorem dx_103 : decode (ab_cod yn_Law_texts) 103 = .ok (.ldc 38, 2) := by decide +kernel
set_option maxRecDepth 100000 in
theorem dx_105 : decode (ab_cod yn_Law_texts) 105 = .ok (.invokestatic 125, 3) := by decide +kernel
set_option maxRecDepth 100000 in
theorem dx_108 : decode (ab_cod yn_Law_texts) 108 = .ok (.ifCond .eq 86, 3) := by decide +kernel
set_option maxRecDepth 100000 in
theorem dx_111 : decode (ab_cod yn_Law_texts) 111 = .ok (.ldc2_w 145, 3) := by decide +kernel
set_option maxRecDepth 100000 in
theorem dx_114 : decode (ab_cod yn_Law_texts) 114 = .ok (.lconst 0, 1) := by decide +kernel
set_option maxRecDepth 100000 in
theorem dx_115 : decode (ab_cod yn_Law_texts) 115 = .ok (.iconst 3, 1) := by decide +kernel
set_option maxRecDepth 100000 in
theorem dx_116 : decode (ab_cod yn_Law_texts) 116 = .ok (.iconst 1, 1) := by decide +kernel
set_option maxRecDepth 100000 in
theorem dx_117 : decode (ab_cod yn_Law_texts) 117 = .ok (.iconst 2, 1) := by decide +kernel
set_option maxRecDepth 100000 in
theorem dx_118 : decode (ab_cod yn_Law_texts) 118 = .ok (.invokestatic 125, 3) := by decide +kernel
set_option maxRecDepth 100000 in
theorem dx_121 : decode (ab_cod yn_Law_texts) 121 = .ok (.ifCond .eq 73, 3) := by decide +kernel
set_option maxRecDepth 100000 in
theorem dx_124 : decode (ab_cod yn_Law_texts) 124 = .ok (.ldc2_w 147, 3) := by decide +kernel
set_option maxRecDepth 100000 in
theorem dx_127 : decode (ab_cod yn_Law_texts) 127 = .ok (.lconst 0, 1) := by decide +kernel
set_option maxRecDepth 100000 in
theorem dx_128 : decode (ab_cod yn_Law_texts) 128 = .ok (.iconst 3, 1) := by decide +kernel
set_option maxRecDepth 100000 in
theorem dx_129 : decode (ab_cod yn_Law_texts) 129 = .ok (.iconst 2, 1) := by decide +kernel
set_option maxRecDepth 100000 in
theorem dx_130 : decode (ab_cod yn_Law_texts) 130 = .ok (.ldc 54, 2) := by decide +kernel
set_option maxRecDepth 100000 in
theorem dx_132 : decode (ab_cod yn_Law_texts) 132 = .ok (.invokestatic 125, 3) := by decide +kernel
set_option maxRecDepth 100000 in
theorem dx_135 : decode (ab_cod yn_Law_texts) 135 = .ok (.ifCond .eq 59, 3) := by decide +kernel
set_option maxRecDepth 100000 in
theorem dx_138 : decode (ab_cod yn_Law_texts) 138 = .ok (.ldc2_w 149, 3) := by decide +kernel
set_option maxRecDepth 100000 in
theorem dx_141 : decode (ab_cod yn_Law_texts) 141 = .ok (.lconst 0, 1) := by decide +kernel
set_option maxRecDepth 100000 in
theorem dx_142 : decode (ab_cod yn_Law_texts) 142 = .ok (.iconst 0, 1) := by decide +kernel
set_option maxRecDepth 100000 in
theorem dx_143 : decode (ab_cod yn_Law_texts) 143 = .ok (.iconst 1, 1) := by decide +kernel
set_option maxRecDepth 100000 in
theorem dx_144 : decode (ab_cod yn_Law_texts) 144 = .ok (.iconst 0, 1) := by decide +kernel
set_option maxRecDepth 100000 in
theorem dx_145 : decode (ab_cod yn_Law_texts) 145 = .ok (.invokestatic 125, 3) := by decide +kernel
set_option maxRecDepth 100000 in
theorem dx_148 : decode (ab_cod yn_Law_texts) 148 = .ok (.ifCond .eq 46, 3) := by decide +kernel
set_option maxRecDepth 100000 in
theorem dx_151 : decode (ab_cod yn_Law_texts) 151 = .ok (.ldc2_w 151, 3) := by decide +kernel
set_option maxRecDepth 100000 in
theorem dx_154 : decode (ab_cod yn_Law_texts) 154 = .ok (.lconst 0, 1) := by decide +kernel
set_option maxRecDepth 100000 in
theorem dx_155 : decode (ab_cod yn_Law_texts) 155 = .ok (.iconst 0, 1) := by decide +kernel
set_option maxRecDepth 100000 in
theorem dx_156 : decode (ab_cod yn_Law_texts) 156 = .ok (.iconst 1, 1) := by decide +kernel
set_option maxRecDepth 100000 in
theorem dx_157 : decode (ab_cod yn_Law_texts) 157 = .ok (.iconst 4, 1) := by decide +kernel
set_option maxRecDepth 100000 in
theorem dx_158 : decode (ab_cod yn_Law_texts) 158 = .ok (.invokestatic 125, 3) := by decide +kernel
set_option maxRecDepth 100000 in
theorem dx_161 : decode (ab_cod yn_Law_texts) 161 = .ok (.ifCond .eq 33, 3) := by decide +kernel
set_option maxRecDepth 100000 in
theorem dx_164 : decode (ab_cod yn_Law_texts) 164 = .ok (.ldc2_w 153, 3) := by decide +kernel
set_option maxRecDepth 100000 in
theorem dx_167 : decode (ab_cod yn_Law_texts) 167 = .ok (.ldc2_w 155, 3) := by decide +kernel
set_option maxRecDepth 100000 in
theorem dx_170 : decode (ab_cod yn_Law_texts) 170 = .ok (.bipush 6, 2) := by decide +kernel
set_option maxRecDepth 100000 in
theorem dx_172 : decode (ab_cod yn_Law_texts) 172 = .ok (.iconst 2, 1) := by decide +kernel
set_option maxRecDepth 100000 in
theorem dx_173 : decode (ab_cod yn_Law_texts) 173 = .ok (.ldc 38, 2) := by decide +kernel
set_option maxRecDepth 100000 in
theorem dx_175 : decode (ab_cod yn_Law_texts) 175 = .ok (.invokestatic 125, 3) := by decide +kernel
set_option maxRecDepth 100000 in
theorem dx_178 : decode (ab_cod yn_Law_texts) 178 = .ok (.ifCond .eq 16, 3) := by decide +kernel
set_option maxRecDepth 100000 in
theorem dx_181 : decode (ab_cod yn_Law_texts) 181 = .ok (.ldc2_w 157, 3) := by decide +kernel
set_option maxRecDepth 100000 in
theorem dx_184 : decode (ab_cod yn_Law_texts) 184 = .ok (.lconst 0, 1) := by decide +kernel
set_option maxRecDepth 100000 in
theorem dx_185 : decode (ab_cod yn_Law_texts) 185 = .ok (.iconst 3, 1) := by decide +kernel
set_option maxRecDepth 100000 in
theorem dx_186 : decode (ab_cod yn_Law_texts) 186 = .ok (.iconst 1, 1) := by decide +kernel
set_option maxRecDepth 100000 in
theorem dx_187 : decode (ab_cod yn_Law_texts) 187 = .ok (.iconst 0, 1) := by decide +kernel
set_option maxRecDepth 100000 in
theorem dx_188 : decode (ab_cod yn_Law_texts) 188 = .ok (.invokestatic 125, 3) := by decide +kernel
set_option maxRecDepth 100000 in
theorem dx_191 : decode (ab_cod yn_Law_texts) 191 = .ok (.ifCond .ne 5, 3) := by decide +kernel
theorem dxw_0 : ab_w 782 (.constantLong "FairBooksLaw" 123 (Int64.ofInt 30779)) = true := by decide +kernel
theorem dxw_13 : ab_w 795 (.constantLong "FairBooksLaw" 129 (Int64.ofInt 108)) = true := by decide +kernel
theorem dxw_26 : ab_w 796 (.constantLong "FairBooksLaw" 131 (Int64.ofInt 27696)) = true := by decide +kernel
theorem dxw_39 : ab_w 797 (.constantLong "FairBooksLaw" 133 (Int64.ofInt 1815100268)) = true := by decide +kernel
theorem dxw_52 : ab_w 798 (.constantLong "FairBooksLaw" 135 (Int64.ofInt 464664932411)) = true := by decide +kernel
theorem dxw_65 : ab_w 799 (.constantLong "FairBooksLaw" 137 (Int64.ofInt 7091259)) = true := by decide +kernel
theorem dxw_71 : ab_w 653 (.constant "FairBooksLaw" 38 (Int32.ofInt (-1000001))) = true := by decide +kernel
theorem dxw_79 : ab_w 800 (.constantLong "FairBooksLaw" 139 (Int64.ofInt 32422588666622011)) = true := by decide +kernel
theorem dxw_85 : ab_w 653 (.constant "FairBooksLaw" 38 (Int32.ofInt (-1000001))) = true := by decide +kernel
theorem dxw_95 : ab_w 801 (.constantLong "FairBooksLaw" 141 (Int64.ofInt 7795796320893808684)) = true := by decide +kernel
theorem dxw_98 : ab_w 802 (.constantLong "FairBooksLaw" 143 (Int64.ofInt 12347)) = true := by decide +kernel
theorem dxw_103 : ab_w 653 (.constant "FairBooksLaw" 38 (Int32.ofInt (-1000001))) = true := by decide +kernel
theorem dxw_111 : ab_w 803 (.constantLong "FairBooksLaw" 145 (Int64.ofInt 464665669424)) = true := by decide +kernel
theorem dxw_124 : ab_w 804 (.constantLong "FairBooksLaw" 147 (Int64.ofInt 7795796325188775995)) = true := by decide +kernel
theorem dxw_130 : ab_w 654 (.constant "FairBooksLaw" 54 (Int32.ofInt (-1000002))) = true := by decide +kernel
theorem dxw_138 : ab_w 805 (.constantLong "FairBooksLaw" 149 (Int64.ofInt 32)) = true := by decide +kernel
theorem dxw_151 : ab_w 806 (.constantLong "FairBooksLaw" 151 (Int64.ofInt 430304931899)) = true := by decide +kernel
theorem dxw_164 : ab_w 807 (.constantLong "FairBooksLaw" 153 (Int64.ofInt 7796077765806748721)) = true := by decide +kernel
theorem dxw_167 : ab_w 808 (.constantLong "FairBooksLaw" 155 (Int64.ofInt 2896443)) = true := by decide +kernel
theorem dxw_173 : ab_w 653 (.constant "FairBooksLaw" 38 (Int32.ofInt (-1000001))) = true := by decide +kernel
theorem dxw_181 : ab_w 809 (.constantLong "FairBooksLaw" 157 (Int64.ofInt 1815100219)) = true := by decide +kernel
theorem dx_ck : gx_ckS 125 yn_Law_isFault 5 783 784 8 = true := by decide +kernel
theorem mc_t : ab_mc yn_Law_texts = 2880 ∧ ab_ms yn_Law_texts = 59415 ∧ ab_ml yn_Law_texts = 2 := by decide +kernel
def tx_Pc (D : va_G) (cA : ClassId) (base : Nat) : Array Value → State → Prop := fun a U => a = #[] ∧ U.heap.size = base ∧ va_K D vwCl [(cA, .int)] U ∧ ∀ w ∈ ab_nw, va_Nw w U
def tx_Qc (base : Nat) : Array Value → State → Outcome → State → Prop := fun _ st o t => o = .returned (some (.int 1)) ∧ st.heap.size ≤ t.heap.size ∧ ∀ q, q < base → t.heap[q]? = st.heap[q]?
def tx_ws : List Jvm.Cond := .code (ab_yn yn_Law_texts) (ab_cod yn_Law_texts) (ab_ml yn_Law_texts) (ab_rt yn_Law_texts) :: ab_Tg
def tx_rm : Room := { frames := 11, cells := 2880, slots := 59415, locals := 440 }
set_option maxHeartbeats 4000000 in
set_option maxRecDepth 100000 in
theorem sp_Law_texts (l : Launch) (D : va_G) (cA : ClassId) (base : Nat) : Met l (ab_yn yn_Law_texts) tx_ws tx_rm (tx_Pc D cA base) (tx_Qc base) 2880 59415 (fun q => base ≤ q) := by
  obtain ⟨y1, y2, y3, y4, y5⟩ := ab_yok (y := yn_Law_texts) ⟨by decide, by decide⟩
  refine ab_ofW (cc := ab_cod yn_Law_texts) (maxL := ab_ml yn_Law_texts) (ret := ab_rt yn_Law_texts) y2 rfl ?_
  intro p e s m args below meth c s₁ B hml hv
  obtain ⟨rfl, hbase, hK, hnw⟩ := hv
  have hts : ∀ w ∈ ab_Tg, w.before #[] s = true := fun w hw => atoms_spec (ws := tx_ws) B.pre w (List.mem_cons_of_mem _ hw)
  have hown : s.vm.findClass "FairBooksLaw" = some m.cls := findClass_of_methodNamed B.named
  have hx1 := B.exec
  have hb1 := B.bytes
  have C : gx_C (ab_cod yn_Law_texts) (ab_ml yn_Law_texts) p s m #[] c D cA := ⟨hx1, hb1, hml, hown, hts, hnw, hK⟩
  have hl := lv_entry ([] : List Value) (n := ab_ml yn_Law_texts) (Nat.zero_le _)
  show W p l e tx_rm s m #[] below meth c s.heap [] 0 0 _ (entryFrame m ([] : List Value).toArray (ab_ml yn_Law_texts))
  rw [lg_entry_eq]
  generalize (lg_sl ([] : List Value) ++ List.replicate (ab_ml yn_Law_texts - (lg_sl ([] : List Value)).length) Slot.unset).toArray = ls at hl ⊢
  have hl : lv_has ls (ab_ml yn_Law_texts) [] := hl
  have S : va_S (fun q => s.heap.size ≤ q) s.heap s.heap [] := va_S.rf
  have hR : 10 + 1 ≤ tx_rm.frames ∧ 40 * 10 + 39 ≤ tx_rm.locals := ⟨by decide, by decide⟩
  have n10 : ¬ (1 : Int32) = 0 := by decide
  obtain ⟨h0, -⟩ : ∃ h0 : ab_H, True := ⟨(fun _ _ => 0, fun _ _ => 0), trivial⟩
  refine lv_ldc2 hx1 hb1 hown (hts _ (ab_w_in dxw_0)) dx_0 ?_
  refine lv_lconst (v := Int64.ofInt 0) hx1 hb1 dx_3 rfl ?_
  refine lv_iconst (v := Int32.ofInt 0) hx1 hb1 dx_4 rfl ?_
  refine lv_iconst (v := Int32.ofInt 1) hx1 hb1 dx_5 rfl ?_
  refine lv_iconst (v := Int32.ofInt 0) hx1 hb1 dx_6 rfl ?_
  refine gx_S (as := [.long (Int64.ofInt 30779), .long (Int64.ofInt 0), .int (Int32.ofInt 0), .int (Int32.ofInt 1), .int (Int32.ofInt 0)]) (st := []) (xx := 0) (n := 0) (h := h0) (Q2 := fun r _ => r = some (.int 1)) C dx_ck dx_7 (sp_Law_isFault if_0 (fun _ => rfl)) rfl (fun _ => rfl) gx_none S.1 S hl.1 (by decide) hR (by rw [mc_b.2.2.1]; show (_ : Nat) ≤ 2880; omega) (by rw [mc_b.2.2.2]; show (_ : Nat) ≤ 59415; omega) (fun r h' H locs q1 w1 S _ => ?_)
  obtain rfl := q1
  rw [mc_b.2.2.1, mc_b.2.2.2]
  clear w1
  refine lv_if_eq (tgt := 93) hx1 hb1 dx_10 (by decide) (fun q => absurd q n10) (fun _ => ?_)
  refine lv_ldc2 hx1 hb1 hown (hts _ (ab_w_in dxw_13)) dx_13 ?_
  refine lv_lconst (v := Int64.ofInt 0) hx1 hb1 dx_16 rfl ?_
  refine lv_iconst (v := Int32.ofInt 0) hx1 hb1 dx_17 rfl ?_
  refine lv_iconst (v := Int32.ofInt 1) hx1 hb1 dx_18 rfl ?_
  refine lv_iconst (v := Int32.ofInt 1) hx1 hb1 dx_19 rfl ?_
  refine gx_S (as := [.long (Int64.ofInt 108), .long (Int64.ofInt 0), .int (Int32.ofInt 0), .int (Int32.ofInt 1), .int (Int32.ofInt 1)]) (st := []) (xx := 0) (n := 0) (h := h0) (Q2 := fun r _ => r = some (.int 1)) C dx_ck dx_20 (sp_Law_isFault if_1 (fun _ => rfl)) rfl (fun _ => rfl) gx_none S.1 S hl.1 (by decide) hR (by rw [mc_b.2.2.1]; show (_ : Nat) ≤ 2880; omega) (by rw [mc_b.2.2.2]; show (_ : Nat) ≤ 59415; omega) (fun r h' H locs q1 w1 S _ => ?_)
  obtain rfl := q1
  rw [mc_b.2.2.1, mc_b.2.2.2]
  clear w1
  refine lv_if_eq (tgt := 93) hx1 hb1 dx_23 (by decide) (fun q => absurd q n10) (fun _ => ?_)
  refine lv_ldc2 hx1 hb1 hown (hts _ (ab_w_in dxw_26)) dx_26 ?_
  refine lv_lconst (v := Int64.ofInt 0) hx1 hb1 dx_29 rfl ?_
  refine lv_iconst (v := Int32.ofInt 0) hx1 hb1 dx_30 rfl ?_
  refine lv_iconst (v := Int32.ofInt 1) hx1 hb1 dx_31 rfl ?_
  refine lv_iconst (v := Int32.ofInt 2) hx1 hb1 dx_32 rfl ?_
  refine gx_S (as := [.long (Int64.ofInt 27696), .long (Int64.ofInt 0), .int (Int32.ofInt 0), .int (Int32.ofInt 1), .int (Int32.ofInt 2)]) (st := []) (xx := 0) (n := 0) (h := h0) (Q2 := fun r _ => r = some (.int 1)) C dx_ck dx_33 (sp_Law_isFault if_2 (fun _ => rfl)) rfl (fun _ => rfl) gx_none S.1 S hl.1 (by decide) hR (by rw [mc_b.2.2.1]; show (_ : Nat) ≤ 2880; omega) (by rw [mc_b.2.2.2]; show (_ : Nat) ≤ 59415; omega) (fun r h' H locs q1 w1 S _ => ?_)
  obtain rfl := q1
  rw [mc_b.2.2.1, mc_b.2.2.2]
  clear w1
  refine lv_if_eq (tgt := 93) hx1 hb1 dx_36 (by decide) (fun q => absurd q n10) (fun _ => ?_)
  refine lv_ldc2 hx1 hb1 hown (hts _ (ab_w_in dxw_39)) dx_39 ?_
  refine lv_lconst (v := Int64.ofInt 0) hx1 hb1 dx_42 rfl ?_
  refine lv_iconst (v := Int32.ofInt 3) hx1 hb1 dx_43 rfl ?_
  refine lv_iconst (v := Int32.ofInt 1) hx1 hb1 dx_44 rfl ?_
  refine lv_iconst (v := Int32.ofInt 1) hx1 hb1 dx_45 rfl ?_
  refine gx_S (as := [.long (Int64.ofInt 1815100268), .long (Int64.ofInt 0), .int (Int32.ofInt 3), .int (Int32.ofInt 1), .int (Int32.ofInt 1)]) (st := []) (xx := 0) (n := 0) (h := h0) (Q2 := fun r _ => r = some (.int 1)) C dx_ck dx_46 (sp_Law_isFault if_3 (fun _ => rfl)) rfl (fun _ => rfl) gx_none S.1 S hl.1 (by decide) hR (by rw [mc_b.2.2.1]; show (_ : Nat) ≤ 2880; omega) (by rw [mc_b.2.2.2]; show (_ : Nat) ≤ 59415; omega) (fun r h' H locs q1 w1 S _ => ?_)
  obtain rfl := q1
  rw [mc_b.2.2.1, mc_b.2.2.2]
  clear w1
  refine lv_if_eq (tgt := 93) hx1 hb1 dx_49 (by decide) (fun q => absurd q n10) (fun _ => ?_)
  refine lv_ldc2 hx1 hb1 hown (hts _ (ab_w_in dxw_52)) dx_52 ?_
  refine lv_lconst (v := Int64.ofInt 0) hx1 hb1 dx_55 rfl ?_
  refine lv_iconst (v := Int32.ofInt 0) hx1 hb1 dx_56 rfl ?_
  refine lv_iconst (v := Int32.ofInt 1) hx1 hb1 dx_57 rfl ?_
  refine lv_iconst (v := Int32.ofInt 3) hx1 hb1 dx_58 rfl ?_
  refine gx_S (as := [.long (Int64.ofInt 464664932411), .long (Int64.ofInt 0), .int (Int32.ofInt 0), .int (Int32.ofInt 1), .int (Int32.ofInt 3)]) (st := []) (xx := 0) (n := 0) (h := h0) (Q2 := fun r _ => r = some (.int 1)) C dx_ck dx_59 (sp_Law_isFault if_4 (fun _ => rfl)) rfl (fun _ => rfl) gx_none S.1 S hl.1 (by decide) hR (by rw [mc_b.2.2.1]; show (_ : Nat) ≤ 2880; omega) (by rw [mc_b.2.2.2]; show (_ : Nat) ≤ 59415; omega) (fun r h' H locs q1 w1 S _ => ?_)
  obtain rfl := q1
  rw [mc_b.2.2.1, mc_b.2.2.2]
  clear w1
  refine lv_if_eq (tgt := 93) hx1 hb1 dx_62 (by decide) (fun q => absurd q n10) (fun _ => ?_)
  refine lv_ldc2 hx1 hb1 hown (hts _ (ab_w_in dxw_65)) dx_65 ?_
  refine lv_lconst (v := Int64.ofInt 0) hx1 hb1 dx_68 rfl ?_
  refine lv_iconst (v := Int32.ofInt 0) hx1 hb1 dx_69 rfl ?_
  refine lv_iconst (v := Int32.ofInt 2) hx1 hb1 dx_70 rfl ?_
  refine lv_ldc hx1 hb1 hown (hts _ (ab_w_in dxw_71)) dx_71 ?_
  refine gx_S (as := [.long (Int64.ofInt 7091259), .long (Int64.ofInt 0), .int (Int32.ofInt 0), .int (Int32.ofInt 2), .int (Int32.ofInt (-1000001))]) (st := []) (xx := 0) (n := 0) (h := h0) (Q2 := fun r _ => r = some (.int 1)) C dx_ck dx_73 (sp_Law_isFault if_5 (fun _ => rfl)) rfl (fun _ => rfl) gx_none S.1 S hl.1 (by decide) hR (by rw [mc_b.2.2.1]; show (_ : Nat) ≤ 2880; omega) (by rw [mc_b.2.2.2]; show (_ : Nat) ≤ 59415; omega) (fun r h' H locs q1 w1 S _ => ?_)
  obtain rfl := q1
  rw [mc_b.2.2.1, mc_b.2.2.2]
  clear w1
  refine lv_if_eq (tgt := 93) hx1 hb1 dx_76 (by decide) (fun q => absurd q n10) (fun _ => ?_)
  refine lv_ldc2 hx1 hb1 hown (hts _ (ab_w_in dxw_79)) dx_79 ?_
  refine lv_lconst (v := Int64.ofInt 0) hx1 hb1 dx_82 rfl ?_
  refine lv_iconst (v := Int32.ofInt 0) hx1 hb1 dx_83 rfl ?_
  refine lv_iconst (v := Int32.ofInt 2) hx1 hb1 dx_84 rfl ?_
  refine lv_ldc hx1 hb1 hown (hts _ (ab_w_in dxw_85)) dx_85 ?_
  refine gx_S (as := [.long (Int64.ofInt 32422588666622011), .long (Int64.ofInt 0), .int (Int32.ofInt 0), .int (Int32.ofInt 2), .int (Int32.ofInt (-1000001))]) (st := []) (xx := 0) (n := 0) (h := h0) (Q2 := fun r _ => r = some (.int 1)) C dx_ck dx_87 (sp_Law_isFault if_6 (fun _ => rfl)) rfl (fun _ => rfl) gx_none S.1 S hl.1 (by decide) hR (by rw [mc_b.2.2.1]; show (_ : Nat) ≤ 2880; omega) (by rw [mc_b.2.2.2]; show (_ : Nat) ≤ 59415; omega) (fun r h' H locs q1 w1 S _ => ?_)
  obtain rfl := q1
  rw [mc_b.2.2.1, mc_b.2.2.2]
  clear w1
  refine lv_if_ne (tgt := 95) hx1 hb1 dx_90 (by decide) (fun _ => ?_) (fun q => absurd q n10)
  refine lv_ldc2 hx1 hb1 hown (hts _ (ab_w_in dxw_95)) dx_95 ?_
  refine lv_ldc2 hx1 hb1 hown (hts _ (ab_w_in dxw_98)) dx_98 ?_
  refine lv_iconst (v := Int32.ofInt 3) hx1 hb1 dx_101 rfl ?_
  refine lv_iconst (v := Int32.ofInt 2) hx1 hb1 dx_102 rfl ?_
  refine lv_ldc hx1 hb1 hown (hts _ (ab_w_in dxw_103)) dx_103 ?_
  refine gx_S (as := [.long (Int64.ofInt 7795796320893808684), .long (Int64.ofInt 12347), .int (Int32.ofInt 3), .int (Int32.ofInt 2), .int (Int32.ofInt (-1000001))]) (st := []) (xx := 0) (n := 0) (h := h0) (Q2 := fun r _ => r = some (.int 1)) C dx_ck dx_105 (sp_Law_isFault if_7 (fun _ => rfl)) rfl (fun _ => rfl) gx_none S.1 S hl.1 (by decide) hR (by rw [mc_b.2.2.1]; show (_ : Nat) ≤ 2880; omega) (by rw [mc_b.2.2.2]; show (_ : Nat) ≤ 59415; omega) (fun r h' H locs q1 w1 S _ => ?_)
  obtain rfl := q1
  rw [mc_b.2.2.1, mc_b.2.2.2]
  clear w1
  refine lv_if_eq (tgt := 194) hx1 hb1 dx_108 (by decide) (fun q => absurd q n10) (fun _ => ?_)
  refine lv_ldc2 hx1 hb1 hown (hts _ (ab_w_in dxw_111)) dx_111 ?_
  refine lv_lconst (v := Int64.ofInt 0) hx1 hb1 dx_114 rfl ?_
  refine lv_iconst (v := Int32.ofInt 3) hx1 hb1 dx_115 rfl ?_
  refine lv_iconst (v := Int32.ofInt 1) hx1 hb1 dx_116 rfl ?_
  refine lv_iconst (v := Int32.ofInt 2) hx1 hb1 dx_117 rfl ?_
  refine gx_S (as := [.long (Int64.ofInt 464665669424), .long (Int64.ofInt 0), .int (Int32.ofInt 3), .int (Int32.ofInt 1), .int (Int32.ofInt 2)]) (st := []) (xx := 0) (n := 0) (h := h0) (Q2 := fun r _ => r = some (.int 1)) C dx_ck dx_118 (sp_Law_isFault if_8 (fun _ => rfl)) rfl (fun _ => rfl) gx_none S.1 S hl.1 (by decide) hR (by rw [mc_b.2.2.1]; show (_ : Nat) ≤ 2880; omega) (by rw [mc_b.2.2.2]; show (_ : Nat) ≤ 59415; omega) (fun r h' H locs q1 w1 S _ => ?_)
  obtain rfl := q1
  rw [mc_b.2.2.1, mc_b.2.2.2]
  clear w1
  refine lv_if_eq (tgt := 194) hx1 hb1 dx_121 (by decide) (fun q => absurd q n10) (fun _ => ?_)
  refine lv_ldc2 hx1 hb1 hown (hts _ (ab_w_in dxw_124)) dx_124 ?_
  refine lv_lconst (v := Int64.ofInt 0) hx1 hb1 dx_127 rfl ?_
  refine lv_iconst (v := Int32.ofInt 3) hx1 hb1 dx_128 rfl ?_
  refine lv_iconst (v := Int32.ofInt 2) hx1 hb1 dx_129 rfl ?_
  refine lv_ldc hx1 hb1 hown (hts _ (ab_w_in dxw_130)) dx_130 ?_
  refine gx_S (as := [.long (Int64.ofInt 7795796325188775995), .long (Int64.ofInt 0), .int (Int32.ofInt 3), .int (Int32.ofInt 2), .int (Int32.ofInt (-1000002))]) (st := []) (xx := 0) (n := 0) (h := h0) (Q2 := fun r _ => r = some (.int 1)) C dx_ck dx_132 (sp_Law_isFault if_9 (fun _ => rfl)) rfl (fun _ => rfl) gx_none S.1 S hl.1 (by decide) hR (by rw [mc_b.2.2.1]; show (_ : Nat) ≤ 2880; omega) (by rw [mc_b.2.2.2]; show (_ : Nat) ≤ 59415; omega) (fun r h' H locs q1 w1 S _ => ?_)
  obtain rfl := q1
  rw [mc_b.2.2.1, mc_b.2.2.2]
  clear w1
  refine lv_if_eq (tgt := 194) hx1 hb1 dx_135 (by decide) (fun q => absurd q n10) (fun _ => ?_)
  refine lv_ldc2 hx1 hb1 hown (hts _ (ab_w_in dxw_138)) dx_138 ?_
  refine lv_lconst (v := Int64.ofInt 0) hx1 hb1 dx_141 rfl ?_
  refine lv_iconst (v := Int32.ofInt 0) hx1 hb1 dx_142 rfl ?_
  refine lv_iconst (v := Int32.ofInt 1) hx1 hb1 dx_143 rfl ?_
  refine lv_iconst (v := Int32.ofInt 0) hx1 hb1 dx_144 rfl ?_
  refine gx_S (as := [.long (Int64.ofInt 32), .long (Int64.ofInt 0), .int (Int32.ofInt 0), .int (Int32.ofInt 1), .int (Int32.ofInt 0)]) (st := []) (xx := 0) (n := 0) (h := h0) (Q2 := fun r _ => r = some (.int 1)) C dx_ck dx_145 (sp_Law_isFault if_10 (fun _ => rfl)) rfl (fun _ => rfl) gx_none S.1 S hl.1 (by decide) hR (by rw [mc_b.2.2.1]; show (_ : Nat) ≤ 2880; omega) (by rw [mc_b.2.2.2]; show (_ : Nat) ≤ 59415; omega) (fun r h' H locs q1 w1 S _ => ?_)
  obtain rfl := q1
  rw [mc_b.2.2.1, mc_b.2.2.2]
  clear w1
  refine lv_if_eq (tgt := 194) hx1 hb1 dx_148 (by decide) (fun q => absurd q n10) (fun _ => ?_)
  refine lv_ldc2 hx1 hb1 hown (hts _ (ab_w_in dxw_151)) dx_151 ?_
  refine lv_lconst (v := Int64.ofInt 0) hx1 hb1 dx_154 rfl ?_
  refine lv_iconst (v := Int32.ofInt 0) hx1 hb1 dx_155 rfl ?_
  refine lv_iconst (v := Int32.ofInt 1) hx1 hb1 dx_156 rfl ?_
  refine lv_iconst (v := Int32.ofInt 4) hx1 hb1 dx_157 rfl ?_
  refine gx_S (as := [.long (Int64.ofInt 430304931899), .long (Int64.ofInt 0), .int (Int32.ofInt 0), .int (Int32.ofInt 1), .int (Int32.ofInt 4)]) (st := []) (xx := 0) (n := 0) (h := h0) (Q2 := fun r _ => r = some (.int 1)) C dx_ck dx_158 (sp_Law_isFault if_11 (fun _ => rfl)) rfl (fun _ => rfl) gx_none S.1 S hl.1 (by decide) hR (by rw [mc_b.2.2.1]; show (_ : Nat) ≤ 2880; omega) (by rw [mc_b.2.2.2]; show (_ : Nat) ≤ 59415; omega) (fun r h' H locs q1 w1 S _ => ?_)
  obtain rfl := q1
  rw [mc_b.2.2.1, mc_b.2.2.2]
  clear w1
  refine lv_if_eq (tgt := 194) hx1 hb1 dx_161 (by decide) (fun q => absurd q n10) (fun _ => ?_)
  refine lv_ldc2 hx1 hb1 hown (hts _ (ab_w_in dxw_164)) dx_164 ?_
  refine lv_ldc2 hx1 hb1 hown (hts _ (ab_w_in dxw_167)) dx_167 ?_
  refine lv_bipush (v := Int32.ofInt 6) hx1 hb1 dx_170 (by decide) ?_
  refine lv_iconst (v := Int32.ofInt 2) hx1 hb1 dx_172 rfl ?_
  refine lv_ldc hx1 hb1 hown (hts _ (ab_w_in dxw_173)) dx_173 ?_
  refine gx_S (as := [.long (Int64.ofInt 7796077765806748721), .long (Int64.ofInt 2896443), .int (Int32.ofInt 6), .int (Int32.ofInt 2), .int (Int32.ofInt (-1000001))]) (st := []) (xx := 0) (n := 0) (h := h0) (Q2 := fun r _ => r = some (.int 1)) C dx_ck dx_175 (sp_Law_isFault if_12 (fun _ => rfl)) rfl (fun _ => rfl) gx_none S.1 S hl.1 (by decide) hR (by rw [mc_b.2.2.1]; show (_ : Nat) ≤ 2880; omega) (by rw [mc_b.2.2.2]; show (_ : Nat) ≤ 59415; omega) (fun r h' H locs q1 w1 S _ => ?_)
  obtain rfl := q1
  rw [mc_b.2.2.1, mc_b.2.2.2]
  clear w1
  refine lv_if_eq (tgt := 194) hx1 hb1 dx_178 (by decide) (fun q => absurd q n10) (fun _ => ?_)
  refine lv_ldc2 hx1 hb1 hown (hts _ (ab_w_in dxw_181)) dx_181 ?_
  refine lv_lconst (v := Int64.ofInt 0) hx1 hb1 dx_184 rfl ?_
  refine lv_iconst (v := Int32.ofInt 3) hx1 hb1 dx_185 rfl ?_
  refine lv_iconst (v := Int32.ofInt 1) hx1 hb1 dx_186 rfl ?_
  refine lv_iconst (v := Int32.ofInt 0) hx1 hb1 dx_187 rfl ?_
  refine gx_S (as := [.long (Int64.ofInt 1815100219), .long (Int64.ofInt 0), .int (Int32.ofInt 3), .int (Int32.ofInt 1), .int (Int32.ofInt 0)]) (st := []) (xx := 0) (n := 0) (h := h0) (Q2 := fun r _ => r = some (.int 1)) C dx_ck dx_188 (sp_Law_isFault if_13 (fun _ => rfl)) rfl (fun _ => rfl) gx_none S.1 S hl.1 (by decide) hR (by rw [mc_b.2.2.1]; show (_ : Nat) ≤ 2880; omega) (by rw [mc_b.2.2.2]; show (_ : Nat) ≤ 59415; omega) (fun r h' H locs q1 w1 S _ => ?_)
  obtain rfl := q1
  rw [mc_b.2.2.1, mc_b.2.2.2]
  clear w1
  refine lv_if_ne (tgt := 196) hx1 hb1 dx_191 (by decide) (fun _ => ?_) (fun q => absurd q n10)
  refine va_forget (fun q hq => S.2.2 q hq) ?_
  have Cx : ab_Cx 10 yn_Law_texts p tx_rm s m #[] meth c D cA H.size 2880 59415 :=
    ⟨hx1, hb1, B.returns, hml, hown, hts, hnw, B.notSynchronized, (name_of_methodNamed B.named B.method).1, hK, trivial, by decide, by decide, Nat.le_refl _, Nat.le_refl _⟩
  have L : ab_Lv H.size (ab_lo yn_Law_texts) ls (ab_ml yn_Law_texts) [none, none] := by
    refine ⟨hl.1, hl.2.1, fun i v hi => ?_⟩
    match i, hi with
    | 0, hi => cases hi
    | 1, hi => cases hi
    | i + 2, hi => simp [ab_lg] at hi
  have S0 : ab_S H.size s.heap H [] := ⟨S.1, fun q h1 _ => S.2.1 q h1 (by omega), fun q hq => absurd hq List.not_mem_nil⟩
  refine sp_texts_tail (h := h0) (Q := fun r _ => r = some (.int 1)) (fun _ => rfl) p l e tx_rm s m #[] below meth c D cA H.size 2880 59415 H [] _ _ 0 _ ls Cx (fun _ => rfl) (by decide) (by decide) gx_none S0 L ?_
  intro r h' H' locs' cells' slots' pc' ls' hq w' S' hcs hss hr
  subst hq
  obtain ⟨g1, ty, g2, g3⟩ := hr
  refine W.widen (k := 2880) (n := 59415) hcs hss ?_
  refine W.zret (v := 1) B.exec B.bytes (B.returns.trans g2) g3 (fun t ht _ => ⟨rfl, by rw [ht]; exact S'.1, fun q hq => ?_⟩) (fun q hq => ?_) g1 (hlocks := B.notSynchronized)
  · have := (S'.2.2 q hq).1
    have := S.1
    show base ≤ q.base
    omega
  · rw [ht]
    exact S'.2.1 q (by omega) (fun hA => by have := hA.1; have := S.1; omega)
