/-! ===== the law's helpers, more of them (by program, wip/whole/genhb.py) ===== -/
section Hbs
variable {G : ev_G} {μ μ1 μ' : ev_M}
def hbW3 : List Cond := [Cond.methodLink RL 153 yX10_writeBids, Cond.code yX10_writeBids cX10_writeBids mi_X10_writeBids.2.2.1 mi_X10_writeBids.2.2.2.1, Cond.instanceMethod yX10_writeBids, Cond.selects RX10 yX10_writeBids yX10_writeBids, Cond.methodLink RL 156 yX10_outputByte, Cond.code yX10_outputByte cX10_outputByte mi_X10_outputByte.2.2.1 mi_X10_outputByte.2.2.2.1, Cond.instanceMethod yX10_outputByte, Cond.selects RX10 yX10_outputByte yX10_outputByte, Cond.methodLink RL 159 yX10_bid, Cond.code yX10_bid cX10_bid mi_X10_bid.2.2.1 mi_X10_bid.2.2.2.1, Cond.instanceMethod yX10_bid, Cond.selects RX10 yX10_bid yX10_bid, Cond.methodLink RL 163 yX10_assign, Cond.code yX10_assign cX10_assign mi_X10_assign.2.2.1 mi_X10_assign.2.2.2.1, Cond.instanceMethod yX10_assign, Cond.selects RX10 yX10_assign yX10_assign, Cond.methodLink RL 166 yX10_unassign, Cond.code yX10_unassign cX10_unassign mi_X10_unassign.2.2.1 mi_X10_unassign.2.2.2.1, Cond.instanceMethod yX10_unassign, Cond.selects RX10 yX10_unassign yX10_unassign, Cond.methodLink RL 169 yX10_fill, Cond.code yX10_fill cX10_fill mi_X10_fill.2.2.1 mi_X10_fill.2.2.2.1, Cond.instanceMethod yX10_fill, Cond.selects RX10 yX10_fill yX10_fill, Cond.methodLink RL 172 yX10_score, Cond.code yX10_score cX10_score mi_X10_score.2.2.1 mi_X10_score.2.2.2.1, Cond.instanceMethod yX10_score, Cond.selects RX10 yX10_score yX10_score, Cond.methodLink RL 175 yX10_talk, Cond.code yX10_talk cX10_talk mi_X10_talk.2.2.1 mi_X10_talk.2.2.2.1, Cond.instanceMethod yX10_talk, Cond.selects RX10 yX10_talk yX10_talk, Cond.methodLink RL 178 yX10_declare, Cond.code yX10_declare cX10_declare mi_X10_declare.2.2.1 mi_X10_declare.2.2.2.1, Cond.instanceMethod yX10_declare, Cond.selects RX10 yX10_declare yX10_declare, Cond.methodLink RL 182 yX10_undo, Cond.code yX10_undo cX10_undo mi_X10_undo.2.2.1 mi_X10_undo.2.2.2.1, Cond.instanceMethod yX10_undo, Cond.selects RX10 yX10_undo yX10_undo, Cond.methodLink RL 185 yX10_saveState, Cond.code yX10_saveState cX10_saveState mi_X10_saveState.2.2.1 mi_X10_saveState.2.2.2.1, Cond.instanceMethod yX10_saveState, Cond.selects RX10 yX10_saveState yX10_saveState, Cond.methodLink RL 188 yX10_restoreState, Cond.code yX10_restoreState cX10_restoreState mi_X10_restoreState.2.2.1 mi_X10_restoreState.2.2.2.1, Cond.instanceMethod yX10_restoreState, Cond.selects RX10 yX10_restoreState yX10_restoreState]
theorem hbW3_t : hbW3.all (fun w => decide (w ∈ tables_1)) = true := by decide +kernel
theorem hbW3_g : hbW3.all ev_gw = true := by decide +kernel
theorem hbW3_w {w : Cond} (h : w ∈ hbW3) : w ∈ ev_wd := wd_t (of_decide_eq_true (List.all_eq_true.mp hbW3_t w h)) (List.all_eq_true.mp hbW3_g w h)
theorem hbW3_i {w : Cond} (i : Nat) (h : hbW3[i]? = some w) : w ∈ ev_wd := hbW3_w (List.mem_of_getElem? h)
abbrev hy_writeBids : ev_Mi := (yL_writeBids, cL_writeBids, 4, some .int, mi_X10_writeBids.2.2.2.2 + 1)
abbrev hh_writeBids : List (Nat × Nat × Nat × Nat) := [(0, 9, 12, 21), (0, 9, 15, 13)]
theorem hd_writeBids : decode cL_writeBids 0 = .ok (.aload_n 2, 1) ∧ decode cL_writeBids 1 = .ok (.iconst 0, 1) ∧ decode cL_writeBids 2 = .ok (.aload_n 0, 1) ∧ decode cL_writeBids 3 = .ok (.iload_n 1, 1) := by decide +kernel
theorem he_writeBids : decode cL_writeBids 4 = .ok (.invokevirtual 153, 3) ∧ decode cL_writeBids 7 = .ok (.i2l, 1) ∧ decode cL_writeBids 8 = .ok (.lastore, 1) ∧ decode cL_writeBids 9 = .ok (.goto 9, 3) ∧ decode cL_writeBids 18 = .ok (.iconst 0, 1) ∧ decode cL_writeBids 19 = .ok (.ireturn, 1) := by decide +kernel
theorem hw_writeBids : eh_ok RL 153 1 mi_X10_writeBids ∧ Cond.instanceMethod yX10_writeBids ∈ ev_wd ∧ Cond.selects RX10 yX10_writeBids yX10_writeBids ∈ ev_wd := ⟨⟨hbW3_i 0 rfl, wd_i, hbW3_i 1 rfl, Nat.le_of_ble_eq_true rfl, by decide +kernel⟩, hbW3_i 2 rfl, hbW3_i 3 rfl⟩
theorem hc_writeBids_0 : hb_h hy_writeBids 12 1 := Or.inl ⟨3, by decide, by decide +kernel, by decide +kernel, by decide +kernel⟩
theorem hc_writeBids_1 : hb_h hy_writeBids 15 2 := Or.inl ⟨3, by decide, by decide +kernel, by decide +kernel, by decide +kernel⟩
theorem hE_writeBids : ∀ E ∈ [eI, eO], ∃ h j, hb_x hh_writeBids 4 E h ∧ hb_h hy_writeBids h j ∧ nI (hbi [eI, eO] E) = Int32.ofInt j := by
  intro E hE
  simp only [List.mem_cons, List.not_mem_nil, or_false] at hE
  rcases hE with rfl | rfl
  · exact ⟨12, 1, hbx_1 (by decide) (by decide) cl_21, hc_writeBids_0, hn_1⟩
  · exact ⟨15, 2, hbx_2 (by decide) (by decide) cl_13 (by decide) hme_I ne_OI cl_21, hc_writeBids_1, hn_2 ne_OI⟩
theorem hb_writeBids (hok : ev_ok sh_S G) (hnc : NCs G) (a : Int32) {res' : ev_R} (hT : ev_T sh_S G mi_X10_writeBids (.ref 0 :: [.int a]) μ res') (hv : (∃ v μ1, res' = .inl (some (.int v), μ1)) ∨ ∃ E μ1, res' = .inr (E, μ1) ∧ E ∈ [eI, eO]) : hb_T G hy_writeBids hh_writeBids [.ref 0, .int a, .ref 310] μ (hbn [eI, eO] res') (hbm res') := by
  obtain ⟨d0, d1, d2, d3⟩ := hd_writeBids
  refine HL_T rfl rfl hok (Nat.le_of_ble_eq_true rfl) ?_
  refine HL_al d0 (a := 310) rfl ?_
  refine HL_icv d1 (v := 0) rfl ?_
  refine HL_al d2 (a := 0) rfl ?_
  refine HL_il d3 (a := a) rfl ?_
  exact hb_A (As := [.int a]) hnc hw_writeBids rfl (Nat.lt_succ_self _) (t := 18) he_writeBids (by decide) sb_IO hE_writeBids hT hv
abbrev hy_outputByte : ev_Mi := (yL_outputByte, cL_outputByte, 4, some .int, mi_X10_outputByte.2.2.2.2 + 1)
abbrev hh_outputByte : List (Nat × Nat × Nat × Nat) := [(0, 9, 12, 13)]
theorem hd_outputByte : decode cL_outputByte 0 = .ok (.aload_n 2, 1) ∧ decode cL_outputByte 1 = .ok (.iconst 0, 1) ∧ decode cL_outputByte 2 = .ok (.aload_n 0, 1) ∧ decode cL_outputByte 3 = .ok (.iload_n 1, 1) := by decide +kernel
theorem he_outputByte : decode cL_outputByte 4 = .ok (.invokevirtual 156, 3) ∧ decode cL_outputByte 7 = .ok (.i2l, 1) ∧ decode cL_outputByte 8 = .ok (.lastore, 1) ∧ decode cL_outputByte 9 = .ok (.goto 6, 3) ∧ decode cL_outputByte 15 = .ok (.iconst 0, 1) ∧ decode cL_outputByte 16 = .ok (.ireturn, 1) := by decide +kernel
theorem hw_outputByte : eh_ok RL 156 1 mi_X10_outputByte ∧ Cond.instanceMethod yX10_outputByte ∈ ev_wd ∧ Cond.selects RX10 yX10_outputByte yX10_outputByte ∈ ev_wd := ⟨⟨hbW3_i 4 rfl, wd_i, hbW3_i 5 rfl, Nat.le_of_ble_eq_true rfl, by decide +kernel⟩, hbW3_i 6 rfl, hbW3_i 7 rfl⟩
theorem hc_outputByte_0 : hb_h hy_outputByte 12 1 := Or.inl ⟨3, by decide, by decide +kernel, by decide +kernel, by decide +kernel⟩
theorem hE_outputByte : ∀ E ∈ [eO], ∃ h j, hb_x hh_outputByte 4 E h ∧ hb_h hy_outputByte h j ∧ nI (hbi [eO] E) = Int32.ofInt j := by
  intro E hE
  simp only [List.mem_cons, List.not_mem_nil, or_false] at hE
  subst hE
  exact ⟨12, 1, hbx_1 (by decide) (by decide) cl_13, hc_outputByte_0, hn_1⟩
theorem hb_outputByte (hok : ev_ok sh_S G) (hnc : NCs G) (a : Int32) {res' : ev_R} (hT : ev_T sh_S G mi_X10_outputByte (.ref 0 :: [.int a]) μ res') (hv : (∃ v μ1, res' = .inl (some (.int v), μ1)) ∨ ∃ E μ1, res' = .inr (E, μ1) ∧ E ∈ [eO]) : hb_T G hy_outputByte hh_outputByte [.ref 0, .int a, .ref 310] μ (hbn [eO] res') (hbm res') := by
  obtain ⟨d0, d1, d2, d3⟩ := hd_outputByte
  refine HL_T rfl rfl hok (Nat.le_of_ble_eq_true rfl) ?_
  refine HL_al d0 (a := 310) rfl ?_
  refine HL_icv d1 (v := 0) rfl ?_
  refine HL_al d2 (a := 0) rfl ?_
  refine HL_il d3 (a := a) rfl ?_
  exact hb_A (As := [.int a]) hnc hw_outputByte rfl (Nat.lt_succ_self _) (t := 15) he_outputByte (by decide) sb_O hE_outputByte hT hv
abbrev hy_bid : ev_Mi := (yL_bid, cL_bid, 6, some .int, mi_X10_bid.2.2.2.2 + 1)
abbrev hh_bid : List (Nat × Nat × Nat × Nat) := [(0, 12, 15, 21), (0, 12, 19, 13), (0, 12, 23, 15)]
theorem hd_bid : decode cL_bid 0 = .ok (.aload 4, 2) ∧ decode cL_bid 2 = .ok (.iconst 0, 1) ∧ decode cL_bid 3 = .ok (.aload_n 0, 1) ∧ decode cL_bid 4 = .ok (.iload_n 1, 1) ∧ decode cL_bid 5 = .ok (.iload_n 2, 1) ∧ decode cL_bid 6 = .ok (.iload_n 3, 1) := by decide +kernel
theorem he_bid : decode cL_bid 7 = .ok (.invokevirtual 159, 3) ∧ decode cL_bid 10 = .ok (.i2l, 1) ∧ decode cL_bid 11 = .ok (.lastore, 1) ∧ decode cL_bid 12 = .ok (.goto 15, 3) ∧ decode cL_bid 27 = .ok (.iconst 0, 1) ∧ decode cL_bid 28 = .ok (.ireturn, 1) := by decide +kernel
theorem hw_bid : eh_ok RL 159 3 mi_X10_bid ∧ Cond.instanceMethod yX10_bid ∈ ev_wd ∧ Cond.selects RX10 yX10_bid yX10_bid ∈ ev_wd := ⟨⟨hbW3_i 8 rfl, wd_i, hbW3_i 9 rfl, Nat.le_of_ble_eq_true rfl, by decide +kernel⟩, hbW3_i 10 rfl, hbW3_i 11 rfl⟩
theorem hc_bid_0 : hb_h hy_bid 15 1 := Or.inr ⟨5, by decide, by decide +kernel, by decide +kernel, by decide +kernel⟩
theorem hc_bid_1 : hb_h hy_bid 19 2 := Or.inr ⟨5, by decide, by decide +kernel, by decide +kernel, by decide +kernel⟩
theorem hc_bid_2 : hb_h hy_bid 23 3 := Or.inr ⟨5, by decide, by decide +kernel, by decide +kernel, by decide +kernel⟩
theorem hE_bid : ∀ E ∈ [eI, eO, eA], ∃ h j, hb_x hh_bid 7 E h ∧ hb_h hy_bid h j ∧ nI (hbi [eI, eO, eA] E) = Int32.ofInt j := by
  intro E hE
  simp only [List.mem_cons, List.not_mem_nil, or_false] at hE
  rcases hE with rfl | rfl | rfl
  · exact ⟨15, 1, hbx_1 (by decide) (by decide) cl_21, hc_bid_0, hn_1⟩
  · exact ⟨19, 2, hbx_2 (by decide) (by decide) cl_13 (by decide) hme_I ne_OI cl_21, hc_bid_1, hn_2 ne_OI⟩
  · exact ⟨23, 3, hbx_3 (by decide) (by decide) cl_15 (by decide) hme_I ne_AI cl_21 (by decide) hme_O ne_AO cl_13, hc_bid_2, hn_3 ne_AI ne_AO⟩
theorem hb_bid (hok : ev_ok sh_S G) (hnc : NCs G) (a b c : Int32) {res' : ev_R} (hT : ev_T sh_S G mi_X10_bid (.ref 0 :: [.int a, .int b, .int c]) μ res') (hv : (∃ v μ1, res' = .inl (some (.int v), μ1)) ∨ ∃ E μ1, res' = .inr (E, μ1) ∧ E ∈ [eI, eO, eA]) : hb_T G hy_bid hh_bid [.ref 0, .int a, .int b, .int c, .ref 310] μ (hbn [eI, eO, eA] res') (hbm res') := by
  obtain ⟨d0, d1, d2, d3, d4, d5⟩ := hd_bid
  refine HL_T rfl rfl hok (Nat.le_of_ble_eq_true rfl) ?_
  refine HL_ald d0 (a := 310) rfl ?_
  refine HL_icv d1 (v := 0) rfl ?_
  refine HL_al d2 (a := 0) rfl ?_
  refine HL_il d3 (a := a) rfl ?_
  refine HL_il d4 (a := b) rfl ?_
  refine HL_il d5 (a := c) rfl ?_
  exact hb_A (As := [.int a, .int b, .int c]) hnc hw_bid rfl (Nat.lt_succ_self _) (t := 27) he_bid (by decide) sb_IOA hE_bid hT hv
abbrev hy_assign : ev_Mi := (yL_assign, cL_assign, 5, some .int, mi_X10_assign.2.2.2.2 + 1)
abbrev hh_assign : List (Nat × Nat × Nat × Nat) := [(0, 10, 13, 21), (0, 10, 17, 13), (0, 10, 21, 15)]
theorem hd_assign : decode cL_assign 0 = .ok (.aload_n 3, 1) ∧ decode cL_assign 1 = .ok (.iconst 0, 1) ∧ decode cL_assign 2 = .ok (.aload_n 0, 1) ∧ decode cL_assign 3 = .ok (.iload_n 1, 1) ∧ decode cL_assign 4 = .ok (.iload_n 2, 1) := by decide +kernel
theorem he_assign : decode cL_assign 5 = .ok (.invokevirtual 163, 3) ∧ decode cL_assign 8 = .ok (.i2l, 1) ∧ decode cL_assign 9 = .ok (.lastore, 1) ∧ decode cL_assign 10 = .ok (.goto 15, 3) ∧ decode cL_assign 25 = .ok (.iconst 0, 1) ∧ decode cL_assign 26 = .ok (.ireturn, 1) := by decide +kernel
theorem hw_assign : eh_ok RL 163 2 mi_X10_assign ∧ Cond.instanceMethod yX10_assign ∈ ev_wd ∧ Cond.selects RX10 yX10_assign yX10_assign ∈ ev_wd := ⟨⟨hbW3_i 12 rfl, wd_i, hbW3_i 13 rfl, Nat.le_of_ble_eq_true rfl, by decide +kernel⟩, hbW3_i 14 rfl, hbW3_i 15 rfl⟩
theorem hc_assign_0 : hb_h hy_assign 13 1 := Or.inr ⟨4, by decide, by decide +kernel, by decide +kernel, by decide +kernel⟩
theorem hc_assign_1 : hb_h hy_assign 17 2 := Or.inr ⟨4, by decide, by decide +kernel, by decide +kernel, by decide +kernel⟩
theorem hc_assign_2 : hb_h hy_assign 21 3 := Or.inr ⟨4, by decide, by decide +kernel, by decide +kernel, by decide +kernel⟩
theorem hE_assign : ∀ E ∈ [eI, eO, eA], ∃ h j, hb_x hh_assign 5 E h ∧ hb_h hy_assign h j ∧ nI (hbi [eI, eO, eA] E) = Int32.ofInt j := by
  intro E hE
  simp only [List.mem_cons, List.not_mem_nil, or_false] at hE
  rcases hE with rfl | rfl | rfl
  · exact ⟨13, 1, hbx_1 (by decide) (by decide) cl_21, hc_assign_0, hn_1⟩
  · exact ⟨17, 2, hbx_2 (by decide) (by decide) cl_13 (by decide) hme_I ne_OI cl_21, hc_assign_1, hn_2 ne_OI⟩
  · exact ⟨21, 3, hbx_3 (by decide) (by decide) cl_15 (by decide) hme_I ne_AI cl_21 (by decide) hme_O ne_AO cl_13, hc_assign_2, hn_3 ne_AI ne_AO⟩
theorem hb_assign (hok : ev_ok sh_S G) (hnc : NCs G) (a b : Int32) {res' : ev_R} (hT : ev_T sh_S G mi_X10_assign (.ref 0 :: [.int a, .int b]) μ res') (hv : (∃ v μ1, res' = .inl (some (.int v), μ1)) ∨ ∃ E μ1, res' = .inr (E, μ1) ∧ E ∈ [eI, eO, eA]) : hb_T G hy_assign hh_assign [.ref 0, .int a, .int b, .ref 310] μ (hbn [eI, eO, eA] res') (hbm res') := by
  obtain ⟨d0, d1, d2, d3, d4⟩ := hd_assign
  refine HL_T rfl rfl hok (Nat.le_of_ble_eq_true rfl) ?_
  refine HL_al d0 (a := 310) rfl ?_
  refine HL_icv d1 (v := 0) rfl ?_
  refine HL_al d2 (a := 0) rfl ?_
  refine HL_il d3 (a := a) rfl ?_
  refine HL_il d4 (a := b) rfl ?_
  exact hb_A (As := [.int a, .int b]) hnc hw_assign rfl (Nat.lt_succ_self _) (t := 25) he_assign (by decide) sb_IOA hE_assign hT hv
abbrev hy_unassign : ev_Mi := (yL_unassign, cL_unassign, 5, some .int, mi_X10_unassign.2.2.2.2 + 1)
abbrev hh_unassign : List (Nat × Nat × Nat × Nat) := [(0, 10, 13, 21), (0, 10, 17, 13), (0, 10, 21, 15)]
theorem hd_unassign : decode cL_unassign 0 = .ok (.aload_n 3, 1) ∧ decode cL_unassign 1 = .ok (.iconst 0, 1) ∧ decode cL_unassign 2 = .ok (.aload_n 0, 1) ∧ decode cL_unassign 3 = .ok (.iload_n 1, 1) ∧ decode cL_unassign 4 = .ok (.iload_n 2, 1) := by decide +kernel
theorem he_unassign : decode cL_unassign 5 = .ok (.invokevirtual 166, 3) ∧ decode cL_unassign 8 = .ok (.i2l, 1) ∧ decode cL_unassign 9 = .ok (.lastore, 1) ∧ decode cL_unassign 10 = .ok (.goto 15, 3) ∧ decode cL_unassign 25 = .ok (.iconst 0, 1) ∧ decode cL_unassign 26 = .ok (.ireturn, 1) := by decide +kernel
theorem hw_unassign : eh_ok RL 166 2 mi_X10_unassign ∧ Cond.instanceMethod yX10_unassign ∈ ev_wd ∧ Cond.selects RX10 yX10_unassign yX10_unassign ∈ ev_wd := ⟨⟨hbW3_i 16 rfl, wd_i, hbW3_i 17 rfl, Nat.le_of_ble_eq_true rfl, by decide +kernel⟩, hbW3_i 18 rfl, hbW3_i 19 rfl⟩
theorem hc_unassign_0 : hb_h hy_unassign 13 1 := Or.inr ⟨4, by decide, by decide +kernel, by decide +kernel, by decide +kernel⟩
theorem hc_unassign_1 : hb_h hy_unassign 17 2 := Or.inr ⟨4, by decide, by decide +kernel, by decide +kernel, by decide +kernel⟩
theorem hc_unassign_2 : hb_h hy_unassign 21 3 := Or.inr ⟨4, by decide, by decide +kernel, by decide +kernel, by decide +kernel⟩
theorem hE_unassign : ∀ E ∈ [eI, eO, eA], ∃ h j, hb_x hh_unassign 5 E h ∧ hb_h hy_unassign h j ∧ nI (hbi [eI, eO, eA] E) = Int32.ofInt j := by
  intro E hE
  simp only [List.mem_cons, List.not_mem_nil, or_false] at hE
  rcases hE with rfl | rfl | rfl
  · exact ⟨13, 1, hbx_1 (by decide) (by decide) cl_21, hc_unassign_0, hn_1⟩
  · exact ⟨17, 2, hbx_2 (by decide) (by decide) cl_13 (by decide) hme_I ne_OI cl_21, hc_unassign_1, hn_2 ne_OI⟩
  · exact ⟨21, 3, hbx_3 (by decide) (by decide) cl_15 (by decide) hme_I ne_AI cl_21 (by decide) hme_O ne_AO cl_13, hc_unassign_2, hn_3 ne_AI ne_AO⟩
theorem hb_unassign (hok : ev_ok sh_S G) (hnc : NCs G) (a b : Int32) {res' : ev_R} (hT : ev_T sh_S G mi_X10_unassign (.ref 0 :: [.int a, .int b]) μ res') (hv : (∃ v μ1, res' = .inl (some (.int v), μ1)) ∨ ∃ E μ1, res' = .inr (E, μ1) ∧ E ∈ [eI, eO, eA]) : hb_T G hy_unassign hh_unassign [.ref 0, .int a, .int b, .ref 310] μ (hbn [eI, eO, eA] res') (hbm res') := by
  obtain ⟨d0, d1, d2, d3, d4⟩ := hd_unassign
  refine HL_T rfl rfl hok (Nat.le_of_ble_eq_true rfl) ?_
  refine HL_al d0 (a := 310) rfl ?_
  refine HL_icv d1 (v := 0) rfl ?_
  refine HL_al d2 (a := 0) rfl ?_
  refine HL_il d3 (a := a) rfl ?_
  refine HL_il d4 (a := b) rfl ?_
  exact hb_A (As := [.int a, .int b]) hnc hw_unassign rfl (Nat.lt_succ_self _) (t := 25) he_unassign (by decide) sb_IOA hE_unassign hT hv
abbrev hy_fill : ev_Mi := (yL_fill, cL_fill, 3, some .int, mi_X10_fill.2.2.2.2 + 1)
abbrev hh_fill : List (Nat × Nat × Nat × Nat) := [(0, 8, 11, 21)]
theorem hd_fill : decode cL_fill 0 = .ok (.aload_n 1, 1) ∧ decode cL_fill 1 = .ok (.iconst 0, 1) ∧ decode cL_fill 2 = .ok (.aload_n 0, 1) := by decide +kernel
theorem he_fill : decode cL_fill 3 = .ok (.invokevirtual 169, 3) ∧ decode cL_fill 6 = .ok (.i2l, 1) ∧ decode cL_fill 7 = .ok (.lastore, 1) ∧ decode cL_fill 8 = .ok (.goto 6, 3) ∧ decode cL_fill 14 = .ok (.iconst 0, 1) ∧ decode cL_fill 15 = .ok (.ireturn, 1) := by decide +kernel
theorem hw_fill : eh_ok RL 169 0 mi_X10_fill ∧ Cond.instanceMethod yX10_fill ∈ ev_wd ∧ Cond.selects RX10 yX10_fill yX10_fill ∈ ev_wd := ⟨⟨hbW3_i 20 rfl, wd_i, hbW3_i 21 rfl, Nat.le_of_ble_eq_true rfl, by decide +kernel⟩, hbW3_i 22 rfl, hbW3_i 23 rfl⟩
theorem hc_fill_0 : hb_h hy_fill 11 1 := Or.inl ⟨2, by decide, by decide +kernel, by decide +kernel, by decide +kernel⟩
theorem hE_fill : ∀ E ∈ [eI], ∃ h j, hb_x hh_fill 3 E h ∧ hb_h hy_fill h j ∧ nI (hbi [eI] E) = Int32.ofInt j := by
  intro E hE
  simp only [List.mem_cons, List.not_mem_nil, or_false] at hE
  subst hE
  exact ⟨11, 1, hbx_1 (by decide) (by decide) cl_21, hc_fill_0, hn_1⟩
theorem hb_fill (hok : ev_ok sh_S G) (hnc : NCs G) {res' : ev_R} (hT : ev_T sh_S G mi_X10_fill (.ref 0 :: []) μ res') (hv : (∃ v μ1, res' = .inl (some (.int v), μ1)) ∨ ∃ E μ1, res' = .inr (E, μ1) ∧ E ∈ [eI]) : hb_T G hy_fill hh_fill [.ref 0, .ref 310] μ (hbn [eI] res') (hbm res') := by
  obtain ⟨d0, d1, d2⟩ := hd_fill
  refine HL_T rfl rfl hok (Nat.le_of_ble_eq_true rfl) ?_
  refine HL_al d0 (a := 310) rfl ?_
  refine HL_icv d1 (v := 0) rfl ?_
  refine HL_al d2 (a := 0) rfl ?_
  exact hb_A (As := []) hnc hw_fill rfl (Nat.lt_succ_self _) (t := 14) he_fill (by decide) sb_I hE_fill hT hv
abbrev hy_score : ev_Mi := (yL_score, cL_score, 6, some .int, mi_X10_score.2.2.2.2 + 1)
abbrev hh_score : List (Nat × Nat × Nat × Nat) := [(0, 12, 15, 21), (0, 12, 19, 13), (0, 12, 23, 15)]
theorem hd_score : decode cL_score 0 = .ok (.aload 4, 2) ∧ decode cL_score 2 = .ok (.iconst 0, 1) ∧ decode cL_score 3 = .ok (.aload_n 0, 1) ∧ decode cL_score 4 = .ok (.iload_n 1, 1) ∧ decode cL_score 5 = .ok (.iload_n 2, 1) ∧ decode cL_score 6 = .ok (.iload_n 3, 1) := by decide +kernel
theorem he_score : decode cL_score 7 = .ok (.invokevirtual 172, 3) ∧ decode cL_score 10 = .ok (.i2l, 1) ∧ decode cL_score 11 = .ok (.lastore, 1) ∧ decode cL_score 12 = .ok (.goto 15, 3) ∧ decode cL_score 27 = .ok (.iconst 0, 1) ∧ decode cL_score 28 = .ok (.ireturn, 1) := by decide +kernel
theorem hw_score : eh_ok RL 172 3 mi_X10_score ∧ Cond.instanceMethod yX10_score ∈ ev_wd ∧ Cond.selects RX10 yX10_score yX10_score ∈ ev_wd := ⟨⟨hbW3_i 24 rfl, wd_i, hbW3_i 25 rfl, Nat.le_of_ble_eq_true rfl, by decide +kernel⟩, hbW3_i 26 rfl, hbW3_i 27 rfl⟩
theorem hc_score_0 : hb_h hy_score 15 1 := Or.inr ⟨5, by decide, by decide +kernel, by decide +kernel, by decide +kernel⟩
theorem hc_score_1 : hb_h hy_score 19 2 := Or.inr ⟨5, by decide, by decide +kernel, by decide +kernel, by decide +kernel⟩
theorem hc_score_2 : hb_h hy_score 23 3 := Or.inr ⟨5, by decide, by decide +kernel, by decide +kernel, by decide +kernel⟩
theorem hE_score : ∀ E ∈ [eI, eO, eA], ∃ h j, hb_x hh_score 7 E h ∧ hb_h hy_score h j ∧ nI (hbi [eI, eO, eA] E) = Int32.ofInt j := by
  intro E hE
  simp only [List.mem_cons, List.not_mem_nil, or_false] at hE
  rcases hE with rfl | rfl | rfl
  · exact ⟨15, 1, hbx_1 (by decide) (by decide) cl_21, hc_score_0, hn_1⟩
  · exact ⟨19, 2, hbx_2 (by decide) (by decide) cl_13 (by decide) hme_I ne_OI cl_21, hc_score_1, hn_2 ne_OI⟩
  · exact ⟨23, 3, hbx_3 (by decide) (by decide) cl_15 (by decide) hme_I ne_AI cl_21 (by decide) hme_O ne_AO cl_13, hc_score_2, hn_3 ne_AI ne_AO⟩
theorem hb_score (hok : ev_ok sh_S G) (hnc : NCs G) (a b c : Int32) {res' : ev_R} (hT : ev_T sh_S G mi_X10_score (.ref 0 :: [.int a, .int b, .int c]) μ res') (hv : (∃ v μ1, res' = .inl (some (.int v), μ1)) ∨ ∃ E μ1, res' = .inr (E, μ1) ∧ E ∈ [eI, eO, eA]) : hb_T G hy_score hh_score [.ref 0, .int a, .int b, .int c, .ref 310] μ (hbn [eI, eO, eA] res') (hbm res') := by
  obtain ⟨d0, d1, d2, d3, d4, d5⟩ := hd_score
  refine HL_T rfl rfl hok (Nat.le_of_ble_eq_true rfl) ?_
  refine HL_ald d0 (a := 310) rfl ?_
  refine HL_icv d1 (v := 0) rfl ?_
  refine HL_al d2 (a := 0) rfl ?_
  refine HL_il d3 (a := a) rfl ?_
  refine HL_il d4 (a := b) rfl ?_
  refine HL_il d5 (a := c) rfl ?_
  exact hb_A (As := [.int a, .int b, .int c]) hnc hw_score rfl (Nat.lt_succ_self _) (t := 27) he_score (by decide) sb_IOA hE_score hT hv
abbrev hy_talk : ev_Mi := (yL_talk, cL_talk, 4, some .int, mi_X10_talk.2.2.2.2 + 1)
abbrev hh_talk : List (Nat × Nat × Nat × Nat) := [(0, 9, 12, 21), (0, 9, 15, 13), (0, 9, 18, 15)]
theorem hd_talk : decode cL_talk 0 = .ok (.aload_n 2, 1) ∧ decode cL_talk 1 = .ok (.iconst 0, 1) ∧ decode cL_talk 2 = .ok (.aload_n 0, 1) ∧ decode cL_talk 3 = .ok (.iload_n 1, 1) := by decide +kernel
theorem he_talk : decode cL_talk 4 = .ok (.invokevirtual 175, 3) ∧ decode cL_talk 7 = .ok (.i2l, 1) ∧ decode cL_talk 8 = .ok (.lastore, 1) ∧ decode cL_talk 9 = .ok (.goto 12, 3) ∧ decode cL_talk 21 = .ok (.iconst 0, 1) ∧ decode cL_talk 22 = .ok (.ireturn, 1) := by decide +kernel
theorem hw_talk : eh_ok RL 175 1 mi_X10_talk ∧ Cond.instanceMethod yX10_talk ∈ ev_wd ∧ Cond.selects RX10 yX10_talk yX10_talk ∈ ev_wd := ⟨⟨hbW3_i 28 rfl, wd_i, hbW3_i 29 rfl, Nat.le_of_ble_eq_true rfl, by decide +kernel⟩, hbW3_i 30 rfl, hbW3_i 31 rfl⟩
theorem hc_talk_0 : hb_h hy_talk 12 1 := Or.inl ⟨3, by decide, by decide +kernel, by decide +kernel, by decide +kernel⟩
theorem hc_talk_1 : hb_h hy_talk 15 2 := Or.inl ⟨3, by decide, by decide +kernel, by decide +kernel, by decide +kernel⟩
theorem hc_talk_2 : hb_h hy_talk 18 3 := Or.inl ⟨3, by decide, by decide +kernel, by decide +kernel, by decide +kernel⟩
theorem hE_talk : ∀ E ∈ [eI, eO, eA], ∃ h j, hb_x hh_talk 4 E h ∧ hb_h hy_talk h j ∧ nI (hbi [eI, eO, eA] E) = Int32.ofInt j := by
  intro E hE
  simp only [List.mem_cons, List.not_mem_nil, or_false] at hE
  rcases hE with rfl | rfl | rfl
  · exact ⟨12, 1, hbx_1 (by decide) (by decide) cl_21, hc_talk_0, hn_1⟩
  · exact ⟨15, 2, hbx_2 (by decide) (by decide) cl_13 (by decide) hme_I ne_OI cl_21, hc_talk_1, hn_2 ne_OI⟩
  · exact ⟨18, 3, hbx_3 (by decide) (by decide) cl_15 (by decide) hme_I ne_AI cl_21 (by decide) hme_O ne_AO cl_13, hc_talk_2, hn_3 ne_AI ne_AO⟩
theorem hb_talk (hok : ev_ok sh_S G) (hnc : NCs G) (a : Int32) {res' : ev_R} (hT : ev_T sh_S G mi_X10_talk (.ref 0 :: [.int a]) μ res') (hv : (∃ v μ1, res' = .inl (some (.int v), μ1)) ∨ ∃ E μ1, res' = .inr (E, μ1) ∧ E ∈ [eI, eO, eA]) : hb_T G hy_talk hh_talk [.ref 0, .int a, .ref 310] μ (hbn [eI, eO, eA] res') (hbm res') := by
  obtain ⟨d0, d1, d2, d3⟩ := hd_talk
  refine HL_T rfl rfl hok (Nat.le_of_ble_eq_true rfl) ?_
  refine HL_al d0 (a := 310) rfl ?_
  refine HL_icv d1 (v := 0) rfl ?_
  refine HL_al d2 (a := 0) rfl ?_
  refine HL_il d3 (a := a) rfl ?_
  exact hb_A (As := [.int a]) hnc hw_talk rfl (Nat.lt_succ_self _) (t := 21) he_talk (by decide) sb_IOA hE_talk hT hv
abbrev hy_declare : ev_Mi := (yL_declare, cL_declare, 6, some .int, mi_X10_declare.2.2.2.2 + 1)
abbrev hh_declare : List (Nat × Nat × Nat × Nat) := [(0, 19, 22, 21), (0, 19, 26, 13)]
theorem hd_declare : decode cL_declare 0 = .ok (.aload 4, 2) ∧ decode cL_declare 2 = .ok (.iconst 0, 1) ∧ decode cL_declare 3 = .ok (.aload_n 0, 1) ∧ decode cL_declare 4 = .ok (.iload_n 1, 1) ∧ decode cL_declare 5 = .ok (.iload_n 2, 1) ∧ decode cL_declare 6 = .ok (.iload_n 3, 1) := by decide +kernel
theorem he_declare : decode cL_declare 7 = .ok (.invokevirtual 178, 3) ∧ decode cL_declare 10 = .ok (.ifCond .eq 7, 3) ∧ decode cL_declare 13 = .ok (.lconst 1, 1) ∧ decode cL_declare 14 = .ok (.goto 4, 3) ∧ decode cL_declare 17 = .ok (.lconst 0, 1) ∧ decode cL_declare 18 = .ok (.lastore, 1) ∧ decode cL_declare 19 = .ok (.goto 11, 3) ∧ decode cL_declare 30 = .ok (.iconst 0, 1) ∧ decode cL_declare 31 = .ok (.ireturn, 1) := by decide +kernel
theorem hw_declare : eh_ok RL 178 3 mi_X10_declare ∧ Cond.instanceMethod yX10_declare ∈ ev_wd ∧ Cond.selects RX10 yX10_declare yX10_declare ∈ ev_wd := ⟨⟨hbW3_i 32 rfl, wd_i, hbW3_i 33 rfl, Nat.le_of_ble_eq_true rfl, by decide +kernel⟩, hbW3_i 34 rfl, hbW3_i 35 rfl⟩
theorem hc_declare_0 : hb_h hy_declare 22 1 := Or.inr ⟨5, by decide, by decide +kernel, by decide +kernel, by decide +kernel⟩
theorem hc_declare_1 : hb_h hy_declare 26 2 := Or.inr ⟨5, by decide, by decide +kernel, by decide +kernel, by decide +kernel⟩
theorem hE_declare : ∀ E ∈ [eI, eO], ∃ h j, hb_x hh_declare 7 E h ∧ hb_h hy_declare h j ∧ nI (hbi [eI, eO] E) = Int32.ofInt j := by
  intro E hE
  simp only [List.mem_cons, List.not_mem_nil, or_false] at hE
  rcases hE with rfl | rfl
  · exact ⟨22, 1, hbx_1 (by decide) (by decide) cl_21, hc_declare_0, hn_1⟩
  · exact ⟨26, 2, hbx_2 (by decide) (by decide) cl_13 (by decide) hme_I ne_OI cl_21, hc_declare_1, hn_2 ne_OI⟩
theorem hb_declare (hok : ev_ok sh_S G) (hnc : NCs G) (a b c : Int32) {res' : ev_R} (hT : ev_T sh_S G mi_X10_declare (.ref 0 :: [.int a, .int b, .int c]) μ res') (hv : (∃ v μ1, res' = .inl (some (.int v), μ1)) ∨ ∃ E μ1, res' = .inr (E, μ1) ∧ E ∈ [eI, eO]) : hb_T G hy_declare hh_declare [.ref 0, .int a, .int b, .int c, .ref 310] μ (hbn [eI, eO] res') (hbz res') := by
  obtain ⟨d0, d1, d2, d3, d4, d5⟩ := hd_declare
  refine HL_T rfl rfl hok (Nat.le_of_ble_eq_true rfl) ?_
  refine HL_ald d0 (a := 310) rfl ?_
  refine HL_icv d1 (v := 0) rfl ?_
  refine HL_al d2 (a := 0) rfl ?_
  refine HL_il d3 (a := a) rfl ?_
  refine HL_il d4 (a := b) rfl ?_
  refine HL_il d5 (a := c) rfl ?_
  exact hb_Z (As := [.int a, .int b, .int c]) hnc hw_declare rfl (Nat.lt_succ_self _) (t := 30) he_declare (by decide) sb_IO hE_declare hT hv
abbrev hy_undo : ev_Mi := (yL_undo, cL_undo, 3, some .int, mi_X10_undo.2.2.2.2 + 1)
abbrev hh_undo : List (Nat × Nat × Nat × Nat) := [(0, 8, 11, 21)]
theorem hd_undo : decode cL_undo 0 = .ok (.aload_n 1, 1) ∧ decode cL_undo 1 = .ok (.iconst 0, 1) ∧ decode cL_undo 2 = .ok (.aload_n 0, 1) := by decide +kernel
theorem he_undo : decode cL_undo 3 = .ok (.invokevirtual 182, 3) ∧ decode cL_undo 6 = .ok (.i2l, 1) ∧ decode cL_undo 7 = .ok (.lastore, 1) ∧ decode cL_undo 8 = .ok (.goto 6, 3) ∧ decode cL_undo 14 = .ok (.iconst 0, 1) ∧ decode cL_undo 15 = .ok (.ireturn, 1) := by decide +kernel
theorem hw_undo : eh_ok RL 182 0 mi_X10_undo ∧ Cond.instanceMethod yX10_undo ∈ ev_wd ∧ Cond.selects RX10 yX10_undo yX10_undo ∈ ev_wd := ⟨⟨hbW3_i 36 rfl, wd_i, hbW3_i 37 rfl, Nat.le_of_ble_eq_true rfl, by decide +kernel⟩, hbW3_i 38 rfl, hbW3_i 39 rfl⟩
theorem hc_undo_0 : hb_h hy_undo 11 1 := Or.inl ⟨2, by decide, by decide +kernel, by decide +kernel, by decide +kernel⟩
theorem hE_undo : ∀ E ∈ [eI], ∃ h j, hb_x hh_undo 3 E h ∧ hb_h hy_undo h j ∧ nI (hbi [eI] E) = Int32.ofInt j := by
  intro E hE
  simp only [List.mem_cons, List.not_mem_nil, or_false] at hE
  subst hE
  exact ⟨11, 1, hbx_1 (by decide) (by decide) cl_21, hc_undo_0, hn_1⟩
theorem hb_undo (hok : ev_ok sh_S G) (hnc : NCs G) {res' : ev_R} (hT : ev_T sh_S G mi_X10_undo (.ref 0 :: []) μ res') (hv : (∃ v μ1, res' = .inl (some (.int v), μ1)) ∨ ∃ E μ1, res' = .inr (E, μ1) ∧ E ∈ [eI]) : hb_T G hy_undo hh_undo [.ref 0, .ref 310] μ (hbn [eI] res') (hbm res') := by
  obtain ⟨d0, d1, d2⟩ := hd_undo
  refine HL_T rfl rfl hok (Nat.le_of_ble_eq_true rfl) ?_
  refine HL_al d0 (a := 310) rfl ?_
  refine HL_icv d1 (v := 0) rfl ?_
  refine HL_al d2 (a := 0) rfl ?_
  exact hb_A (As := []) hnc hw_undo rfl (Nat.lt_succ_self _) (t := 14) he_undo (by decide) sb_I hE_undo hT hv
abbrev hy_saveState : ev_Mi := (yL_saveState, cL_saveState, 4, some .int, mi_X10_saveState.2.2.2.2 + 1)
abbrev hh_saveState : List (Nat × Nat × Nat × Nat) := [(0, 9, 12, 21), (0, 9, 15, 13)]
theorem hd_saveState : decode cL_saveState 0 = .ok (.aload_n 2, 1) ∧ decode cL_saveState 1 = .ok (.iconst 0, 1) ∧ decode cL_saveState 2 = .ok (.aload_n 0, 1) ∧ decode cL_saveState 3 = .ok (.iload_n 1, 1) := by decide +kernel
theorem he_saveState : decode cL_saveState 4 = .ok (.invokevirtual 185, 3) ∧ decode cL_saveState 7 = .ok (.i2l, 1) ∧ decode cL_saveState 8 = .ok (.lastore, 1) ∧ decode cL_saveState 9 = .ok (.goto 9, 3) ∧ decode cL_saveState 18 = .ok (.iconst 0, 1) ∧ decode cL_saveState 19 = .ok (.ireturn, 1) := by decide +kernel
theorem hw_saveState : eh_ok RL 185 1 mi_X10_saveState ∧ Cond.instanceMethod yX10_saveState ∈ ev_wd ∧ Cond.selects RX10 yX10_saveState yX10_saveState ∈ ev_wd := ⟨⟨hbW3_i 40 rfl, wd_i, hbW3_i 41 rfl, Nat.le_of_ble_eq_true rfl, by decide +kernel⟩, hbW3_i 42 rfl, hbW3_i 43 rfl⟩
theorem hc_saveState_0 : hb_h hy_saveState 12 1 := Or.inl ⟨3, by decide, by decide +kernel, by decide +kernel, by decide +kernel⟩
theorem hc_saveState_1 : hb_h hy_saveState 15 2 := Or.inl ⟨3, by decide, by decide +kernel, by decide +kernel, by decide +kernel⟩
theorem hE_saveState : ∀ E ∈ [eI, eO], ∃ h j, hb_x hh_saveState 4 E h ∧ hb_h hy_saveState h j ∧ nI (hbi [eI, eO] E) = Int32.ofInt j := by
  intro E hE
  simp only [List.mem_cons, List.not_mem_nil, or_false] at hE
  rcases hE with rfl | rfl
  · exact ⟨12, 1, hbx_1 (by decide) (by decide) cl_21, hc_saveState_0, hn_1⟩
  · exact ⟨15, 2, hbx_2 (by decide) (by decide) cl_13 (by decide) hme_I ne_OI cl_21, hc_saveState_1, hn_2 ne_OI⟩
theorem hb_saveState (hok : ev_ok sh_S G) (hnc : NCs G) (a : Int32) {res' : ev_R} (hT : ev_T sh_S G mi_X10_saveState (.ref 0 :: [.int a]) μ res') (hv : (∃ v μ1, res' = .inl (some (.int v), μ1)) ∨ ∃ E μ1, res' = .inr (E, μ1) ∧ E ∈ [eI, eO]) : hb_T G hy_saveState hh_saveState [.ref 0, .int a, .ref 310] μ (hbn [eI, eO] res') (hbm res') := by
  obtain ⟨d0, d1, d2, d3⟩ := hd_saveState
  refine HL_T rfl rfl hok (Nat.le_of_ble_eq_true rfl) ?_
  refine HL_al d0 (a := 310) rfl ?_
  refine HL_icv d1 (v := 0) rfl ?_
  refine HL_al d2 (a := 0) rfl ?_
  refine HL_il d3 (a := a) rfl ?_
  exact hb_A (As := [.int a]) hnc hw_saveState rfl (Nat.lt_succ_self _) (t := 18) he_saveState (by decide) sb_IO hE_saveState hT hv
abbrev hy_restoreState : ev_Mi := (yL_restoreState, cL_restoreState, 4, some .int, mi_X10_restoreState.2.2.2.2 + 1)
abbrev hh_restoreState : List (Nat × Nat × Nat × Nat) := [(0, 9, 12, 13), (0, 9, 15, 21)]
theorem hd_restoreState : decode cL_restoreState 0 = .ok (.aload_n 2, 1) ∧ decode cL_restoreState 1 = .ok (.iconst 0, 1) ∧ decode cL_restoreState 2 = .ok (.aload_n 0, 1) ∧ decode cL_restoreState 3 = .ok (.iload_n 1, 1) := by decide +kernel
theorem he_restoreState : decode cL_restoreState 4 = .ok (.invokevirtual 188, 3) ∧ decode cL_restoreState 7 = .ok (.i2l, 1) ∧ decode cL_restoreState 8 = .ok (.lastore, 1) ∧ decode cL_restoreState 9 = .ok (.goto 9, 3) ∧ decode cL_restoreState 18 = .ok (.iconst 0, 1) ∧ decode cL_restoreState 19 = .ok (.ireturn, 1) := by decide +kernel
theorem hw_restoreState : eh_ok RL 188 1 mi_X10_restoreState ∧ Cond.instanceMethod yX10_restoreState ∈ ev_wd ∧ Cond.selects RX10 yX10_restoreState yX10_restoreState ∈ ev_wd := ⟨⟨hbW3_i 44 rfl, wd_i, hbW3_i 45 rfl, Nat.le_of_ble_eq_true rfl, by decide +kernel⟩, hbW3_i 46 rfl, hbW3_i 47 rfl⟩
theorem hc_restoreState_0 : hb_h hy_restoreState 12 1 := Or.inl ⟨3, by decide, by decide +kernel, by decide +kernel, by decide +kernel⟩
theorem hc_restoreState_1 : hb_h hy_restoreState 15 2 := Or.inl ⟨3, by decide, by decide +kernel, by decide +kernel, by decide +kernel⟩
theorem hE_restoreState : ∀ E ∈ [eO, eI], ∃ h j, hb_x hh_restoreState 4 E h ∧ hb_h hy_restoreState h j ∧ nI (hbi [eO, eI] E) = Int32.ofInt j := by
  intro E hE
  simp only [List.mem_cons, List.not_mem_nil, or_false] at hE
  rcases hE with rfl | rfl
  · exact ⟨12, 1, hbx_1 (by decide) (by decide) cl_13, hc_restoreState_0, hn_1⟩
  · exact ⟨15, 2, hbx_2 (by decide) (by decide) cl_21 (by decide) hme_O ne_IO cl_13, hc_restoreState_1, hn_2 ne_IO⟩
theorem hb_restoreState (hok : ev_ok sh_S G) (hnc : NCs G) (a : Int32) {res' : ev_R} (hT : ev_T sh_S G mi_X10_restoreState (.ref 0 :: [.int a]) μ res') (hv : (∃ v μ1, res' = .inl (some (.int v), μ1)) ∨ ∃ E μ1, res' = .inr (E, μ1) ∧ E ∈ [eO, eI]) : hb_T G hy_restoreState hh_restoreState [.ref 0, .int a, .ref 310] μ (hbn [eO, eI] res') (hbm res') := by
  obtain ⟨d0, d1, d2, d3⟩ := hd_restoreState
  refine HL_T rfl rfl hok (Nat.le_of_ble_eq_true rfl) ?_
  refine HL_al d0 (a := 310) rfl ?_
  refine HL_icv d1 (v := 0) rfl ?_
  refine HL_al d2 (a := 0) rfl ?_
  refine HL_il d3 (a := a) rfl ?_
  exact hb_A (As := [.int a]) hnc hw_restoreState rfl (Nat.lt_succ_self _) (t := 18) he_restoreState (by decide) sb_OI hE_restoreState hT hv
end Hbs
