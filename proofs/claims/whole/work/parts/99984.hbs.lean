/-! ===== the law's helpers, more of them (by program, wip/whole/genhb.py) ===== -/
section Hbs
variable {G : ev_G} {μ μ1 μ' : ev_M}
def hbW2 : List Cond := [Cond.methodLink RL 103 yX10_adjustedScore, Cond.code yX10_adjustedScore cX10_adjustedScore mi_X10_adjustedScore.2.2.1 mi_X10_adjustedScore.2.2.2.1, Cond.instanceMethod yX10_adjustedScore, Cond.selects RX10 yX10_adjustedScore yX10_adjustedScore, Cond.methodLink RL 106 yX10_totalOf, Cond.code yX10_totalOf cX10_totalOf mi_X10_totalOf.2.2.1 mi_X10_totalOf.2.2.2.1, Cond.instanceMethod yX10_totalOf, Cond.selects RX10 yX10_totalOf yX10_totalOf, Cond.methodLink RL 109 yX10_spreadOf, Cond.code yX10_spreadOf cX10_spreadOf mi_X10_spreadOf.2.2.1 mi_X10_spreadOf.2.2.2.1, Cond.instanceMethod yX10_spreadOf, Cond.selects RX10 yX10_spreadOf yX10_spreadOf, Cond.methodLink RL 112 yX10_needsTalk, Cond.code yX10_needsTalk cX10_needsTalk mi_X10_needsTalk.2.2.1 mi_X10_needsTalk.2.2.2.1, Cond.instanceMethod yX10_needsTalk, Cond.selects RX10 yX10_needsTalk yX10_needsTalk, Cond.methodLink RL 115 yX10_spreadAfterTalk, Cond.code yX10_spreadAfterTalk cX10_spreadAfterTalk mi_X10_spreadAfterTalk.2.2.1 mi_X10_spreadAfterTalk.2.2.2.1, Cond.instanceMethod yX10_spreadAfterTalk, Cond.selects RX10 yX10_spreadAfterTalk yX10_spreadAfterTalk, Cond.methodLink RL 118 yX10_rankOf, Cond.code yX10_rankOf cX10_rankOf mi_X10_rankOf.2.2.1 mi_X10_rankOf.2.2.2.1, Cond.instanceMethod yX10_rankOf, Cond.selects RX10 yX10_rankOf yX10_rankOf, Cond.methodLink RL 121 yX10_pancakeAt, Cond.code yX10_pancakeAt cX10_pancakeAt mi_X10_pancakeAt.2.2.1 mi_X10_pancakeAt.2.2.2.1, Cond.instanceMethod yX10_pancakeAt, Cond.selects RX10 yX10_pancakeAt yX10_pancakeAt, Cond.methodLink RL 124 yX10_isAccepted, Cond.code yX10_isAccepted cX10_isAccepted mi_X10_isAccepted.2.2.1 mi_X10_isAccepted.2.2.2.1, Cond.instanceMethod yX10_isAccepted, Cond.selects RX10 yX10_isAccepted yX10_isAccepted, Cond.methodLink RL 127 yX10_fillCount, Cond.code yX10_fillCount cX10_fillCount mi_X10_fillCount.2.2.1 mi_X10_fillCount.2.2.2.1, Cond.instanceMethod yX10_fillCount, Cond.selects RX10 yX10_fillCount yX10_fillCount, Cond.methodLink RL 130 yX10_moveCount, Cond.code yX10_moveCount cX10_moveCount mi_X10_moveCount.2.2.1 mi_X10_moveCount.2.2.2.1, Cond.instanceMethod yX10_moveCount, Cond.selects RX10 yX10_moveCount yX10_moveCount, Cond.methodLink RL 133 yX10_talkCount, Cond.code yX10_talkCount cX10_talkCount mi_X10_talkCount.2.2.1 mi_X10_talkCount.2.2.2.1, Cond.instanceMethod yX10_talkCount, Cond.selects RX10 yX10_talkCount yX10_talkCount, Cond.methodLink RL 136 yX10_changeCount, Cond.code yX10_changeCount cX10_changeCount mi_X10_changeCount.2.2.1 mi_X10_changeCount.2.2.2.1, Cond.instanceMethod yX10_changeCount, Cond.selects RX10 yX10_changeCount yX10_changeCount, Cond.methodLink RL 147 yX10_imbalance, Cond.code yX10_imbalance cX10_imbalance mi_X10_imbalance.2.2.1 mi_X10_imbalance.2.2.2.1, Cond.instanceMethod yX10_imbalance, Cond.selects RX10 yX10_imbalance yX10_imbalance, Cond.methodLink RL 150 yX10_writePancake, Cond.code yX10_writePancake cX10_writePancake mi_X10_writePancake.2.2.1 mi_X10_writePancake.2.2.2.1, Cond.instanceMethod yX10_writePancake, Cond.selects RX10 yX10_writePancake yX10_writePancake]
theorem hbW2_t : hbW2.all (fun w => decide (w ∈ tables_1)) = true := by decide +kernel
theorem hbW2_g : hbW2.all ev_gw = true := by decide +kernel
theorem hbW2_w {w : Cond} (h : w ∈ hbW2) : w ∈ ev_wd := wd_t (of_decide_eq_true (List.all_eq_true.mp hbW2_t w h)) (List.all_eq_true.mp hbW2_g w h)
theorem hbW2_i {w : Cond} (i : Nat) (h : hbW2[i]? = some w) : w ∈ ev_wd := hbW2_w (List.mem_of_getElem? h)
abbrev hy_adjustedScore : ev_Mi := (yL_adjustedScore, cL_adjustedScore, 5, some .int, mi_X10_adjustedScore.2.2.2.2 + 1)
abbrev hh_adjustedScore : List (Nat × Nat × Nat × Nat) := [(0, 10, 13, 21), (0, 10, 17, 13)]
theorem hd_adjustedScore : decode cL_adjustedScore 0 = .ok (.aload_n 3, 1) ∧ decode cL_adjustedScore 1 = .ok (.iconst 0, 1) ∧ decode cL_adjustedScore 2 = .ok (.aload_n 0, 1) ∧ decode cL_adjustedScore 3 = .ok (.iload_n 1, 1) ∧ decode cL_adjustedScore 4 = .ok (.iload_n 2, 1) := by decide +kernel
theorem he_adjustedScore : decode cL_adjustedScore 5 = .ok (.invokevirtual 103, 3) ∧ decode cL_adjustedScore 8 = .ok (.i2l, 1) ∧ decode cL_adjustedScore 9 = .ok (.lastore, 1) ∧ decode cL_adjustedScore 10 = .ok (.goto 11, 3) ∧ decode cL_adjustedScore 21 = .ok (.iconst 0, 1) ∧ decode cL_adjustedScore 22 = .ok (.ireturn, 1) := by decide +kernel
theorem hw_adjustedScore : eh_ok RL 103 2 mi_X10_adjustedScore ∧ Cond.instanceMethod yX10_adjustedScore ∈ ev_wd ∧ Cond.selects RX10 yX10_adjustedScore yX10_adjustedScore ∈ ev_wd := ⟨⟨hbW2_i 0 rfl, wd_i, hbW2_i 1 rfl, Nat.le_of_ble_eq_true rfl, by decide +kernel⟩, hbW2_i 2 rfl, hbW2_i 3 rfl⟩
theorem hc_adjustedScore_0 : hb_h hy_adjustedScore 13 1 := Or.inr ⟨4, by decide, by decide +kernel, by decide +kernel, by decide +kernel⟩
theorem hc_adjustedScore_1 : hb_h hy_adjustedScore 17 2 := Or.inr ⟨4, by decide, by decide +kernel, by decide +kernel, by decide +kernel⟩
theorem hE_adjustedScore : ∀ E ∈ [eI, eO], ∃ h j, hb_x hh_adjustedScore 5 E h ∧ hb_h hy_adjustedScore h j ∧ nI (hbi [eI, eO] E) = Int32.ofInt j := by
  intro E hE
  simp only [List.mem_cons, List.not_mem_nil, or_false] at hE
  rcases hE with rfl | rfl
  · exact ⟨13, 1, hbx_1 (by decide) (by decide) cl_21, hc_adjustedScore_0, hn_1⟩
  · exact ⟨17, 2, hbx_2 (by decide) (by decide) cl_13 (by decide) hme_I ne_OI cl_21, hc_adjustedScore_1, hn_2 ne_OI⟩
theorem hb_adjustedScore (hok : ev_ok sh_S G) (hnc : NCs G) (a b : Int32) {res' : ev_R} (hT : ev_T sh_S G mi_X10_adjustedScore (.ref 0 :: [.int a, .int b]) μ res') (hv : (∃ v μ1, res' = .inl (some (.int v), μ1)) ∨ ∃ E μ1, res' = .inr (E, μ1) ∧ E ∈ [eI, eO]) : hb_T G hy_adjustedScore hh_adjustedScore [.ref 0, .int a, .int b, .ref 310] μ (hbn [eI, eO] res') (hbm res') := by
  obtain ⟨d0, d1, d2, d3, d4⟩ := hd_adjustedScore
  refine HL_T rfl rfl hok (Nat.le_of_ble_eq_true rfl) ?_
  refine HL_al d0 (a := 310) rfl ?_
  refine HL_icv d1 (v := 0) rfl ?_
  refine HL_al d2 (a := 0) rfl ?_
  refine HL_il d3 (a := a) rfl ?_
  refine HL_il d4 (a := b) rfl ?_
  exact hb_A (As := [.int a, .int b]) hnc hw_adjustedScore rfl (Nat.lt_succ_self _) (t := 21) he_adjustedScore (by decide) sb_IO hE_adjustedScore hT hv
abbrev hy_totalOf : ev_Mi := (yL_totalOf, cL_totalOf, 4, some .int, mi_X10_totalOf.2.2.2.2 + 1)
abbrev hh_totalOf : List (Nat × Nat × Nat × Nat) := [(0, 9, 12, 21), (0, 9, 15, 13)]
theorem hd_totalOf : decode cL_totalOf 0 = .ok (.aload_n 2, 1) ∧ decode cL_totalOf 1 = .ok (.iconst 0, 1) ∧ decode cL_totalOf 2 = .ok (.aload_n 0, 1) ∧ decode cL_totalOf 3 = .ok (.iload_n 1, 1) := by decide +kernel
theorem he_totalOf : decode cL_totalOf 4 = .ok (.invokevirtual 106, 3) ∧ decode cL_totalOf 7 = .ok (.i2l, 1) ∧ decode cL_totalOf 8 = .ok (.lastore, 1) ∧ decode cL_totalOf 9 = .ok (.goto 9, 3) ∧ decode cL_totalOf 18 = .ok (.iconst 0, 1) ∧ decode cL_totalOf 19 = .ok (.ireturn, 1) := by decide +kernel
theorem hw_totalOf : eh_ok RL 106 1 mi_X10_totalOf ∧ Cond.instanceMethod yX10_totalOf ∈ ev_wd ∧ Cond.selects RX10 yX10_totalOf yX10_totalOf ∈ ev_wd := ⟨⟨hbW2_i 4 rfl, wd_i, hbW2_i 5 rfl, Nat.le_of_ble_eq_true rfl, by decide +kernel⟩, hbW2_i 6 rfl, hbW2_i 7 rfl⟩
theorem hc_totalOf_0 : hb_h hy_totalOf 12 1 := Or.inl ⟨3, by decide, by decide +kernel, by decide +kernel, by decide +kernel⟩
theorem hc_totalOf_1 : hb_h hy_totalOf 15 2 := Or.inl ⟨3, by decide, by decide +kernel, by decide +kernel, by decide +kernel⟩
theorem hE_totalOf : ∀ E ∈ [eI, eO], ∃ h j, hb_x hh_totalOf 4 E h ∧ hb_h hy_totalOf h j ∧ nI (hbi [eI, eO] E) = Int32.ofInt j := by
  intro E hE
  simp only [List.mem_cons, List.not_mem_nil, or_false] at hE
  rcases hE with rfl | rfl
  · exact ⟨12, 1, hbx_1 (by decide) (by decide) cl_21, hc_totalOf_0, hn_1⟩
  · exact ⟨15, 2, hbx_2 (by decide) (by decide) cl_13 (by decide) hme_I ne_OI cl_21, hc_totalOf_1, hn_2 ne_OI⟩
theorem hb_totalOf (hok : ev_ok sh_S G) (hnc : NCs G) (a : Int32) {res' : ev_R} (hT : ev_T sh_S G mi_X10_totalOf (.ref 0 :: [.int a]) μ res') (hv : (∃ v μ1, res' = .inl (some (.int v), μ1)) ∨ ∃ E μ1, res' = .inr (E, μ1) ∧ E ∈ [eI, eO]) : hb_T G hy_totalOf hh_totalOf [.ref 0, .int a, .ref 310] μ (hbn [eI, eO] res') (hbm res') := by
  obtain ⟨d0, d1, d2, d3⟩ := hd_totalOf
  refine HL_T rfl rfl hok (Nat.le_of_ble_eq_true rfl) ?_
  refine HL_al d0 (a := 310) rfl ?_
  refine HL_icv d1 (v := 0) rfl ?_
  refine HL_al d2 (a := 0) rfl ?_
  refine HL_il d3 (a := a) rfl ?_
  exact hb_A (As := [.int a]) hnc hw_totalOf rfl (Nat.lt_succ_self _) (t := 18) he_totalOf (by decide) sb_IO hE_totalOf hT hv
abbrev hy_spreadOf : ev_Mi := (yL_spreadOf, cL_spreadOf, 4, some .int, mi_X10_spreadOf.2.2.2.2 + 1)
abbrev hh_spreadOf : List (Nat × Nat × Nat × Nat) := [(0, 9, 12, 21), (0, 9, 15, 13)]
theorem hd_spreadOf : decode cL_spreadOf 0 = .ok (.aload_n 2, 1) ∧ decode cL_spreadOf 1 = .ok (.iconst 0, 1) ∧ decode cL_spreadOf 2 = .ok (.aload_n 0, 1) ∧ decode cL_spreadOf 3 = .ok (.iload_n 1, 1) := by decide +kernel
theorem he_spreadOf : decode cL_spreadOf 4 = .ok (.invokevirtual 109, 3) ∧ decode cL_spreadOf 7 = .ok (.i2l, 1) ∧ decode cL_spreadOf 8 = .ok (.lastore, 1) ∧ decode cL_spreadOf 9 = .ok (.goto 9, 3) ∧ decode cL_spreadOf 18 = .ok (.iconst 0, 1) ∧ decode cL_spreadOf 19 = .ok (.ireturn, 1) := by decide +kernel
theorem hw_spreadOf : eh_ok RL 109 1 mi_X10_spreadOf ∧ Cond.instanceMethod yX10_spreadOf ∈ ev_wd ∧ Cond.selects RX10 yX10_spreadOf yX10_spreadOf ∈ ev_wd := ⟨⟨hbW2_i 8 rfl, wd_i, hbW2_i 9 rfl, Nat.le_of_ble_eq_true rfl, by decide +kernel⟩, hbW2_i 10 rfl, hbW2_i 11 rfl⟩
theorem hc_spreadOf_0 : hb_h hy_spreadOf 12 1 := Or.inl ⟨3, by decide, by decide +kernel, by decide +kernel, by decide +kernel⟩
theorem hc_spreadOf_1 : hb_h hy_spreadOf 15 2 := Or.inl ⟨3, by decide, by decide +kernel, by decide +kernel, by decide +kernel⟩
theorem hE_spreadOf : ∀ E ∈ [eI, eO], ∃ h j, hb_x hh_spreadOf 4 E h ∧ hb_h hy_spreadOf h j ∧ nI (hbi [eI, eO] E) = Int32.ofInt j := by
  intro E hE
  simp only [List.mem_cons, List.not_mem_nil, or_false] at hE
  rcases hE with rfl | rfl
  · exact ⟨12, 1, hbx_1 (by decide) (by decide) cl_21, hc_spreadOf_0, hn_1⟩
  · exact ⟨15, 2, hbx_2 (by decide) (by decide) cl_13 (by decide) hme_I ne_OI cl_21, hc_spreadOf_1, hn_2 ne_OI⟩
theorem hb_spreadOf (hok : ev_ok sh_S G) (hnc : NCs G) (a : Int32) {res' : ev_R} (hT : ev_T sh_S G mi_X10_spreadOf (.ref 0 :: [.int a]) μ res') (hv : (∃ v μ1, res' = .inl (some (.int v), μ1)) ∨ ∃ E μ1, res' = .inr (E, μ1) ∧ E ∈ [eI, eO]) : hb_T G hy_spreadOf hh_spreadOf [.ref 0, .int a, .ref 310] μ (hbn [eI, eO] res') (hbm res') := by
  obtain ⟨d0, d1, d2, d3⟩ := hd_spreadOf
  refine HL_T rfl rfl hok (Nat.le_of_ble_eq_true rfl) ?_
  refine HL_al d0 (a := 310) rfl ?_
  refine HL_icv d1 (v := 0) rfl ?_
  refine HL_al d2 (a := 0) rfl ?_
  refine HL_il d3 (a := a) rfl ?_
  exact hb_A (As := [.int a]) hnc hw_spreadOf rfl (Nat.lt_succ_self _) (t := 18) he_spreadOf (by decide) sb_IO hE_spreadOf hT hv
abbrev hy_needsTalk : ev_Mi := (yL_needsTalk, cL_needsTalk, 4, some .int, mi_X10_needsTalk.2.2.2.2 + 1)
abbrev hh_needsTalk : List (Nat × Nat × Nat × Nat) := [(0, 16, 19, 21), (0, 16, 22, 13)]
theorem hd_needsTalk : decode cL_needsTalk 0 = .ok (.aload_n 2, 1) ∧ decode cL_needsTalk 1 = .ok (.iconst 0, 1) ∧ decode cL_needsTalk 2 = .ok (.aload_n 0, 1) ∧ decode cL_needsTalk 3 = .ok (.iload_n 1, 1) := by decide +kernel
theorem he_needsTalk : decode cL_needsTalk 4 = .ok (.invokevirtual 112, 3) ∧ decode cL_needsTalk 7 = .ok (.ifCond .eq 7, 3) ∧ decode cL_needsTalk 10 = .ok (.lconst 1, 1) ∧ decode cL_needsTalk 11 = .ok (.goto 4, 3) ∧ decode cL_needsTalk 14 = .ok (.lconst 0, 1) ∧ decode cL_needsTalk 15 = .ok (.lastore, 1) ∧ decode cL_needsTalk 16 = .ok (.goto 9, 3) ∧ decode cL_needsTalk 25 = .ok (.iconst 0, 1) ∧ decode cL_needsTalk 26 = .ok (.ireturn, 1) := by decide +kernel
theorem hw_needsTalk : eh_ok RL 112 1 mi_X10_needsTalk ∧ Cond.instanceMethod yX10_needsTalk ∈ ev_wd ∧ Cond.selects RX10 yX10_needsTalk yX10_needsTalk ∈ ev_wd := ⟨⟨hbW2_i 12 rfl, wd_i, hbW2_i 13 rfl, Nat.le_of_ble_eq_true rfl, by decide +kernel⟩, hbW2_i 14 rfl, hbW2_i 15 rfl⟩
theorem hc_needsTalk_0 : hb_h hy_needsTalk 19 1 := Or.inl ⟨3, by decide, by decide +kernel, by decide +kernel, by decide +kernel⟩
theorem hc_needsTalk_1 : hb_h hy_needsTalk 22 2 := Or.inl ⟨3, by decide, by decide +kernel, by decide +kernel, by decide +kernel⟩
theorem hE_needsTalk : ∀ E ∈ [eI, eO], ∃ h j, hb_x hh_needsTalk 4 E h ∧ hb_h hy_needsTalk h j ∧ nI (hbi [eI, eO] E) = Int32.ofInt j := by
  intro E hE
  simp only [List.mem_cons, List.not_mem_nil, or_false] at hE
  rcases hE with rfl | rfl
  · exact ⟨19, 1, hbx_1 (by decide) (by decide) cl_21, hc_needsTalk_0, hn_1⟩
  · exact ⟨22, 2, hbx_2 (by decide) (by decide) cl_13 (by decide) hme_I ne_OI cl_21, hc_needsTalk_1, hn_2 ne_OI⟩
theorem hb_needsTalk (hok : ev_ok sh_S G) (hnc : NCs G) (a : Int32) {res' : ev_R} (hT : ev_T sh_S G mi_X10_needsTalk (.ref 0 :: [.int a]) μ res') (hv : (∃ v μ1, res' = .inl (some (.int v), μ1)) ∨ ∃ E μ1, res' = .inr (E, μ1) ∧ E ∈ [eI, eO]) : hb_T G hy_needsTalk hh_needsTalk [.ref 0, .int a, .ref 310] μ (hbn [eI, eO] res') (hbz res') := by
  obtain ⟨d0, d1, d2, d3⟩ := hd_needsTalk
  refine HL_T rfl rfl hok (Nat.le_of_ble_eq_true rfl) ?_
  refine HL_al d0 (a := 310) rfl ?_
  refine HL_icv d1 (v := 0) rfl ?_
  refine HL_al d2 (a := 0) rfl ?_
  refine HL_il d3 (a := a) rfl ?_
  exact hb_Z (As := [.int a]) hnc hw_needsTalk rfl (Nat.lt_succ_self _) (t := 25) he_needsTalk (by decide) sb_IO hE_needsTalk hT hv
abbrev hy_spreadAfterTalk : ev_Mi := (yL_spreadAfterTalk, cL_spreadAfterTalk, 4, some .int, mi_X10_spreadAfterTalk.2.2.2.2 + 1)
abbrev hh_spreadAfterTalk : List (Nat × Nat × Nat × Nat) := [(0, 9, 12, 21), (0, 9, 15, 13)]
theorem hd_spreadAfterTalk : decode cL_spreadAfterTalk 0 = .ok (.aload_n 2, 1) ∧ decode cL_spreadAfterTalk 1 = .ok (.iconst 0, 1) ∧ decode cL_spreadAfterTalk 2 = .ok (.aload_n 0, 1) ∧ decode cL_spreadAfterTalk 3 = .ok (.iload_n 1, 1) := by decide +kernel
theorem he_spreadAfterTalk : decode cL_spreadAfterTalk 4 = .ok (.invokevirtual 115, 3) ∧ decode cL_spreadAfterTalk 7 = .ok (.i2l, 1) ∧ decode cL_spreadAfterTalk 8 = .ok (.lastore, 1) ∧ decode cL_spreadAfterTalk 9 = .ok (.goto 9, 3) ∧ decode cL_spreadAfterTalk 18 = .ok (.iconst 0, 1) ∧ decode cL_spreadAfterTalk 19 = .ok (.ireturn, 1) := by decide +kernel
theorem hw_spreadAfterTalk : eh_ok RL 115 1 mi_X10_spreadAfterTalk ∧ Cond.instanceMethod yX10_spreadAfterTalk ∈ ev_wd ∧ Cond.selects RX10 yX10_spreadAfterTalk yX10_spreadAfterTalk ∈ ev_wd := ⟨⟨hbW2_i 16 rfl, wd_i, hbW2_i 17 rfl, Nat.le_of_ble_eq_true rfl, by decide +kernel⟩, hbW2_i 18 rfl, hbW2_i 19 rfl⟩
theorem hc_spreadAfterTalk_0 : hb_h hy_spreadAfterTalk 12 1 := Or.inl ⟨3, by decide, by decide +kernel, by decide +kernel, by decide +kernel⟩
theorem hc_spreadAfterTalk_1 : hb_h hy_spreadAfterTalk 15 2 := Or.inl ⟨3, by decide, by decide +kernel, by decide +kernel, by decide +kernel⟩
theorem hE_spreadAfterTalk : ∀ E ∈ [eI, eO], ∃ h j, hb_x hh_spreadAfterTalk 4 E h ∧ hb_h hy_spreadAfterTalk h j ∧ nI (hbi [eI, eO] E) = Int32.ofInt j := by
  intro E hE
  simp only [List.mem_cons, List.not_mem_nil, or_false] at hE
  rcases hE with rfl | rfl
  · exact ⟨12, 1, hbx_1 (by decide) (by decide) cl_21, hc_spreadAfterTalk_0, hn_1⟩
  · exact ⟨15, 2, hbx_2 (by decide) (by decide) cl_13 (by decide) hme_I ne_OI cl_21, hc_spreadAfterTalk_1, hn_2 ne_OI⟩
theorem hb_spreadAfterTalk (hok : ev_ok sh_S G) (hnc : NCs G) (a : Int32) {res' : ev_R} (hT : ev_T sh_S G mi_X10_spreadAfterTalk (.ref 0 :: [.int a]) μ res') (hv : (∃ v μ1, res' = .inl (some (.int v), μ1)) ∨ ∃ E μ1, res' = .inr (E, μ1) ∧ E ∈ [eI, eO]) : hb_T G hy_spreadAfterTalk hh_spreadAfterTalk [.ref 0, .int a, .ref 310] μ (hbn [eI, eO] res') (hbm res') := by
  obtain ⟨d0, d1, d2, d3⟩ := hd_spreadAfterTalk
  refine HL_T rfl rfl hok (Nat.le_of_ble_eq_true rfl) ?_
  refine HL_al d0 (a := 310) rfl ?_
  refine HL_icv d1 (v := 0) rfl ?_
  refine HL_al d2 (a := 0) rfl ?_
  refine HL_il d3 (a := a) rfl ?_
  exact hb_A (As := [.int a]) hnc hw_spreadAfterTalk rfl (Nat.lt_succ_self _) (t := 18) he_spreadAfterTalk (by decide) sb_IO hE_spreadAfterTalk hT hv
abbrev hy_rankOf : ev_Mi := (yL_rankOf, cL_rankOf, 4, some .int, mi_X10_rankOf.2.2.2.2 + 1)
abbrev hh_rankOf : List (Nat × Nat × Nat × Nat) := [(0, 9, 12, 21), (0, 9, 15, 13)]
theorem hd_rankOf : decode cL_rankOf 0 = .ok (.aload_n 2, 1) ∧ decode cL_rankOf 1 = .ok (.iconst 0, 1) ∧ decode cL_rankOf 2 = .ok (.aload_n 0, 1) ∧ decode cL_rankOf 3 = .ok (.iload_n 1, 1) := by decide +kernel
theorem he_rankOf : decode cL_rankOf 4 = .ok (.invokevirtual 118, 3) ∧ decode cL_rankOf 7 = .ok (.i2l, 1) ∧ decode cL_rankOf 8 = .ok (.lastore, 1) ∧ decode cL_rankOf 9 = .ok (.goto 9, 3) ∧ decode cL_rankOf 18 = .ok (.iconst 0, 1) ∧ decode cL_rankOf 19 = .ok (.ireturn, 1) := by decide +kernel
theorem hw_rankOf : eh_ok RL 118 1 mi_X10_rankOf ∧ Cond.instanceMethod yX10_rankOf ∈ ev_wd ∧ Cond.selects RX10 yX10_rankOf yX10_rankOf ∈ ev_wd := ⟨⟨hbW2_i 20 rfl, wd_i, hbW2_i 21 rfl, Nat.le_of_ble_eq_true rfl, by decide +kernel⟩, hbW2_i 22 rfl, hbW2_i 23 rfl⟩
theorem hc_rankOf_0 : hb_h hy_rankOf 12 1 := Or.inl ⟨3, by decide, by decide +kernel, by decide +kernel, by decide +kernel⟩
theorem hc_rankOf_1 : hb_h hy_rankOf 15 2 := Or.inl ⟨3, by decide, by decide +kernel, by decide +kernel, by decide +kernel⟩
theorem hE_rankOf : ∀ E ∈ [eI, eO], ∃ h j, hb_x hh_rankOf 4 E h ∧ hb_h hy_rankOf h j ∧ nI (hbi [eI, eO] E) = Int32.ofInt j := by
  intro E hE
  simp only [List.mem_cons, List.not_mem_nil, or_false] at hE
  rcases hE with rfl | rfl
  · exact ⟨12, 1, hbx_1 (by decide) (by decide) cl_21, hc_rankOf_0, hn_1⟩
  · exact ⟨15, 2, hbx_2 (by decide) (by decide) cl_13 (by decide) hme_I ne_OI cl_21, hc_rankOf_1, hn_2 ne_OI⟩
theorem hb_rankOf (hok : ev_ok sh_S G) (hnc : NCs G) (a : Int32) {res' : ev_R} (hT : ev_T sh_S G mi_X10_rankOf (.ref 0 :: [.int a]) μ res') (hv : (∃ v μ1, res' = .inl (some (.int v), μ1)) ∨ ∃ E μ1, res' = .inr (E, μ1) ∧ E ∈ [eI, eO]) : hb_T G hy_rankOf hh_rankOf [.ref 0, .int a, .ref 310] μ (hbn [eI, eO] res') (hbm res') := by
  obtain ⟨d0, d1, d2, d3⟩ := hd_rankOf
  refine HL_T rfl rfl hok (Nat.le_of_ble_eq_true rfl) ?_
  refine HL_al d0 (a := 310) rfl ?_
  refine HL_icv d1 (v := 0) rfl ?_
  refine HL_al d2 (a := 0) rfl ?_
  refine HL_il d3 (a := a) rfl ?_
  exact hb_A (As := [.int a]) hnc hw_rankOf rfl (Nat.lt_succ_self _) (t := 18) he_rankOf (by decide) sb_IO hE_rankOf hT hv
abbrev hy_pancakeAt : ev_Mi := (yL_pancakeAt, cL_pancakeAt, 4, some .int, mi_X10_pancakeAt.2.2.2.2 + 1)
abbrev hh_pancakeAt : List (Nat × Nat × Nat × Nat) := [(0, 9, 12, 21), (0, 9, 15, 13)]
theorem hd_pancakeAt : decode cL_pancakeAt 0 = .ok (.aload_n 2, 1) ∧ decode cL_pancakeAt 1 = .ok (.iconst 0, 1) ∧ decode cL_pancakeAt 2 = .ok (.aload_n 0, 1) ∧ decode cL_pancakeAt 3 = .ok (.iload_n 1, 1) := by decide +kernel
theorem he_pancakeAt : decode cL_pancakeAt 4 = .ok (.invokevirtual 121, 3) ∧ decode cL_pancakeAt 7 = .ok (.i2l, 1) ∧ decode cL_pancakeAt 8 = .ok (.lastore, 1) ∧ decode cL_pancakeAt 9 = .ok (.goto 9, 3) ∧ decode cL_pancakeAt 18 = .ok (.iconst 0, 1) ∧ decode cL_pancakeAt 19 = .ok (.ireturn, 1) := by decide +kernel
theorem hw_pancakeAt : eh_ok RL 121 1 mi_X10_pancakeAt ∧ Cond.instanceMethod yX10_pancakeAt ∈ ev_wd ∧ Cond.selects RX10 yX10_pancakeAt yX10_pancakeAt ∈ ev_wd := ⟨⟨hbW2_i 24 rfl, wd_i, hbW2_i 25 rfl, Nat.le_of_ble_eq_true rfl, by decide +kernel⟩, hbW2_i 26 rfl, hbW2_i 27 rfl⟩
theorem hc_pancakeAt_0 : hb_h hy_pancakeAt 12 1 := Or.inl ⟨3, by decide, by decide +kernel, by decide +kernel, by decide +kernel⟩
theorem hc_pancakeAt_1 : hb_h hy_pancakeAt 15 2 := Or.inl ⟨3, by decide, by decide +kernel, by decide +kernel, by decide +kernel⟩
theorem hE_pancakeAt : ∀ E ∈ [eI, eO], ∃ h j, hb_x hh_pancakeAt 4 E h ∧ hb_h hy_pancakeAt h j ∧ nI (hbi [eI, eO] E) = Int32.ofInt j := by
  intro E hE
  simp only [List.mem_cons, List.not_mem_nil, or_false] at hE
  rcases hE with rfl | rfl
  · exact ⟨12, 1, hbx_1 (by decide) (by decide) cl_21, hc_pancakeAt_0, hn_1⟩
  · exact ⟨15, 2, hbx_2 (by decide) (by decide) cl_13 (by decide) hme_I ne_OI cl_21, hc_pancakeAt_1, hn_2 ne_OI⟩
theorem hb_pancakeAt (hok : ev_ok sh_S G) (hnc : NCs G) (a : Int32) {res' : ev_R} (hT : ev_T sh_S G mi_X10_pancakeAt (.ref 0 :: [.int a]) μ res') (hv : (∃ v μ1, res' = .inl (some (.int v), μ1)) ∨ ∃ E μ1, res' = .inr (E, μ1) ∧ E ∈ [eI, eO]) : hb_T G hy_pancakeAt hh_pancakeAt [.ref 0, .int a, .ref 310] μ (hbn [eI, eO] res') (hbm res') := by
  obtain ⟨d0, d1, d2, d3⟩ := hd_pancakeAt
  refine HL_T rfl rfl hok (Nat.le_of_ble_eq_true rfl) ?_
  refine HL_al d0 (a := 310) rfl ?_
  refine HL_icv d1 (v := 0) rfl ?_
  refine HL_al d2 (a := 0) rfl ?_
  refine HL_il d3 (a := a) rfl ?_
  exact hb_A (As := [.int a]) hnc hw_pancakeAt rfl (Nat.lt_succ_self _) (t := 18) he_pancakeAt (by decide) sb_IO hE_pancakeAt hT hv
abbrev hy_isAccepted : ev_Mi := (yL_isAccepted, cL_isAccepted, 4, some .int, mi_X10_isAccepted.2.2.2.2 + 1)
abbrev hh_isAccepted : List (Nat × Nat × Nat × Nat) := [(0, 16, 19, 21), (0, 16, 22, 13)]
theorem hd_isAccepted : decode cL_isAccepted 0 = .ok (.aload_n 2, 1) ∧ decode cL_isAccepted 1 = .ok (.iconst 0, 1) ∧ decode cL_isAccepted 2 = .ok (.aload_n 0, 1) ∧ decode cL_isAccepted 3 = .ok (.iload_n 1, 1) := by decide +kernel
theorem he_isAccepted : decode cL_isAccepted 4 = .ok (.invokevirtual 124, 3) ∧ decode cL_isAccepted 7 = .ok (.ifCond .eq 7, 3) ∧ decode cL_isAccepted 10 = .ok (.lconst 1, 1) ∧ decode cL_isAccepted 11 = .ok (.goto 4, 3) ∧ decode cL_isAccepted 14 = .ok (.lconst 0, 1) ∧ decode cL_isAccepted 15 = .ok (.lastore, 1) ∧ decode cL_isAccepted 16 = .ok (.goto 9, 3) ∧ decode cL_isAccepted 25 = .ok (.iconst 0, 1) ∧ decode cL_isAccepted 26 = .ok (.ireturn, 1) := by decide +kernel
theorem hw_isAccepted : eh_ok RL 124 1 mi_X10_isAccepted ∧ Cond.instanceMethod yX10_isAccepted ∈ ev_wd ∧ Cond.selects RX10 yX10_isAccepted yX10_isAccepted ∈ ev_wd := ⟨⟨hbW2_i 28 rfl, wd_i, hbW2_i 29 rfl, Nat.le_of_ble_eq_true rfl, by decide +kernel⟩, hbW2_i 30 rfl, hbW2_i 31 rfl⟩
theorem hc_isAccepted_0 : hb_h hy_isAccepted 19 1 := Or.inl ⟨3, by decide, by decide +kernel, by decide +kernel, by decide +kernel⟩
theorem hc_isAccepted_1 : hb_h hy_isAccepted 22 2 := Or.inl ⟨3, by decide, by decide +kernel, by decide +kernel, by decide +kernel⟩
theorem hE_isAccepted : ∀ E ∈ [eI, eO], ∃ h j, hb_x hh_isAccepted 4 E h ∧ hb_h hy_isAccepted h j ∧ nI (hbi [eI, eO] E) = Int32.ofInt j := by
  intro E hE
  simp only [List.mem_cons, List.not_mem_nil, or_false] at hE
  rcases hE with rfl | rfl
  · exact ⟨19, 1, hbx_1 (by decide) (by decide) cl_21, hc_isAccepted_0, hn_1⟩
  · exact ⟨22, 2, hbx_2 (by decide) (by decide) cl_13 (by decide) hme_I ne_OI cl_21, hc_isAccepted_1, hn_2 ne_OI⟩
theorem hb_isAccepted (hok : ev_ok sh_S G) (hnc : NCs G) (a : Int32) {res' : ev_R} (hT : ev_T sh_S G mi_X10_isAccepted (.ref 0 :: [.int a]) μ res') (hv : (∃ v μ1, res' = .inl (some (.int v), μ1)) ∨ ∃ E μ1, res' = .inr (E, μ1) ∧ E ∈ [eI, eO]) : hb_T G hy_isAccepted hh_isAccepted [.ref 0, .int a, .ref 310] μ (hbn [eI, eO] res') (hbz res') := by
  obtain ⟨d0, d1, d2, d3⟩ := hd_isAccepted
  refine HL_T rfl rfl hok (Nat.le_of_ble_eq_true rfl) ?_
  refine HL_al d0 (a := 310) rfl ?_
  refine HL_icv d1 (v := 0) rfl ?_
  refine HL_al d2 (a := 0) rfl ?_
  refine HL_il d3 (a := a) rfl ?_
  exact hb_Z (As := [.int a]) hnc hw_isAccepted rfl (Nat.lt_succ_self _) (t := 25) he_isAccepted (by decide) sb_IO hE_isAccepted hT hv
abbrev hy_fillCount : ev_Mi := (yL_fillCount, cL_fillCount, 3, some .int, mi_X10_fillCount.2.2.2.2 + 1)
abbrev hh_fillCount : List (Nat × Nat × Nat × Nat) := [(0, 8, 11, 21)]
theorem hd_fillCount : decode cL_fillCount 0 = .ok (.aload_n 1, 1) ∧ decode cL_fillCount 1 = .ok (.iconst 0, 1) ∧ decode cL_fillCount 2 = .ok (.aload_n 0, 1) := by decide +kernel
theorem he_fillCount : decode cL_fillCount 3 = .ok (.invokevirtual 127, 3) ∧ decode cL_fillCount 6 = .ok (.i2l, 1) ∧ decode cL_fillCount 7 = .ok (.lastore, 1) ∧ decode cL_fillCount 8 = .ok (.goto 6, 3) ∧ decode cL_fillCount 14 = .ok (.iconst 0, 1) ∧ decode cL_fillCount 15 = .ok (.ireturn, 1) := by decide +kernel
theorem hw_fillCount : eh_ok RL 127 0 mi_X10_fillCount ∧ Cond.instanceMethod yX10_fillCount ∈ ev_wd ∧ Cond.selects RX10 yX10_fillCount yX10_fillCount ∈ ev_wd := ⟨⟨hbW2_i 32 rfl, wd_i, hbW2_i 33 rfl, Nat.le_of_ble_eq_true rfl, by decide +kernel⟩, hbW2_i 34 rfl, hbW2_i 35 rfl⟩
theorem hc_fillCount_0 : hb_h hy_fillCount 11 1 := Or.inl ⟨2, by decide, by decide +kernel, by decide +kernel, by decide +kernel⟩
theorem hE_fillCount : ∀ E ∈ [eI], ∃ h j, hb_x hh_fillCount 3 E h ∧ hb_h hy_fillCount h j ∧ nI (hbi [eI] E) = Int32.ofInt j := by
  intro E hE
  simp only [List.mem_cons, List.not_mem_nil, or_false] at hE
  subst hE
  exact ⟨11, 1, hbx_1 (by decide) (by decide) cl_21, hc_fillCount_0, hn_1⟩
theorem hb_fillCount (hok : ev_ok sh_S G) (hnc : NCs G) {res' : ev_R} (hT : ev_T sh_S G mi_X10_fillCount (.ref 0 :: []) μ res') (hv : (∃ v μ1, res' = .inl (some (.int v), μ1)) ∨ ∃ E μ1, res' = .inr (E, μ1) ∧ E ∈ [eI]) : hb_T G hy_fillCount hh_fillCount [.ref 0, .ref 310] μ (hbn [eI] res') (hbm res') := by
  obtain ⟨d0, d1, d2⟩ := hd_fillCount
  refine HL_T rfl rfl hok (Nat.le_of_ble_eq_true rfl) ?_
  refine HL_al d0 (a := 310) rfl ?_
  refine HL_icv d1 (v := 0) rfl ?_
  refine HL_al d2 (a := 0) rfl ?_
  exact hb_A (As := []) hnc hw_fillCount rfl (Nat.lt_succ_self _) (t := 14) he_fillCount (by decide) sb_I hE_fillCount hT hv
abbrev hy_moveCount : ev_Mi := (yL_moveCount, cL_moveCount, 3, some .int, mi_X10_moveCount.2.2.2.2 + 1)
abbrev hh_moveCount : List (Nat × Nat × Nat × Nat) := [(0, 8, 11, 21)]
theorem hd_moveCount : decode cL_moveCount 0 = .ok (.aload_n 1, 1) ∧ decode cL_moveCount 1 = .ok (.iconst 0, 1) ∧ decode cL_moveCount 2 = .ok (.aload_n 0, 1) := by decide +kernel
theorem he_moveCount : decode cL_moveCount 3 = .ok (.invokevirtual 130, 3) ∧ decode cL_moveCount 6 = .ok (.i2l, 1) ∧ decode cL_moveCount 7 = .ok (.lastore, 1) ∧ decode cL_moveCount 8 = .ok (.goto 6, 3) ∧ decode cL_moveCount 14 = .ok (.iconst 0, 1) ∧ decode cL_moveCount 15 = .ok (.ireturn, 1) := by decide +kernel
theorem hw_moveCount : eh_ok RL 130 0 mi_X10_moveCount ∧ Cond.instanceMethod yX10_moveCount ∈ ev_wd ∧ Cond.selects RX10 yX10_moveCount yX10_moveCount ∈ ev_wd := ⟨⟨hbW2_i 36 rfl, wd_i, hbW2_i 37 rfl, Nat.le_of_ble_eq_true rfl, by decide +kernel⟩, hbW2_i 38 rfl, hbW2_i 39 rfl⟩
theorem hc_moveCount_0 : hb_h hy_moveCount 11 1 := Or.inl ⟨2, by decide, by decide +kernel, by decide +kernel, by decide +kernel⟩
theorem hE_moveCount : ∀ E ∈ [eI], ∃ h j, hb_x hh_moveCount 3 E h ∧ hb_h hy_moveCount h j ∧ nI (hbi [eI] E) = Int32.ofInt j := by
  intro E hE
  simp only [List.mem_cons, List.not_mem_nil, or_false] at hE
  subst hE
  exact ⟨11, 1, hbx_1 (by decide) (by decide) cl_21, hc_moveCount_0, hn_1⟩
theorem hb_moveCount (hok : ev_ok sh_S G) (hnc : NCs G) {res' : ev_R} (hT : ev_T sh_S G mi_X10_moveCount (.ref 0 :: []) μ res') (hv : (∃ v μ1, res' = .inl (some (.int v), μ1)) ∨ ∃ E μ1, res' = .inr (E, μ1) ∧ E ∈ [eI]) : hb_T G hy_moveCount hh_moveCount [.ref 0, .ref 310] μ (hbn [eI] res') (hbm res') := by
  obtain ⟨d0, d1, d2⟩ := hd_moveCount
  refine HL_T rfl rfl hok (Nat.le_of_ble_eq_true rfl) ?_
  refine HL_al d0 (a := 310) rfl ?_
  refine HL_icv d1 (v := 0) rfl ?_
  refine HL_al d2 (a := 0) rfl ?_
  exact hb_A (As := []) hnc hw_moveCount rfl (Nat.lt_succ_self _) (t := 14) he_moveCount (by decide) sb_I hE_moveCount hT hv
abbrev hy_talkCount : ev_Mi := (yL_talkCount, cL_talkCount, 3, some .int, mi_X10_talkCount.2.2.2.2 + 1)
abbrev hh_talkCount : List (Nat × Nat × Nat × Nat) := [(0, 8, 11, 21)]
theorem hd_talkCount : decode cL_talkCount 0 = .ok (.aload_n 1, 1) ∧ decode cL_talkCount 1 = .ok (.iconst 0, 1) ∧ decode cL_talkCount 2 = .ok (.aload_n 0, 1) := by decide +kernel
theorem he_talkCount : decode cL_talkCount 3 = .ok (.invokevirtual 133, 3) ∧ decode cL_talkCount 6 = .ok (.i2l, 1) ∧ decode cL_talkCount 7 = .ok (.lastore, 1) ∧ decode cL_talkCount 8 = .ok (.goto 6, 3) ∧ decode cL_talkCount 14 = .ok (.iconst 0, 1) ∧ decode cL_talkCount 15 = .ok (.ireturn, 1) := by decide +kernel
theorem hw_talkCount : eh_ok RL 133 0 mi_X10_talkCount ∧ Cond.instanceMethod yX10_talkCount ∈ ev_wd ∧ Cond.selects RX10 yX10_talkCount yX10_talkCount ∈ ev_wd := ⟨⟨hbW2_i 40 rfl, wd_i, hbW2_i 41 rfl, Nat.le_of_ble_eq_true rfl, by decide +kernel⟩, hbW2_i 42 rfl, hbW2_i 43 rfl⟩
theorem hc_talkCount_0 : hb_h hy_talkCount 11 1 := Or.inl ⟨2, by decide, by decide +kernel, by decide +kernel, by decide +kernel⟩
theorem hE_talkCount : ∀ E ∈ [eI], ∃ h j, hb_x hh_talkCount 3 E h ∧ hb_h hy_talkCount h j ∧ nI (hbi [eI] E) = Int32.ofInt j := by
  intro E hE
  simp only [List.mem_cons, List.not_mem_nil, or_false] at hE
  subst hE
  exact ⟨11, 1, hbx_1 (by decide) (by decide) cl_21, hc_talkCount_0, hn_1⟩
theorem hb_talkCount (hok : ev_ok sh_S G) (hnc : NCs G) {res' : ev_R} (hT : ev_T sh_S G mi_X10_talkCount (.ref 0 :: []) μ res') (hv : (∃ v μ1, res' = .inl (some (.int v), μ1)) ∨ ∃ E μ1, res' = .inr (E, μ1) ∧ E ∈ [eI]) : hb_T G hy_talkCount hh_talkCount [.ref 0, .ref 310] μ (hbn [eI] res') (hbm res') := by
  obtain ⟨d0, d1, d2⟩ := hd_talkCount
  refine HL_T rfl rfl hok (Nat.le_of_ble_eq_true rfl) ?_
  refine HL_al d0 (a := 310) rfl ?_
  refine HL_icv d1 (v := 0) rfl ?_
  refine HL_al d2 (a := 0) rfl ?_
  exact hb_A (As := []) hnc hw_talkCount rfl (Nat.lt_succ_self _) (t := 14) he_talkCount (by decide) sb_I hE_talkCount hT hv
abbrev hy_changeCount : ev_Mi := (yL_changeCount, cL_changeCount, 3, some .int, mi_X10_changeCount.2.2.2.2 + 1)
abbrev hh_changeCount : List (Nat × Nat × Nat × Nat) := [(0, 8, 11, 21)]
theorem hd_changeCount : decode cL_changeCount 0 = .ok (.aload_n 1, 1) ∧ decode cL_changeCount 1 = .ok (.iconst 0, 1) ∧ decode cL_changeCount 2 = .ok (.aload_n 0, 1) := by decide +kernel
theorem he_changeCount : decode cL_changeCount 3 = .ok (.invokevirtual 136, 3) ∧ decode cL_changeCount 6 = .ok (.i2l, 1) ∧ decode cL_changeCount 7 = .ok (.lastore, 1) ∧ decode cL_changeCount 8 = .ok (.goto 6, 3) ∧ decode cL_changeCount 14 = .ok (.iconst 0, 1) ∧ decode cL_changeCount 15 = .ok (.ireturn, 1) := by decide +kernel
theorem hw_changeCount : eh_ok RL 136 0 mi_X10_changeCount ∧ Cond.instanceMethod yX10_changeCount ∈ ev_wd ∧ Cond.selects RX10 yX10_changeCount yX10_changeCount ∈ ev_wd := ⟨⟨hbW2_i 44 rfl, wd_i, hbW2_i 45 rfl, Nat.le_of_ble_eq_true rfl, by decide +kernel⟩, hbW2_i 46 rfl, hbW2_i 47 rfl⟩
theorem hc_changeCount_0 : hb_h hy_changeCount 11 1 := Or.inl ⟨2, by decide, by decide +kernel, by decide +kernel, by decide +kernel⟩
theorem hE_changeCount : ∀ E ∈ [eI], ∃ h j, hb_x hh_changeCount 3 E h ∧ hb_h hy_changeCount h j ∧ nI (hbi [eI] E) = Int32.ofInt j := by
  intro E hE
  simp only [List.mem_cons, List.not_mem_nil, or_false] at hE
  subst hE
  exact ⟨11, 1, hbx_1 (by decide) (by decide) cl_21, hc_changeCount_0, hn_1⟩
theorem hb_changeCount (hok : ev_ok sh_S G) (hnc : NCs G) {res' : ev_R} (hT : ev_T sh_S G mi_X10_changeCount (.ref 0 :: []) μ res') (hv : (∃ v μ1, res' = .inl (some (.int v), μ1)) ∨ ∃ E μ1, res' = .inr (E, μ1) ∧ E ∈ [eI]) : hb_T G hy_changeCount hh_changeCount [.ref 0, .ref 310] μ (hbn [eI] res') (hbm res') := by
  obtain ⟨d0, d1, d2⟩ := hd_changeCount
  refine HL_T rfl rfl hok (Nat.le_of_ble_eq_true rfl) ?_
  refine HL_al d0 (a := 310) rfl ?_
  refine HL_icv d1 (v := 0) rfl ?_
  refine HL_al d2 (a := 0) rfl ?_
  exact hb_A (As := []) hnc hw_changeCount rfl (Nat.lt_succ_self _) (t := 14) he_changeCount (by decide) sb_I hE_changeCount hT hv
abbrev hy_imbalance : ev_Mi := (yL_imbalance, cL_imbalance, 3, some .int, mi_X10_imbalance.2.2.2.2 + 1)
abbrev hh_imbalance : List (Nat × Nat × Nat × Nat) := [(0, 8, 11, 21)]
theorem hd_imbalance : decode cL_imbalance 0 = .ok (.aload_n 1, 1) ∧ decode cL_imbalance 1 = .ok (.iconst 0, 1) ∧ decode cL_imbalance 2 = .ok (.aload_n 0, 1) := by decide +kernel
theorem he_imbalance : decode cL_imbalance 3 = .ok (.invokevirtual 147, 3) ∧ decode cL_imbalance 6 = .ok (.i2l, 1) ∧ decode cL_imbalance 7 = .ok (.lastore, 1) ∧ decode cL_imbalance 8 = .ok (.goto 6, 3) ∧ decode cL_imbalance 14 = .ok (.iconst 0, 1) ∧ decode cL_imbalance 15 = .ok (.ireturn, 1) := by decide +kernel
theorem hw_imbalance : eh_ok RL 147 0 mi_X10_imbalance ∧ Cond.instanceMethod yX10_imbalance ∈ ev_wd ∧ Cond.selects RX10 yX10_imbalance yX10_imbalance ∈ ev_wd := ⟨⟨hbW2_i 48 rfl, wd_i, hbW2_i 49 rfl, Nat.le_of_ble_eq_true rfl, by decide +kernel⟩, hbW2_i 50 rfl, hbW2_i 51 rfl⟩
theorem hc_imbalance_0 : hb_h hy_imbalance 11 1 := Or.inl ⟨2, by decide, by decide +kernel, by decide +kernel, by decide +kernel⟩
theorem hE_imbalance : ∀ E ∈ [eI], ∃ h j, hb_x hh_imbalance 3 E h ∧ hb_h hy_imbalance h j ∧ nI (hbi [eI] E) = Int32.ofInt j := by
  intro E hE
  simp only [List.mem_cons, List.not_mem_nil, or_false] at hE
  subst hE
  exact ⟨11, 1, hbx_1 (by decide) (by decide) cl_21, hc_imbalance_0, hn_1⟩
theorem hb_imbalance (hok : ev_ok sh_S G) (hnc : NCs G) {res' : ev_R} (hT : ev_T sh_S G mi_X10_imbalance (.ref 0 :: []) μ res') (hv : (∃ v μ1, res' = .inl (some (.int v), μ1)) ∨ ∃ E μ1, res' = .inr (E, μ1) ∧ E ∈ [eI]) : hb_T G hy_imbalance hh_imbalance [.ref 0, .ref 310] μ (hbn [eI] res') (hbm res') := by
  obtain ⟨d0, d1, d2⟩ := hd_imbalance
  refine HL_T rfl rfl hok (Nat.le_of_ble_eq_true rfl) ?_
  refine HL_al d0 (a := 310) rfl ?_
  refine HL_icv d1 (v := 0) rfl ?_
  refine HL_al d2 (a := 0) rfl ?_
  exact hb_A (As := []) hnc hw_imbalance rfl (Nat.lt_succ_self _) (t := 14) he_imbalance (by decide) sb_I hE_imbalance hT hv
abbrev hy_writePancake : ev_Mi := (yL_writePancake, cL_writePancake, 4, some .int, mi_X10_writePancake.2.2.2.2 + 1)
abbrev hh_writePancake : List (Nat × Nat × Nat × Nat) := [(0, 9, 12, 21), (0, 9, 15, 13)]
theorem hd_writePancake : decode cL_writePancake 0 = .ok (.aload_n 2, 1) ∧ decode cL_writePancake 1 = .ok (.iconst 0, 1) ∧ decode cL_writePancake 2 = .ok (.aload_n 0, 1) ∧ decode cL_writePancake 3 = .ok (.iload_n 1, 1) := by decide +kernel
theorem he_writePancake : decode cL_writePancake 4 = .ok (.invokevirtual 150, 3) ∧ decode cL_writePancake 7 = .ok (.i2l, 1) ∧ decode cL_writePancake 8 = .ok (.lastore, 1) ∧ decode cL_writePancake 9 = .ok (.goto 9, 3) ∧ decode cL_writePancake 18 = .ok (.iconst 0, 1) ∧ decode cL_writePancake 19 = .ok (.ireturn, 1) := by decide +kernel
theorem hw_writePancake : eh_ok RL 150 1 mi_X10_writePancake ∧ Cond.instanceMethod yX10_writePancake ∈ ev_wd ∧ Cond.selects RX10 yX10_writePancake yX10_writePancake ∈ ev_wd := ⟨⟨hbW2_i 52 rfl, wd_i, hbW2_i 53 rfl, Nat.le_of_ble_eq_true rfl, by decide +kernel⟩, hbW2_i 54 rfl, hbW2_i 55 rfl⟩
theorem hc_writePancake_0 : hb_h hy_writePancake 12 1 := Or.inl ⟨3, by decide, by decide +kernel, by decide +kernel, by decide +kernel⟩
theorem hc_writePancake_1 : hb_h hy_writePancake 15 2 := Or.inl ⟨3, by decide, by decide +kernel, by decide +kernel, by decide +kernel⟩
theorem hE_writePancake : ∀ E ∈ [eI, eO], ∃ h j, hb_x hh_writePancake 4 E h ∧ hb_h hy_writePancake h j ∧ nI (hbi [eI, eO] E) = Int32.ofInt j := by
  intro E hE
  simp only [List.mem_cons, List.not_mem_nil, or_false] at hE
  rcases hE with rfl | rfl
  · exact ⟨12, 1, hbx_1 (by decide) (by decide) cl_21, hc_writePancake_0, hn_1⟩
  · exact ⟨15, 2, hbx_2 (by decide) (by decide) cl_13 (by decide) hme_I ne_OI cl_21, hc_writePancake_1, hn_2 ne_OI⟩
theorem hb_writePancake (hok : ev_ok sh_S G) (hnc : NCs G) (a : Int32) {res' : ev_R} (hT : ev_T sh_S G mi_X10_writePancake (.ref 0 :: [.int a]) μ res') (hv : (∃ v μ1, res' = .inl (some (.int v), μ1)) ∨ ∃ E μ1, res' = .inr (E, μ1) ∧ E ∈ [eI, eO]) : hb_T G hy_writePancake hh_writePancake [.ref 0, .int a, .ref 310] μ (hbn [eI, eO] res') (hbm res') := by
  obtain ⟨d0, d1, d2, d3⟩ := hd_writePancake
  refine HL_T rfl rfl hok (Nat.le_of_ble_eq_true rfl) ?_
  refine HL_al d0 (a := 310) rfl ?_
  refine HL_icv d1 (v := 0) rfl ?_
  refine HL_al d2 (a := 0) rfl ?_
  refine HL_il d3 (a := a) rfl ?_
  exact hb_A (As := [.int a]) hnc hw_writePancake rfl (Nat.lt_succ_self _) (t := 18) he_writePancake (by decide) sb_IO hE_writePancake hT hv
end Hbs
