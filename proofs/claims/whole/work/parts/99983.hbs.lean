/-! ===== the law's helpers, more of them (by program, wip/whole/genhb.py) ===== -/
section Hbs
variable {G : ev_G} {μ μ1 μ' : ev_M}
def hbW1 : List Cond := [Cond.methodLink RL 61 yX10_conflictCount, Cond.code yX10_conflictCount cX10_conflictCount mi_X10_conflictCount.2.2.1 mi_X10_conflictCount.2.2.2.1, Cond.instanceMethod yX10_conflictCount, Cond.selects RX10 yX10_conflictCount yX10_conflictCount, Cond.methodLink RL 64 yX10_favoriteOf, Cond.code yX10_favoriteOf cX10_favoriteOf mi_X10_favoriteOf.2.2.1 mi_X10_favoriteOf.2.2.2.1, Cond.instanceMethod yX10_favoriteOf, Cond.selects RX10 yX10_favoriteOf yX10_favoriteOf, Cond.methodLink RL 67 yX10_seatCount, Cond.code yX10_seatCount cX10_seatCount mi_X10_seatCount.2.2.1 mi_X10_seatCount.2.2.2.1, Cond.instanceMethod yX10_seatCount, Cond.selects RX10 yX10_seatCount yX10_seatCount, Cond.methodLink RL 70 yX10_seatAt, Cond.code yX10_seatAt cX10_seatAt mi_X10_seatAt.2.2.1 mi_X10_seatAt.2.2.2.1, Cond.instanceMethod yX10_seatAt, Cond.selects RX10 yX10_seatAt yX10_seatAt, Cond.methodLink RL 73 yX10_loadOf, Cond.code yX10_loadOf cX10_loadOf mi_X10_loadOf.2.2.1 mi_X10_loadOf.2.2.2.1, Cond.instanceMethod yX10_loadOf, Cond.selects RX10 yX10_loadOf yX10_loadOf, Cond.methodLink RL 76 yX10_refusal, Cond.code yX10_refusal cX10_refusal mi_X10_refusal.2.2.1 mi_X10_refusal.2.2.2.1, Cond.instanceMethod yX10_refusal, Cond.selects RX10 yX10_refusal yX10_refusal, Cond.methodLink RL 79 yX10_bestTaster, Cond.code yX10_bestTaster cX10_bestTaster mi_X10_bestTaster.2.2.1 mi_X10_bestTaster.2.2.2.1, Cond.instanceMethod yX10_bestTaster, Cond.selects RX10 yX10_bestTaster yX10_bestTaster, Cond.methodLink RL 82 yX10_lacking, Cond.code yX10_lacking cX10_lacking mi_X10_lacking.2.2.1 mi_X10_lacking.2.2.2.1, Cond.instanceMethod yX10_lacking, Cond.selects RX10 yX10_lacking yX10_lacking, Cond.methodLink RL 85 yX10_lackingAfterFilling, Cond.code yX10_lackingAfterFilling cX10_lackingAfterFilling mi_X10_lackingAfterFilling.2.2.1 mi_X10_lackingAfterFilling.2.2.2.1, Cond.instanceMethod yX10_lackingAfterFilling, Cond.selects RX10 yX10_lackingAfterFilling yX10_lackingAfterFilling, Cond.methodLink RL 88 yX10_scoreOf, Cond.code yX10_scoreOf cX10_scoreOf mi_X10_scoreOf.2.2.1 mi_X10_scoreOf.2.2.2.1, Cond.instanceMethod yX10_scoreOf, Cond.selects RX10 yX10_scoreOf yX10_scoreOf, Cond.methodLink RL 91 yX10_scoreCount, Cond.code yX10_scoreCount cX10_scoreCount mi_X10_scoreCount.2.2.1 mi_X10_scoreCount.2.2.2.1, Cond.instanceMethod yX10_scoreCount, Cond.selects RX10 yX10_scoreCount yX10_scoreCount, Cond.methodLink RL 94 yX10_meanOf, Cond.code yX10_meanOf cX10_meanOf mi_X10_meanOf.2.2.1 mi_X10_meanOf.2.2.2.1, Cond.instanceMethod yX10_meanOf, Cond.selects RX10 yX10_meanOf yX10_meanOf, Cond.methodLink RL 97 yX10_harshest, Cond.code yX10_harshest cX10_harshest mi_X10_harshest.2.2.1 mi_X10_harshest.2.2.2.1, Cond.instanceMethod yX10_harshest, Cond.selects RX10 yX10_harshest yX10_harshest, Cond.methodLink RL 100 yX10_disagreement, Cond.code yX10_disagreement cX10_disagreement mi_X10_disagreement.2.2.1 mi_X10_disagreement.2.2.2.1, Cond.instanceMethod yX10_disagreement, Cond.selects RX10 yX10_disagreement yX10_disagreement]
theorem hbW1_t : hbW1.all (fun w => decide (w ∈ tables_1)) = true := by decide +kernel
theorem hbW1_g : hbW1.all ev_gw = true := by decide +kernel
theorem hbW1_w {w : Cond} (h : w ∈ hbW1) : w ∈ ev_wd := wd_t (of_decide_eq_true (List.all_eq_true.mp hbW1_t w h)) (List.all_eq_true.mp hbW1_g w h)
theorem hbW1_i {w : Cond} (i : Nat) (h : hbW1[i]? = some w) : w ∈ ev_wd := hbW1_w (List.mem_of_getElem? h)
abbrev hy_conflictCount : ev_Mi := (yL_conflictCount, cL_conflictCount, 4, some .int, mi_X10_conflictCount.2.2.2.2 + 1)
abbrev hh_conflictCount : List (Nat × Nat × Nat × Nat) := [(0, 9, 12, 21), (0, 9, 15, 13)]
theorem hd_conflictCount : decode cL_conflictCount 0 = .ok (.aload_n 2, 1) ∧ decode cL_conflictCount 1 = .ok (.iconst 0, 1) ∧ decode cL_conflictCount 2 = .ok (.aload_n 0, 1) ∧ decode cL_conflictCount 3 = .ok (.iload_n 1, 1) := by decide +kernel
theorem he_conflictCount : decode cL_conflictCount 4 = .ok (.invokevirtual 61, 3) ∧ decode cL_conflictCount 7 = .ok (.i2l, 1) ∧ decode cL_conflictCount 8 = .ok (.lastore, 1) ∧ decode cL_conflictCount 9 = .ok (.goto 9, 3) ∧ decode cL_conflictCount 18 = .ok (.iconst 0, 1) ∧ decode cL_conflictCount 19 = .ok (.ireturn, 1) := by decide +kernel
theorem hw_conflictCount : eh_ok RL 61 1 mi_X10_conflictCount ∧ Cond.instanceMethod yX10_conflictCount ∈ ev_wd ∧ Cond.selects RX10 yX10_conflictCount yX10_conflictCount ∈ ev_wd := ⟨⟨hbW1_i 0 rfl, wd_i, hbW1_i 1 rfl, Nat.le_of_ble_eq_true rfl, by decide +kernel⟩, hbW1_i 2 rfl, hbW1_i 3 rfl⟩
theorem hc_conflictCount_0 : hb_h hy_conflictCount 12 1 := Or.inl ⟨3, by decide, by decide +kernel, by decide +kernel, by decide +kernel⟩
theorem hc_conflictCount_1 : hb_h hy_conflictCount 15 2 := Or.inl ⟨3, by decide, by decide +kernel, by decide +kernel, by decide +kernel⟩
theorem hE_conflictCount : ∀ E ∈ [eI, eO], ∃ h j, hb_x hh_conflictCount 4 E h ∧ hb_h hy_conflictCount h j ∧ nI (hbi [eI, eO] E) = Int32.ofInt j := by
  intro E hE
  simp only [List.mem_cons, List.not_mem_nil, or_false] at hE
  rcases hE with rfl | rfl
  · exact ⟨12, 1, hbx_1 (by decide) (by decide) cl_21, hc_conflictCount_0, hn_1⟩
  · exact ⟨15, 2, hbx_2 (by decide) (by decide) cl_13 (by decide) hme_I ne_OI cl_21, hc_conflictCount_1, hn_2 ne_OI⟩
theorem hb_conflictCount (hok : ev_ok sh_S G) (hnc : NCs G) (a : Int32) {res' : ev_R} (hT : ev_T sh_S G mi_X10_conflictCount (.ref 0 :: [.int a]) μ res') (hv : (∃ v μ1, res' = .inl (some (.int v), μ1)) ∨ ∃ E μ1, res' = .inr (E, μ1) ∧ E ∈ [eI, eO]) : hb_T G hy_conflictCount hh_conflictCount [.ref 0, .int a, .ref 310] μ (hbn [eI, eO] res') (hbm res') := by
  obtain ⟨d0, d1, d2, d3⟩ := hd_conflictCount
  refine HL_T rfl rfl hok (Nat.le_of_ble_eq_true rfl) ?_
  refine HL_al d0 (a := 310) rfl ?_
  refine HL_icv d1 (v := 0) rfl ?_
  refine HL_al d2 (a := 0) rfl ?_
  refine HL_il d3 (a := a) rfl ?_
  exact hb_A (As := [.int a]) hnc hw_conflictCount rfl (Nat.lt_succ_self _) (t := 18) he_conflictCount (by decide) sb_IO hE_conflictCount hT hv
abbrev hy_favoriteOf : ev_Mi := (yL_favoriteOf, cL_favoriteOf, 4, some .int, mi_X10_favoriteOf.2.2.2.2 + 1)
abbrev hh_favoriteOf : List (Nat × Nat × Nat × Nat) := [(0, 9, 12, 21), (0, 9, 15, 13)]
theorem hd_favoriteOf : decode cL_favoriteOf 0 = .ok (.aload_n 2, 1) ∧ decode cL_favoriteOf 1 = .ok (.iconst 0, 1) ∧ decode cL_favoriteOf 2 = .ok (.aload_n 0, 1) ∧ decode cL_favoriteOf 3 = .ok (.iload_n 1, 1) := by decide +kernel
theorem he_favoriteOf : decode cL_favoriteOf 4 = .ok (.invokevirtual 64, 3) ∧ decode cL_favoriteOf 7 = .ok (.i2l, 1) ∧ decode cL_favoriteOf 8 = .ok (.lastore, 1) ∧ decode cL_favoriteOf 9 = .ok (.goto 9, 3) ∧ decode cL_favoriteOf 18 = .ok (.iconst 0, 1) ∧ decode cL_favoriteOf 19 = .ok (.ireturn, 1) := by decide +kernel
theorem hw_favoriteOf : eh_ok RL 64 1 mi_X10_favoriteOf ∧ Cond.instanceMethod yX10_favoriteOf ∈ ev_wd ∧ Cond.selects RX10 yX10_favoriteOf yX10_favoriteOf ∈ ev_wd := ⟨⟨hbW1_i 4 rfl, wd_i, hbW1_i 5 rfl, Nat.le_of_ble_eq_true rfl, by decide +kernel⟩, hbW1_i 6 rfl, hbW1_i 7 rfl⟩
theorem hc_favoriteOf_0 : hb_h hy_favoriteOf 12 1 := Or.inl ⟨3, by decide, by decide +kernel, by decide +kernel, by decide +kernel⟩
theorem hc_favoriteOf_1 : hb_h hy_favoriteOf 15 2 := Or.inl ⟨3, by decide, by decide +kernel, by decide +kernel, by decide +kernel⟩
theorem hE_favoriteOf : ∀ E ∈ [eI, eO], ∃ h j, hb_x hh_favoriteOf 4 E h ∧ hb_h hy_favoriteOf h j ∧ nI (hbi [eI, eO] E) = Int32.ofInt j := by
  intro E hE
  simp only [List.mem_cons, List.not_mem_nil, or_false] at hE
  rcases hE with rfl | rfl
  · exact ⟨12, 1, hbx_1 (by decide) (by decide) cl_21, hc_favoriteOf_0, hn_1⟩
  · exact ⟨15, 2, hbx_2 (by decide) (by decide) cl_13 (by decide) hme_I ne_OI cl_21, hc_favoriteOf_1, hn_2 ne_OI⟩
theorem hb_favoriteOf (hok : ev_ok sh_S G) (hnc : NCs G) (a : Int32) {res' : ev_R} (hT : ev_T sh_S G mi_X10_favoriteOf (.ref 0 :: [.int a]) μ res') (hv : (∃ v μ1, res' = .inl (some (.int v), μ1)) ∨ ∃ E μ1, res' = .inr (E, μ1) ∧ E ∈ [eI, eO]) : hb_T G hy_favoriteOf hh_favoriteOf [.ref 0, .int a, .ref 310] μ (hbn [eI, eO] res') (hbm res') := by
  obtain ⟨d0, d1, d2, d3⟩ := hd_favoriteOf
  refine HL_T rfl rfl hok (Nat.le_of_ble_eq_true rfl) ?_
  refine HL_al d0 (a := 310) rfl ?_
  refine HL_icv d1 (v := 0) rfl ?_
  refine HL_al d2 (a := 0) rfl ?_
  refine HL_il d3 (a := a) rfl ?_
  exact hb_A (As := [.int a]) hnc hw_favoriteOf rfl (Nat.lt_succ_self _) (t := 18) he_favoriteOf (by decide) sb_IO hE_favoriteOf hT hv
abbrev hy_seatCount : ev_Mi := (yL_seatCount, cL_seatCount, 4, some .int, mi_X10_seatCount.2.2.2.2 + 1)
abbrev hh_seatCount : List (Nat × Nat × Nat × Nat) := [(0, 9, 12, 21), (0, 9, 15, 13)]
theorem hd_seatCount : decode cL_seatCount 0 = .ok (.aload_n 2, 1) ∧ decode cL_seatCount 1 = .ok (.iconst 0, 1) ∧ decode cL_seatCount 2 = .ok (.aload_n 0, 1) ∧ decode cL_seatCount 3 = .ok (.iload_n 1, 1) := by decide +kernel
theorem he_seatCount : decode cL_seatCount 4 = .ok (.invokevirtual 67, 3) ∧ decode cL_seatCount 7 = .ok (.i2l, 1) ∧ decode cL_seatCount 8 = .ok (.lastore, 1) ∧ decode cL_seatCount 9 = .ok (.goto 9, 3) ∧ decode cL_seatCount 18 = .ok (.iconst 0, 1) ∧ decode cL_seatCount 19 = .ok (.ireturn, 1) := by decide +kernel
theorem hw_seatCount : eh_ok RL 67 1 mi_X10_seatCount ∧ Cond.instanceMethod yX10_seatCount ∈ ev_wd ∧ Cond.selects RX10 yX10_seatCount yX10_seatCount ∈ ev_wd := ⟨⟨hbW1_i 8 rfl, wd_i, hbW1_i 9 rfl, Nat.le_of_ble_eq_true rfl, by decide +kernel⟩, hbW1_i 10 rfl, hbW1_i 11 rfl⟩
theorem hc_seatCount_0 : hb_h hy_seatCount 12 1 := Or.inl ⟨3, by decide, by decide +kernel, by decide +kernel, by decide +kernel⟩
theorem hc_seatCount_1 : hb_h hy_seatCount 15 2 := Or.inl ⟨3, by decide, by decide +kernel, by decide +kernel, by decide +kernel⟩
theorem hE_seatCount : ∀ E ∈ [eI, eO], ∃ h j, hb_x hh_seatCount 4 E h ∧ hb_h hy_seatCount h j ∧ nI (hbi [eI, eO] E) = Int32.ofInt j := by
  intro E hE
  simp only [List.mem_cons, List.not_mem_nil, or_false] at hE
  rcases hE with rfl | rfl
  · exact ⟨12, 1, hbx_1 (by decide) (by decide) cl_21, hc_seatCount_0, hn_1⟩
  · exact ⟨15, 2, hbx_2 (by decide) (by decide) cl_13 (by decide) hme_I ne_OI cl_21, hc_seatCount_1, hn_2 ne_OI⟩
theorem hb_seatCount (hok : ev_ok sh_S G) (hnc : NCs G) (a : Int32) {res' : ev_R} (hT : ev_T sh_S G mi_X10_seatCount (.ref 0 :: [.int a]) μ res') (hv : (∃ v μ1, res' = .inl (some (.int v), μ1)) ∨ ∃ E μ1, res' = .inr (E, μ1) ∧ E ∈ [eI, eO]) : hb_T G hy_seatCount hh_seatCount [.ref 0, .int a, .ref 310] μ (hbn [eI, eO] res') (hbm res') := by
  obtain ⟨d0, d1, d2, d3⟩ := hd_seatCount
  refine HL_T rfl rfl hok (Nat.le_of_ble_eq_true rfl) ?_
  refine HL_al d0 (a := 310) rfl ?_
  refine HL_icv d1 (v := 0) rfl ?_
  refine HL_al d2 (a := 0) rfl ?_
  refine HL_il d3 (a := a) rfl ?_
  exact hb_A (As := [.int a]) hnc hw_seatCount rfl (Nat.lt_succ_self _) (t := 18) he_seatCount (by decide) sb_IO hE_seatCount hT hv
abbrev hy_seatAt : ev_Mi := (yL_seatAt, cL_seatAt, 5, some .int, mi_X10_seatAt.2.2.2.2 + 1)
abbrev hh_seatAt : List (Nat × Nat × Nat × Nat) := [(0, 10, 13, 21), (0, 10, 17, 13)]
theorem hd_seatAt : decode cL_seatAt 0 = .ok (.aload_n 3, 1) ∧ decode cL_seatAt 1 = .ok (.iconst 0, 1) ∧ decode cL_seatAt 2 = .ok (.aload_n 0, 1) ∧ decode cL_seatAt 3 = .ok (.iload_n 1, 1) ∧ decode cL_seatAt 4 = .ok (.iload_n 2, 1) := by decide +kernel
theorem he_seatAt : decode cL_seatAt 5 = .ok (.invokevirtual 70, 3) ∧ decode cL_seatAt 8 = .ok (.i2l, 1) ∧ decode cL_seatAt 9 = .ok (.lastore, 1) ∧ decode cL_seatAt 10 = .ok (.goto 11, 3) ∧ decode cL_seatAt 21 = .ok (.iconst 0, 1) ∧ decode cL_seatAt 22 = .ok (.ireturn, 1) := by decide +kernel
theorem hw_seatAt : eh_ok RL 70 2 mi_X10_seatAt ∧ Cond.instanceMethod yX10_seatAt ∈ ev_wd ∧ Cond.selects RX10 yX10_seatAt yX10_seatAt ∈ ev_wd := ⟨⟨hbW1_i 12 rfl, wd_i, hbW1_i 13 rfl, Nat.le_of_ble_eq_true rfl, by decide +kernel⟩, hbW1_i 14 rfl, hbW1_i 15 rfl⟩
theorem hc_seatAt_0 : hb_h hy_seatAt 13 1 := Or.inr ⟨4, by decide, by decide +kernel, by decide +kernel, by decide +kernel⟩
theorem hc_seatAt_1 : hb_h hy_seatAt 17 2 := Or.inr ⟨4, by decide, by decide +kernel, by decide +kernel, by decide +kernel⟩
theorem hE_seatAt : ∀ E ∈ [eI, eO], ∃ h j, hb_x hh_seatAt 5 E h ∧ hb_h hy_seatAt h j ∧ nI (hbi [eI, eO] E) = Int32.ofInt j := by
  intro E hE
  simp only [List.mem_cons, List.not_mem_nil, or_false] at hE
  rcases hE with rfl | rfl
  · exact ⟨13, 1, hbx_1 (by decide) (by decide) cl_21, hc_seatAt_0, hn_1⟩
  · exact ⟨17, 2, hbx_2 (by decide) (by decide) cl_13 (by decide) hme_I ne_OI cl_21, hc_seatAt_1, hn_2 ne_OI⟩
theorem hb_seatAt (hok : ev_ok sh_S G) (hnc : NCs G) (a b : Int32) {res' : ev_R} (hT : ev_T sh_S G mi_X10_seatAt (.ref 0 :: [.int a, .int b]) μ res') (hv : (∃ v μ1, res' = .inl (some (.int v), μ1)) ∨ ∃ E μ1, res' = .inr (E, μ1) ∧ E ∈ [eI, eO]) : hb_T G hy_seatAt hh_seatAt [.ref 0, .int a, .int b, .ref 310] μ (hbn [eI, eO] res') (hbm res') := by
  obtain ⟨d0, d1, d2, d3, d4⟩ := hd_seatAt
  refine HL_T rfl rfl hok (Nat.le_of_ble_eq_true rfl) ?_
  refine HL_al d0 (a := 310) rfl ?_
  refine HL_icv d1 (v := 0) rfl ?_
  refine HL_al d2 (a := 0) rfl ?_
  refine HL_il d3 (a := a) rfl ?_
  refine HL_il d4 (a := b) rfl ?_
  exact hb_A (As := [.int a, .int b]) hnc hw_seatAt rfl (Nat.lt_succ_self _) (t := 21) he_seatAt (by decide) sb_IO hE_seatAt hT hv
abbrev hy_loadOf : ev_Mi := (yL_loadOf, cL_loadOf, 4, some .int, mi_X10_loadOf.2.2.2.2 + 1)
abbrev hh_loadOf : List (Nat × Nat × Nat × Nat) := [(0, 9, 12, 21), (0, 9, 15, 13)]
theorem hd_loadOf : decode cL_loadOf 0 = .ok (.aload_n 2, 1) ∧ decode cL_loadOf 1 = .ok (.iconst 0, 1) ∧ decode cL_loadOf 2 = .ok (.aload_n 0, 1) ∧ decode cL_loadOf 3 = .ok (.iload_n 1, 1) := by decide +kernel
theorem he_loadOf : decode cL_loadOf 4 = .ok (.invokevirtual 73, 3) ∧ decode cL_loadOf 7 = .ok (.i2l, 1) ∧ decode cL_loadOf 8 = .ok (.lastore, 1) ∧ decode cL_loadOf 9 = .ok (.goto 9, 3) ∧ decode cL_loadOf 18 = .ok (.iconst 0, 1) ∧ decode cL_loadOf 19 = .ok (.ireturn, 1) := by decide +kernel
theorem hw_loadOf : eh_ok RL 73 1 mi_X10_loadOf ∧ Cond.instanceMethod yX10_loadOf ∈ ev_wd ∧ Cond.selects RX10 yX10_loadOf yX10_loadOf ∈ ev_wd := ⟨⟨hbW1_i 16 rfl, wd_i, hbW1_i 17 rfl, Nat.le_of_ble_eq_true rfl, by decide +kernel⟩, hbW1_i 18 rfl, hbW1_i 19 rfl⟩
theorem hc_loadOf_0 : hb_h hy_loadOf 12 1 := Or.inl ⟨3, by decide, by decide +kernel, by decide +kernel, by decide +kernel⟩
theorem hc_loadOf_1 : hb_h hy_loadOf 15 2 := Or.inl ⟨3, by decide, by decide +kernel, by decide +kernel, by decide +kernel⟩
theorem hE_loadOf : ∀ E ∈ [eI, eO], ∃ h j, hb_x hh_loadOf 4 E h ∧ hb_h hy_loadOf h j ∧ nI (hbi [eI, eO] E) = Int32.ofInt j := by
  intro E hE
  simp only [List.mem_cons, List.not_mem_nil, or_false] at hE
  rcases hE with rfl | rfl
  · exact ⟨12, 1, hbx_1 (by decide) (by decide) cl_21, hc_loadOf_0, hn_1⟩
  · exact ⟨15, 2, hbx_2 (by decide) (by decide) cl_13 (by decide) hme_I ne_OI cl_21, hc_loadOf_1, hn_2 ne_OI⟩
theorem hb_loadOf (hok : ev_ok sh_S G) (hnc : NCs G) (a : Int32) {res' : ev_R} (hT : ev_T sh_S G mi_X10_loadOf (.ref 0 :: [.int a]) μ res') (hv : (∃ v μ1, res' = .inl (some (.int v), μ1)) ∨ ∃ E μ1, res' = .inr (E, μ1) ∧ E ∈ [eI, eO]) : hb_T G hy_loadOf hh_loadOf [.ref 0, .int a, .ref 310] μ (hbn [eI, eO] res') (hbm res') := by
  obtain ⟨d0, d1, d2, d3⟩ := hd_loadOf
  refine HL_T rfl rfl hok (Nat.le_of_ble_eq_true rfl) ?_
  refine HL_al d0 (a := 310) rfl ?_
  refine HL_icv d1 (v := 0) rfl ?_
  refine HL_al d2 (a := 0) rfl ?_
  refine HL_il d3 (a := a) rfl ?_
  exact hb_A (As := [.int a]) hnc hw_loadOf rfl (Nat.lt_succ_self _) (t := 18) he_loadOf (by decide) sb_IO hE_loadOf hT hv
abbrev hy_refusal : ev_Mi := (yL_refusal, cL_refusal, 5, some .int, mi_X10_refusal.2.2.2.2 + 1)
abbrev hh_refusal : List (Nat × Nat × Nat × Nat) := [(0, 10, 13, 21), (0, 10, 17, 13)]
theorem hd_refusal : decode cL_refusal 0 = .ok (.aload_n 3, 1) ∧ decode cL_refusal 1 = .ok (.iconst 0, 1) ∧ decode cL_refusal 2 = .ok (.aload_n 0, 1) ∧ decode cL_refusal 3 = .ok (.iload_n 1, 1) ∧ decode cL_refusal 4 = .ok (.iload_n 2, 1) := by decide +kernel
theorem he_refusal : decode cL_refusal 5 = .ok (.invokevirtual 76, 3) ∧ decode cL_refusal 8 = .ok (.i2l, 1) ∧ decode cL_refusal 9 = .ok (.lastore, 1) ∧ decode cL_refusal 10 = .ok (.goto 11, 3) ∧ decode cL_refusal 21 = .ok (.iconst 0, 1) ∧ decode cL_refusal 22 = .ok (.ireturn, 1) := by decide +kernel
theorem hw_refusal : eh_ok RL 76 2 mi_X10_refusal ∧ Cond.instanceMethod yX10_refusal ∈ ev_wd ∧ Cond.selects RX10 yX10_refusal yX10_refusal ∈ ev_wd := ⟨⟨hbW1_i 20 rfl, wd_i, hbW1_i 21 rfl, Nat.le_of_ble_eq_true rfl, by decide +kernel⟩, hbW1_i 22 rfl, hbW1_i 23 rfl⟩
theorem hc_refusal_0 : hb_h hy_refusal 13 1 := Or.inr ⟨4, by decide, by decide +kernel, by decide +kernel, by decide +kernel⟩
theorem hc_refusal_1 : hb_h hy_refusal 17 2 := Or.inr ⟨4, by decide, by decide +kernel, by decide +kernel, by decide +kernel⟩
theorem hE_refusal : ∀ E ∈ [eI, eO], ∃ h j, hb_x hh_refusal 5 E h ∧ hb_h hy_refusal h j ∧ nI (hbi [eI, eO] E) = Int32.ofInt j := by
  intro E hE
  simp only [List.mem_cons, List.not_mem_nil, or_false] at hE
  rcases hE with rfl | rfl
  · exact ⟨13, 1, hbx_1 (by decide) (by decide) cl_21, hc_refusal_0, hn_1⟩
  · exact ⟨17, 2, hbx_2 (by decide) (by decide) cl_13 (by decide) hme_I ne_OI cl_21, hc_refusal_1, hn_2 ne_OI⟩
theorem hb_refusal (hok : ev_ok sh_S G) (hnc : NCs G) (a b : Int32) {res' : ev_R} (hT : ev_T sh_S G mi_X10_refusal (.ref 0 :: [.int a, .int b]) μ res') (hv : (∃ v μ1, res' = .inl (some (.int v), μ1)) ∨ ∃ E μ1, res' = .inr (E, μ1) ∧ E ∈ [eI, eO]) : hb_T G hy_refusal hh_refusal [.ref 0, .int a, .int b, .ref 310] μ (hbn [eI, eO] res') (hbm res') := by
  obtain ⟨d0, d1, d2, d3, d4⟩ := hd_refusal
  refine HL_T rfl rfl hok (Nat.le_of_ble_eq_true rfl) ?_
  refine HL_al d0 (a := 310) rfl ?_
  refine HL_icv d1 (v := 0) rfl ?_
  refine HL_al d2 (a := 0) rfl ?_
  refine HL_il d3 (a := a) rfl ?_
  refine HL_il d4 (a := b) rfl ?_
  exact hb_A (As := [.int a, .int b]) hnc hw_refusal rfl (Nat.lt_succ_self _) (t := 21) he_refusal (by decide) sb_IO hE_refusal hT hv
abbrev hy_bestTaster : ev_Mi := (yL_bestTaster, cL_bestTaster, 4, some .int, mi_X10_bestTaster.2.2.2.2 + 1)
abbrev hh_bestTaster : List (Nat × Nat × Nat × Nat) := [(0, 9, 12, 21), (0, 9, 15, 13)]
theorem hd_bestTaster : decode cL_bestTaster 0 = .ok (.aload_n 2, 1) ∧ decode cL_bestTaster 1 = .ok (.iconst 0, 1) ∧ decode cL_bestTaster 2 = .ok (.aload_n 0, 1) ∧ decode cL_bestTaster 3 = .ok (.iload_n 1, 1) := by decide +kernel
theorem he_bestTaster : decode cL_bestTaster 4 = .ok (.invokevirtual 79, 3) ∧ decode cL_bestTaster 7 = .ok (.i2l, 1) ∧ decode cL_bestTaster 8 = .ok (.lastore, 1) ∧ decode cL_bestTaster 9 = .ok (.goto 9, 3) ∧ decode cL_bestTaster 18 = .ok (.iconst 0, 1) ∧ decode cL_bestTaster 19 = .ok (.ireturn, 1) := by decide +kernel
theorem hw_bestTaster : eh_ok RL 79 1 mi_X10_bestTaster ∧ Cond.instanceMethod yX10_bestTaster ∈ ev_wd ∧ Cond.selects RX10 yX10_bestTaster yX10_bestTaster ∈ ev_wd := ⟨⟨hbW1_i 24 rfl, wd_i, hbW1_i 25 rfl, Nat.le_of_ble_eq_true rfl, by decide +kernel⟩, hbW1_i 26 rfl, hbW1_i 27 rfl⟩
theorem hc_bestTaster_0 : hb_h hy_bestTaster 12 1 := Or.inl ⟨3, by decide, by decide +kernel, by decide +kernel, by decide +kernel⟩
theorem hc_bestTaster_1 : hb_h hy_bestTaster 15 2 := Or.inl ⟨3, by decide, by decide +kernel, by decide +kernel, by decide +kernel⟩
theorem hE_bestTaster : ∀ E ∈ [eI, eO], ∃ h j, hb_x hh_bestTaster 4 E h ∧ hb_h hy_bestTaster h j ∧ nI (hbi [eI, eO] E) = Int32.ofInt j := by
  intro E hE
  simp only [List.mem_cons, List.not_mem_nil, or_false] at hE
  rcases hE with rfl | rfl
  · exact ⟨12, 1, hbx_1 (by decide) (by decide) cl_21, hc_bestTaster_0, hn_1⟩
  · exact ⟨15, 2, hbx_2 (by decide) (by decide) cl_13 (by decide) hme_I ne_OI cl_21, hc_bestTaster_1, hn_2 ne_OI⟩
theorem hb_bestTaster (hok : ev_ok sh_S G) (hnc : NCs G) (a : Int32) {res' : ev_R} (hT : ev_T sh_S G mi_X10_bestTaster (.ref 0 :: [.int a]) μ res') (hv : (∃ v μ1, res' = .inl (some (.int v), μ1)) ∨ ∃ E μ1, res' = .inr (E, μ1) ∧ E ∈ [eI, eO]) : hb_T G hy_bestTaster hh_bestTaster [.ref 0, .int a, .ref 310] μ (hbn [eI, eO] res') (hbm res') := by
  obtain ⟨d0, d1, d2, d3⟩ := hd_bestTaster
  refine HL_T rfl rfl hok (Nat.le_of_ble_eq_true rfl) ?_
  refine HL_al d0 (a := 310) rfl ?_
  refine HL_icv d1 (v := 0) rfl ?_
  refine HL_al d2 (a := 0) rfl ?_
  refine HL_il d3 (a := a) rfl ?_
  exact hb_A (As := [.int a]) hnc hw_bestTaster rfl (Nat.lt_succ_self _) (t := 18) he_bestTaster (by decide) sb_IO hE_bestTaster hT hv
abbrev hy_lacking : ev_Mi := (yL_lacking, cL_lacking, 3, some .int, mi_X10_lacking.2.2.2.2 + 1)
abbrev hh_lacking : List (Nat × Nat × Nat × Nat) := [(0, 8, 11, 21)]
theorem hd_lacking : decode cL_lacking 0 = .ok (.aload_n 1, 1) ∧ decode cL_lacking 1 = .ok (.iconst 0, 1) ∧ decode cL_lacking 2 = .ok (.aload_n 0, 1) := by decide +kernel
theorem he_lacking : decode cL_lacking 3 = .ok (.invokevirtual 82, 3) ∧ decode cL_lacking 6 = .ok (.i2l, 1) ∧ decode cL_lacking 7 = .ok (.lastore, 1) ∧ decode cL_lacking 8 = .ok (.goto 6, 3) ∧ decode cL_lacking 14 = .ok (.iconst 0, 1) ∧ decode cL_lacking 15 = .ok (.ireturn, 1) := by decide +kernel
theorem hw_lacking : eh_ok RL 82 0 mi_X10_lacking ∧ Cond.instanceMethod yX10_lacking ∈ ev_wd ∧ Cond.selects RX10 yX10_lacking yX10_lacking ∈ ev_wd := ⟨⟨hbW1_i 28 rfl, wd_i, hbW1_i 29 rfl, Nat.le_of_ble_eq_true rfl, by decide +kernel⟩, hbW1_i 30 rfl, hbW1_i 31 rfl⟩
theorem hc_lacking_0 : hb_h hy_lacking 11 1 := Or.inl ⟨2, by decide, by decide +kernel, by decide +kernel, by decide +kernel⟩
theorem hE_lacking : ∀ E ∈ [eI], ∃ h j, hb_x hh_lacking 3 E h ∧ hb_h hy_lacking h j ∧ nI (hbi [eI] E) = Int32.ofInt j := by
  intro E hE
  simp only [List.mem_cons, List.not_mem_nil, or_false] at hE
  subst hE
  exact ⟨11, 1, hbx_1 (by decide) (by decide) cl_21, hc_lacking_0, hn_1⟩
theorem hb_lacking (hok : ev_ok sh_S G) (hnc : NCs G) {res' : ev_R} (hT : ev_T sh_S G mi_X10_lacking (.ref 0 :: []) μ res') (hv : (∃ v μ1, res' = .inl (some (.int v), μ1)) ∨ ∃ E μ1, res' = .inr (E, μ1) ∧ E ∈ [eI]) : hb_T G hy_lacking hh_lacking [.ref 0, .ref 310] μ (hbn [eI] res') (hbm res') := by
  obtain ⟨d0, d1, d2⟩ := hd_lacking
  refine HL_T rfl rfl hok (Nat.le_of_ble_eq_true rfl) ?_
  refine HL_al d0 (a := 310) rfl ?_
  refine HL_icv d1 (v := 0) rfl ?_
  refine HL_al d2 (a := 0) rfl ?_
  exact hb_A (As := []) hnc hw_lacking rfl (Nat.lt_succ_self _) (t := 14) he_lacking (by decide) sb_I hE_lacking hT hv
abbrev hy_lackingAfterFilling : ev_Mi := (yL_lackingAfterFilling, cL_lackingAfterFilling, 3, some .int, mi_X10_lackingAfterFilling.2.2.2.2 + 1)
abbrev hh_lackingAfterFilling : List (Nat × Nat × Nat × Nat) := [(0, 8, 11, 21)]
theorem hd_lackingAfterFilling : decode cL_lackingAfterFilling 0 = .ok (.aload_n 1, 1) ∧ decode cL_lackingAfterFilling 1 = .ok (.iconst 0, 1) ∧ decode cL_lackingAfterFilling 2 = .ok (.aload_n 0, 1) := by decide +kernel
theorem he_lackingAfterFilling : decode cL_lackingAfterFilling 3 = .ok (.invokevirtual 85, 3) ∧ decode cL_lackingAfterFilling 6 = .ok (.i2l, 1) ∧ decode cL_lackingAfterFilling 7 = .ok (.lastore, 1) ∧ decode cL_lackingAfterFilling 8 = .ok (.goto 6, 3) ∧ decode cL_lackingAfterFilling 14 = .ok (.iconst 0, 1) ∧ decode cL_lackingAfterFilling 15 = .ok (.ireturn, 1) := by decide +kernel
theorem hw_lackingAfterFilling : eh_ok RL 85 0 mi_X10_lackingAfterFilling ∧ Cond.instanceMethod yX10_lackingAfterFilling ∈ ev_wd ∧ Cond.selects RX10 yX10_lackingAfterFilling yX10_lackingAfterFilling ∈ ev_wd := ⟨⟨hbW1_i 32 rfl, wd_i, hbW1_i 33 rfl, Nat.le_of_ble_eq_true rfl, by decide +kernel⟩, hbW1_i 34 rfl, hbW1_i 35 rfl⟩
theorem hc_lackingAfterFilling_0 : hb_h hy_lackingAfterFilling 11 1 := Or.inl ⟨2, by decide, by decide +kernel, by decide +kernel, by decide +kernel⟩
theorem hE_lackingAfterFilling : ∀ E ∈ [eI], ∃ h j, hb_x hh_lackingAfterFilling 3 E h ∧ hb_h hy_lackingAfterFilling h j ∧ nI (hbi [eI] E) = Int32.ofInt j := by
  intro E hE
  simp only [List.mem_cons, List.not_mem_nil, or_false] at hE
  subst hE
  exact ⟨11, 1, hbx_1 (by decide) (by decide) cl_21, hc_lackingAfterFilling_0, hn_1⟩
theorem hb_lackingAfterFilling (hok : ev_ok sh_S G) (hnc : NCs G) {res' : ev_R} (hT : ev_T sh_S G mi_X10_lackingAfterFilling (.ref 0 :: []) μ res') (hv : (∃ v μ1, res' = .inl (some (.int v), μ1)) ∨ ∃ E μ1, res' = .inr (E, μ1) ∧ E ∈ [eI]) : hb_T G hy_lackingAfterFilling hh_lackingAfterFilling [.ref 0, .ref 310] μ (hbn [eI] res') (hbm res') := by
  obtain ⟨d0, d1, d2⟩ := hd_lackingAfterFilling
  refine HL_T rfl rfl hok (Nat.le_of_ble_eq_true rfl) ?_
  refine HL_al d0 (a := 310) rfl ?_
  refine HL_icv d1 (v := 0) rfl ?_
  refine HL_al d2 (a := 0) rfl ?_
  exact hb_A (As := []) hnc hw_lackingAfterFilling rfl (Nat.lt_succ_self _) (t := 14) he_lackingAfterFilling (by decide) sb_I hE_lackingAfterFilling hT hv
abbrev hy_scoreOf : ev_Mi := (yL_scoreOf, cL_scoreOf, 5, some .int, mi_X10_scoreOf.2.2.2.2 + 1)
abbrev hh_scoreOf : List (Nat × Nat × Nat × Nat) := [(0, 10, 13, 21), (0, 10, 17, 13)]
theorem hd_scoreOf : decode cL_scoreOf 0 = .ok (.aload_n 3, 1) ∧ decode cL_scoreOf 1 = .ok (.iconst 0, 1) ∧ decode cL_scoreOf 2 = .ok (.aload_n 0, 1) ∧ decode cL_scoreOf 3 = .ok (.iload_n 1, 1) ∧ decode cL_scoreOf 4 = .ok (.iload_n 2, 1) := by decide +kernel
theorem he_scoreOf : decode cL_scoreOf 5 = .ok (.invokevirtual 88, 3) ∧ decode cL_scoreOf 8 = .ok (.i2l, 1) ∧ decode cL_scoreOf 9 = .ok (.lastore, 1) ∧ decode cL_scoreOf 10 = .ok (.goto 11, 3) ∧ decode cL_scoreOf 21 = .ok (.iconst 0, 1) ∧ decode cL_scoreOf 22 = .ok (.ireturn, 1) := by decide +kernel
theorem hw_scoreOf : eh_ok RL 88 2 mi_X10_scoreOf ∧ Cond.instanceMethod yX10_scoreOf ∈ ev_wd ∧ Cond.selects RX10 yX10_scoreOf yX10_scoreOf ∈ ev_wd := ⟨⟨hbW1_i 36 rfl, wd_i, hbW1_i 37 rfl, Nat.le_of_ble_eq_true rfl, by decide +kernel⟩, hbW1_i 38 rfl, hbW1_i 39 rfl⟩
theorem hc_scoreOf_0 : hb_h hy_scoreOf 13 1 := Or.inr ⟨4, by decide, by decide +kernel, by decide +kernel, by decide +kernel⟩
theorem hc_scoreOf_1 : hb_h hy_scoreOf 17 2 := Or.inr ⟨4, by decide, by decide +kernel, by decide +kernel, by decide +kernel⟩
theorem hE_scoreOf : ∀ E ∈ [eI, eO], ∃ h j, hb_x hh_scoreOf 5 E h ∧ hb_h hy_scoreOf h j ∧ nI (hbi [eI, eO] E) = Int32.ofInt j := by
  intro E hE
  simp only [List.mem_cons, List.not_mem_nil, or_false] at hE
  rcases hE with rfl | rfl
  · exact ⟨13, 1, hbx_1 (by decide) (by decide) cl_21, hc_scoreOf_0, hn_1⟩
  · exact ⟨17, 2, hbx_2 (by decide) (by decide) cl_13 (by decide) hme_I ne_OI cl_21, hc_scoreOf_1, hn_2 ne_OI⟩
theorem hb_scoreOf (hok : ev_ok sh_S G) (hnc : NCs G) (a b : Int32) {res' : ev_R} (hT : ev_T sh_S G mi_X10_scoreOf (.ref 0 :: [.int a, .int b]) μ res') (hv : (∃ v μ1, res' = .inl (some (.int v), μ1)) ∨ ∃ E μ1, res' = .inr (E, μ1) ∧ E ∈ [eI, eO]) : hb_T G hy_scoreOf hh_scoreOf [.ref 0, .int a, .int b, .ref 310] μ (hbn [eI, eO] res') (hbm res') := by
  obtain ⟨d0, d1, d2, d3, d4⟩ := hd_scoreOf
  refine HL_T rfl rfl hok (Nat.le_of_ble_eq_true rfl) ?_
  refine HL_al d0 (a := 310) rfl ?_
  refine HL_icv d1 (v := 0) rfl ?_
  refine HL_al d2 (a := 0) rfl ?_
  refine HL_il d3 (a := a) rfl ?_
  refine HL_il d4 (a := b) rfl ?_
  exact hb_A (As := [.int a, .int b]) hnc hw_scoreOf rfl (Nat.lt_succ_self _) (t := 21) he_scoreOf (by decide) sb_IO hE_scoreOf hT hv
abbrev hy_scoreCount : ev_Mi := (yL_scoreCount, cL_scoreCount, 4, some .int, mi_X10_scoreCount.2.2.2.2 + 1)
abbrev hh_scoreCount : List (Nat × Nat × Nat × Nat) := [(0, 9, 12, 21), (0, 9, 15, 13)]
theorem hd_scoreCount : decode cL_scoreCount 0 = .ok (.aload_n 2, 1) ∧ decode cL_scoreCount 1 = .ok (.iconst 0, 1) ∧ decode cL_scoreCount 2 = .ok (.aload_n 0, 1) ∧ decode cL_scoreCount 3 = .ok (.iload_n 1, 1) := by decide +kernel
theorem he_scoreCount : decode cL_scoreCount 4 = .ok (.invokevirtual 91, 3) ∧ decode cL_scoreCount 7 = .ok (.i2l, 1) ∧ decode cL_scoreCount 8 = .ok (.lastore, 1) ∧ decode cL_scoreCount 9 = .ok (.goto 9, 3) ∧ decode cL_scoreCount 18 = .ok (.iconst 0, 1) ∧ decode cL_scoreCount 19 = .ok (.ireturn, 1) := by decide +kernel
theorem hw_scoreCount : eh_ok RL 91 1 mi_X10_scoreCount ∧ Cond.instanceMethod yX10_scoreCount ∈ ev_wd ∧ Cond.selects RX10 yX10_scoreCount yX10_scoreCount ∈ ev_wd := ⟨⟨hbW1_i 40 rfl, wd_i, hbW1_i 41 rfl, Nat.le_of_ble_eq_true rfl, by decide +kernel⟩, hbW1_i 42 rfl, hbW1_i 43 rfl⟩
theorem hc_scoreCount_0 : hb_h hy_scoreCount 12 1 := Or.inl ⟨3, by decide, by decide +kernel, by decide +kernel, by decide +kernel⟩
theorem hc_scoreCount_1 : hb_h hy_scoreCount 15 2 := Or.inl ⟨3, by decide, by decide +kernel, by decide +kernel, by decide +kernel⟩
theorem hE_scoreCount : ∀ E ∈ [eI, eO], ∃ h j, hb_x hh_scoreCount 4 E h ∧ hb_h hy_scoreCount h j ∧ nI (hbi [eI, eO] E) = Int32.ofInt j := by
  intro E hE
  simp only [List.mem_cons, List.not_mem_nil, or_false] at hE
  rcases hE with rfl | rfl
  · exact ⟨12, 1, hbx_1 (by decide) (by decide) cl_21, hc_scoreCount_0, hn_1⟩
  · exact ⟨15, 2, hbx_2 (by decide) (by decide) cl_13 (by decide) hme_I ne_OI cl_21, hc_scoreCount_1, hn_2 ne_OI⟩
theorem hb_scoreCount (hok : ev_ok sh_S G) (hnc : NCs G) (a : Int32) {res' : ev_R} (hT : ev_T sh_S G mi_X10_scoreCount (.ref 0 :: [.int a]) μ res') (hv : (∃ v μ1, res' = .inl (some (.int v), μ1)) ∨ ∃ E μ1, res' = .inr (E, μ1) ∧ E ∈ [eI, eO]) : hb_T G hy_scoreCount hh_scoreCount [.ref 0, .int a, .ref 310] μ (hbn [eI, eO] res') (hbm res') := by
  obtain ⟨d0, d1, d2, d3⟩ := hd_scoreCount
  refine HL_T rfl rfl hok (Nat.le_of_ble_eq_true rfl) ?_
  refine HL_al d0 (a := 310) rfl ?_
  refine HL_icv d1 (v := 0) rfl ?_
  refine HL_al d2 (a := 0) rfl ?_
  refine HL_il d3 (a := a) rfl ?_
  exact hb_A (As := [.int a]) hnc hw_scoreCount rfl (Nat.lt_succ_self _) (t := 18) he_scoreCount (by decide) sb_IO hE_scoreCount hT hv
abbrev hy_meanOf : ev_Mi := (yL_meanOf, cL_meanOf, 4, some .int, mi_X10_meanOf.2.2.2.2 + 1)
abbrev hh_meanOf : List (Nat × Nat × Nat × Nat) := [(0, 9, 12, 21), (0, 9, 15, 13)]
theorem hd_meanOf : decode cL_meanOf 0 = .ok (.aload_n 2, 1) ∧ decode cL_meanOf 1 = .ok (.iconst 0, 1) ∧ decode cL_meanOf 2 = .ok (.aload_n 0, 1) ∧ decode cL_meanOf 3 = .ok (.iload_n 1, 1) := by decide +kernel
theorem he_meanOf : decode cL_meanOf 4 = .ok (.invokevirtual 94, 3) ∧ decode cL_meanOf 7 = .ok (.i2l, 1) ∧ decode cL_meanOf 8 = .ok (.lastore, 1) ∧ decode cL_meanOf 9 = .ok (.goto 9, 3) ∧ decode cL_meanOf 18 = .ok (.iconst 0, 1) ∧ decode cL_meanOf 19 = .ok (.ireturn, 1) := by decide +kernel
theorem hw_meanOf : eh_ok RL 94 1 mi_X10_meanOf ∧ Cond.instanceMethod yX10_meanOf ∈ ev_wd ∧ Cond.selects RX10 yX10_meanOf yX10_meanOf ∈ ev_wd := ⟨⟨hbW1_i 44 rfl, wd_i, hbW1_i 45 rfl, Nat.le_of_ble_eq_true rfl, by decide +kernel⟩, hbW1_i 46 rfl, hbW1_i 47 rfl⟩
theorem hc_meanOf_0 : hb_h hy_meanOf 12 1 := Or.inl ⟨3, by decide, by decide +kernel, by decide +kernel, by decide +kernel⟩
theorem hc_meanOf_1 : hb_h hy_meanOf 15 2 := Or.inl ⟨3, by decide, by decide +kernel, by decide +kernel, by decide +kernel⟩
theorem hE_meanOf : ∀ E ∈ [eI, eO], ∃ h j, hb_x hh_meanOf 4 E h ∧ hb_h hy_meanOf h j ∧ nI (hbi [eI, eO] E) = Int32.ofInt j := by
  intro E hE
  simp only [List.mem_cons, List.not_mem_nil, or_false] at hE
  rcases hE with rfl | rfl
  · exact ⟨12, 1, hbx_1 (by decide) (by decide) cl_21, hc_meanOf_0, hn_1⟩
  · exact ⟨15, 2, hbx_2 (by decide) (by decide) cl_13 (by decide) hme_I ne_OI cl_21, hc_meanOf_1, hn_2 ne_OI⟩
theorem hb_meanOf (hok : ev_ok sh_S G) (hnc : NCs G) (a : Int32) {res' : ev_R} (hT : ev_T sh_S G mi_X10_meanOf (.ref 0 :: [.int a]) μ res') (hv : (∃ v μ1, res' = .inl (some (.int v), μ1)) ∨ ∃ E μ1, res' = .inr (E, μ1) ∧ E ∈ [eI, eO]) : hb_T G hy_meanOf hh_meanOf [.ref 0, .int a, .ref 310] μ (hbn [eI, eO] res') (hbm res') := by
  obtain ⟨d0, d1, d2, d3⟩ := hd_meanOf
  refine HL_T rfl rfl hok (Nat.le_of_ble_eq_true rfl) ?_
  refine HL_al d0 (a := 310) rfl ?_
  refine HL_icv d1 (v := 0) rfl ?_
  refine HL_al d2 (a := 0) rfl ?_
  refine HL_il d3 (a := a) rfl ?_
  exact hb_A (As := [.int a]) hnc hw_meanOf rfl (Nat.lt_succ_self _) (t := 18) he_meanOf (by decide) sb_IO hE_meanOf hT hv
abbrev hy_harshest : ev_Mi := (yL_harshest, cL_harshest, 3, some .int, mi_X10_harshest.2.2.2.2 + 1)
abbrev hh_harshest : List (Nat × Nat × Nat × Nat) := [(0, 8, 11, 21)]
theorem hd_harshest : decode cL_harshest 0 = .ok (.aload_n 1, 1) ∧ decode cL_harshest 1 = .ok (.iconst 0, 1) ∧ decode cL_harshest 2 = .ok (.aload_n 0, 1) := by decide +kernel
theorem he_harshest : decode cL_harshest 3 = .ok (.invokevirtual 97, 3) ∧ decode cL_harshest 6 = .ok (.i2l, 1) ∧ decode cL_harshest 7 = .ok (.lastore, 1) ∧ decode cL_harshest 8 = .ok (.goto 6, 3) ∧ decode cL_harshest 14 = .ok (.iconst 0, 1) ∧ decode cL_harshest 15 = .ok (.ireturn, 1) := by decide +kernel
theorem hw_harshest : eh_ok RL 97 0 mi_X10_harshest ∧ Cond.instanceMethod yX10_harshest ∈ ev_wd ∧ Cond.selects RX10 yX10_harshest yX10_harshest ∈ ev_wd := ⟨⟨hbW1_i 48 rfl, wd_i, hbW1_i 49 rfl, Nat.le_of_ble_eq_true rfl, by decide +kernel⟩, hbW1_i 50 rfl, hbW1_i 51 rfl⟩
theorem hc_harshest_0 : hb_h hy_harshest 11 1 := Or.inl ⟨2, by decide, by decide +kernel, by decide +kernel, by decide +kernel⟩
theorem hE_harshest : ∀ E ∈ [eI], ∃ h j, hb_x hh_harshest 3 E h ∧ hb_h hy_harshest h j ∧ nI (hbi [eI] E) = Int32.ofInt j := by
  intro E hE
  simp only [List.mem_cons, List.not_mem_nil, or_false] at hE
  subst hE
  exact ⟨11, 1, hbx_1 (by decide) (by decide) cl_21, hc_harshest_0, hn_1⟩
theorem hb_harshest (hok : ev_ok sh_S G) (hnc : NCs G) {res' : ev_R} (hT : ev_T sh_S G mi_X10_harshest (.ref 0 :: []) μ res') (hv : (∃ v μ1, res' = .inl (some (.int v), μ1)) ∨ ∃ E μ1, res' = .inr (E, μ1) ∧ E ∈ [eI]) : hb_T G hy_harshest hh_harshest [.ref 0, .ref 310] μ (hbn [eI] res') (hbm res') := by
  obtain ⟨d0, d1, d2⟩ := hd_harshest
  refine HL_T rfl rfl hok (Nat.le_of_ble_eq_true rfl) ?_
  refine HL_al d0 (a := 310) rfl ?_
  refine HL_icv d1 (v := 0) rfl ?_
  refine HL_al d2 (a := 0) rfl ?_
  exact hb_A (As := []) hnc hw_harshest rfl (Nat.lt_succ_self _) (t := 14) he_harshest (by decide) sb_I hE_harshest hT hv
abbrev hy_disagreement : ev_Mi := (yL_disagreement, cL_disagreement, 4, some .int, mi_X10_disagreement.2.2.2.2 + 1)
abbrev hh_disagreement : List (Nat × Nat × Nat × Nat) := [(0, 9, 12, 21), (0, 9, 15, 13)]
theorem hd_disagreement : decode cL_disagreement 0 = .ok (.aload_n 2, 1) ∧ decode cL_disagreement 1 = .ok (.iconst 0, 1) ∧ decode cL_disagreement 2 = .ok (.aload_n 0, 1) ∧ decode cL_disagreement 3 = .ok (.iload_n 1, 1) := by decide +kernel
theorem he_disagreement : decode cL_disagreement 4 = .ok (.invokevirtual 100, 3) ∧ decode cL_disagreement 7 = .ok (.i2l, 1) ∧ decode cL_disagreement 8 = .ok (.lastore, 1) ∧ decode cL_disagreement 9 = .ok (.goto 9, 3) ∧ decode cL_disagreement 18 = .ok (.iconst 0, 1) ∧ decode cL_disagreement 19 = .ok (.ireturn, 1) := by decide +kernel
theorem hw_disagreement : eh_ok RL 100 1 mi_X10_disagreement ∧ Cond.instanceMethod yX10_disagreement ∈ ev_wd ∧ Cond.selects RX10 yX10_disagreement yX10_disagreement ∈ ev_wd := ⟨⟨hbW1_i 52 rfl, wd_i, hbW1_i 53 rfl, Nat.le_of_ble_eq_true rfl, by decide +kernel⟩, hbW1_i 54 rfl, hbW1_i 55 rfl⟩
theorem hc_disagreement_0 : hb_h hy_disagreement 12 1 := Or.inl ⟨3, by decide, by decide +kernel, by decide +kernel, by decide +kernel⟩
theorem hc_disagreement_1 : hb_h hy_disagreement 15 2 := Or.inl ⟨3, by decide, by decide +kernel, by decide +kernel, by decide +kernel⟩
theorem hE_disagreement : ∀ E ∈ [eI, eO], ∃ h j, hb_x hh_disagreement 4 E h ∧ hb_h hy_disagreement h j ∧ nI (hbi [eI, eO] E) = Int32.ofInt j := by
  intro E hE
  simp only [List.mem_cons, List.not_mem_nil, or_false] at hE
  rcases hE with rfl | rfl
  · exact ⟨12, 1, hbx_1 (by decide) (by decide) cl_21, hc_disagreement_0, hn_1⟩
  · exact ⟨15, 2, hbx_2 (by decide) (by decide) cl_13 (by decide) hme_I ne_OI cl_21, hc_disagreement_1, hn_2 ne_OI⟩
theorem hb_disagreement (hok : ev_ok sh_S G) (hnc : NCs G) (a : Int32) {res' : ev_R} (hT : ev_T sh_S G mi_X10_disagreement (.ref 0 :: [.int a]) μ res') (hv : (∃ v μ1, res' = .inl (some (.int v), μ1)) ∨ ∃ E μ1, res' = .inr (E, μ1) ∧ E ∈ [eI, eO]) : hb_T G hy_disagreement hh_disagreement [.ref 0, .int a, .ref 310] μ (hbn [eI, eO] res') (hbm res') := by
  obtain ⟨d0, d1, d2, d3⟩ := hd_disagreement
  refine HL_T rfl rfl hok (Nat.le_of_ble_eq_true rfl) ?_
  refine HL_al d0 (a := 310) rfl ?_
  refine HL_icv d1 (v := 0) rfl ?_
  refine HL_al d2 (a := 0) rfl ?_
  refine HL_il d3 (a := a) rfl ?_
  exact hb_A (As := [.int a]) hnc hw_disagreement rfl (Nat.lt_succ_self _) (t := 18) he_disagreement (by decide) sb_IO hE_disagreement hT hv
end Hbs
