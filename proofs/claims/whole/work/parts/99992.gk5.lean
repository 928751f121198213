/-! ===== the keywords are apart ===== -/
section GivenKx
theorem gk_5_1 : ((List.range 1).all fun j => decide (Cond.not (.eq (.static RX3 (kwn.getD 1 "") kwD) (.static RX3 (kwn.getD j "") kwD)) ∈ gvC) || decide (Cond.not (.eq (.static RX3 (kwn.getD j "") kwD) (.static RX3 (kwn.getD 1 "") kwD)) ∈ gvC)) = true := by decide +kernel
theorem gk_5_2 : ((List.range 2).all fun j => decide (Cond.not (.eq (.static RX3 (kwn.getD 2 "") kwD) (.static RX3 (kwn.getD j "") kwD)) ∈ gvC) || decide (Cond.not (.eq (.static RX3 (kwn.getD j "") kwD) (.static RX3 (kwn.getD 2 "") kwD)) ∈ gvC)) = true := by decide +kernel
theorem gk_5_3 : ((List.range 3).all fun j => decide (Cond.not (.eq (.static RX3 (kwn.getD 3 "") kwD) (.static RX3 (kwn.getD j "") kwD)) ∈ gvC) || decide (Cond.not (.eq (.static RX3 (kwn.getD j "") kwD) (.static RX3 (kwn.getD 3 "") kwD)) ∈ gvC)) = true := by decide +kernel
theorem gk_5_4 : ((List.range 4).all fun j => decide (Cond.not (.eq (.static RX3 (kwn.getD 4 "") kwD) (.static RX3 (kwn.getD j "") kwD)) ∈ gvC) || decide (Cond.not (.eq (.static RX3 (kwn.getD j "") kwD) (.static RX3 (kwn.getD 4 "") kwD)) ∈ gvC)) = true := by decide +kernel
theorem gk_5_5 : ((List.range 5).all fun j => decide (Cond.not (.eq (.static RX3 (kwn.getD 5 "") kwD) (.static RX3 (kwn.getD j "") kwD)) ∈ gvC) || decide (Cond.not (.eq (.static RX3 (kwn.getD j "") kwD) (.static RX3 (kwn.getD 5 "") kwD)) ∈ gvC)) = true := by decide +kernel
theorem gk_5_6 : ((List.range 6).all fun j => decide (Cond.not (.eq (.static RX3 (kwn.getD 6 "") kwD) (.static RX3 (kwn.getD j "") kwD)) ∈ gvC) || decide (Cond.not (.eq (.static RX3 (kwn.getD j "") kwD) (.static RX3 (kwn.getD 6 "") kwD)) ∈ gvC)) = true := by decide +kernel
theorem gk_5_7 : ((List.range 7).all fun j => decide (Cond.not (.eq (.static RX3 (kwn.getD 7 "") kwD) (.static RX3 (kwn.getD j "") kwD)) ∈ gvC) || decide (Cond.not (.eq (.static RX3 (kwn.getD j "") kwD) (.static RX3 (kwn.getD 7 "") kwD)) ∈ gvC)) = true := by decide +kernel
theorem gk_5_8 : ((List.range 8).all fun j => decide (Cond.not (.eq (.static RX3 (kwn.getD 8 "") kwD) (.static RX3 (kwn.getD j "") kwD)) ∈ gvC) || decide (Cond.not (.eq (.static RX3 (kwn.getD j "") kwD) (.static RX3 (kwn.getD 8 "") kwD)) ∈ gvC)) = true := by decide +kernel
theorem gk_5_9 : ((List.range 9).all fun j => decide (Cond.not (.eq (.static RX3 (kwn.getD 9 "") kwD) (.static RX3 (kwn.getD j "") kwD)) ∈ gvC) || decide (Cond.not (.eq (.static RX3 (kwn.getD j "") kwD) (.static RX3 (kwn.getD 9 "") kwD)) ∈ gvC)) = true := by decide +kernel
theorem gk_5_10 : ((List.range 10).all fun j => decide (Cond.not (.eq (.static RX3 (kwn.getD 10 "") kwD) (.static RX3 (kwn.getD j "") kwD)) ∈ gvC) || decide (Cond.not (.eq (.static RX3 (kwn.getD j "") kwD) (.static RX3 (kwn.getD 10 "") kwD)) ∈ gvC)) = true := by decide +kernel
theorem gk_5_11 : ((List.range 11).all fun j => decide (Cond.not (.eq (.static RX3 (kwn.getD 11 "") kwD) (.static RX3 (kwn.getD j "") kwD)) ∈ gvC) || decide (Cond.not (.eq (.static RX3 (kwn.getD j "") kwD) (.static RX3 (kwn.getD 11 "") kwD)) ∈ gvC)) = true := by decide +kernel
theorem gk_5_12 : ((List.range 12).all fun j => decide (Cond.not (.eq (.static RX3 (kwn.getD 12 "") kwD) (.static RX3 (kwn.getD j "") kwD)) ∈ gvC) || decide (Cond.not (.eq (.static RX3 (kwn.getD j "") kwD) (.static RX3 (kwn.getD 12 "") kwD)) ∈ gvC)) = true := by decide +kernel
theorem gk_5_13 : ((List.range 13).all fun j => decide (Cond.not (.eq (.static RX3 (kwn.getD 13 "") kwD) (.static RX3 (kwn.getD j "") kwD)) ∈ gvC) || decide (Cond.not (.eq (.static RX3 (kwn.getD j "") kwD) (.static RX3 (kwn.getD 13 "") kwD)) ∈ gvC)) = true := by decide +kernel
theorem gk_5_14 : ((List.range 14).all fun j => decide (Cond.not (.eq (.static RX3 (kwn.getD 14 "") kwD) (.static RX3 (kwn.getD j "") kwD)) ∈ gvC) || decide (Cond.not (.eq (.static RX3 (kwn.getD j "") kwD) (.static RX3 (kwn.getD 14 "") kwD)) ∈ gvC)) = true := by decide +kernel
theorem gk_5_15 : ((List.range 15).all fun j => decide (Cond.not (.eq (.static RX3 (kwn.getD 15 "") kwD) (.static RX3 (kwn.getD j "") kwD)) ∈ gvC) || decide (Cond.not (.eq (.static RX3 (kwn.getD j "") kwD) (.static RX3 (kwn.getD 15 "") kwD)) ∈ gvC)) = true := by decide +kernel
theorem gk_5_16 : ((List.range 16).all fun j => decide (Cond.not (.eq (.static RX3 (kwn.getD 16 "") kwD) (.static RX3 (kwn.getD j "") kwD)) ∈ gvC) || decide (Cond.not (.eq (.static RX3 (kwn.getD j "") kwD) (.static RX3 (kwn.getD 16 "") kwD)) ∈ gvC)) = true := by decide +kernel
theorem gk_5_17 : ((List.range 17).all fun j => decide (Cond.not (.eq (.static RX3 (kwn.getD 17 "") kwD) (.static RX3 (kwn.getD j "") kwD)) ∈ gvC) || decide (Cond.not (.eq (.static RX3 (kwn.getD j "") kwD) (.static RX3 (kwn.getD 17 "") kwD)) ∈ gvC)) = true := by decide +kernel
theorem gk_5_18 : ((List.range 18).all fun j => decide (Cond.not (.eq (.static RX3 (kwn.getD 18 "") kwD) (.static RX3 (kwn.getD j "") kwD)) ∈ gvC) || decide (Cond.not (.eq (.static RX3 (kwn.getD j "") kwD) (.static RX3 (kwn.getD 18 "") kwD)) ∈ gvC)) = true := by decide +kernel
theorem gk_5_19 : ((List.range 19).all fun j => decide (Cond.not (.eq (.static RX3 (kwn.getD 19 "") kwD) (.static RX3 (kwn.getD j "") kwD)) ∈ gvC) || decide (Cond.not (.eq (.static RX3 (kwn.getD j "") kwD) (.static RX3 (kwn.getD 19 "") kwD)) ∈ gvC)) = true := by decide +kernel
theorem gk_5 {i j : Nat} (hi : i < 20) (hj : j < i) : (decide (Cond.not (.eq (.static RX3 (kwn.getD i "") kwD) (.static RX3 (kwn.getD j "") kwD)) ∈ gvC) || decide (Cond.not (.eq (.static RX3 (kwn.getD j "") kwD) (.static RX3 (kwn.getD i "") kwD)) ∈ gvC)) = true := by
  have hm := List.mem_range.mpr hj
  rcases (show i = 1 ∨ i = 2 ∨ i = 3 ∨ i = 4 ∨ i = 5 ∨ i = 6 ∨ i = 7 ∨ i = 8 ∨ i = 9 ∨ i = 10 ∨ i = 11 ∨ i = 12 ∨ i = 13 ∨ i = 14 ∨ i = 15 ∨ i = 16 ∨ i = 17 ∨ i = 18 ∨ i = 19 by omega) with rfl | rfl | rfl | rfl | rfl | rfl | rfl | rfl | rfl | rfl | rfl | rfl | rfl | rfl | rfl | rfl | rfl | rfl | rfl
  · exact List.all_eq_true.mp gk_5_1 j hm
  · exact List.all_eq_true.mp gk_5_2 j hm
  · exact List.all_eq_true.mp gk_5_3 j hm
  · exact List.all_eq_true.mp gk_5_4 j hm
  · exact List.all_eq_true.mp gk_5_5 j hm
  · exact List.all_eq_true.mp gk_5_6 j hm
  · exact List.all_eq_true.mp gk_5_7 j hm
  · exact List.all_eq_true.mp gk_5_8 j hm
  · exact List.all_eq_true.mp gk_5_9 j hm
  · exact List.all_eq_true.mp gk_5_10 j hm
  · exact List.all_eq_true.mp gk_5_11 j hm
  · exact List.all_eq_true.mp gk_5_12 j hm
  · exact List.all_eq_true.mp gk_5_13 j hm
  · exact List.all_eq_true.mp gk_5_14 j hm
  · exact List.all_eq_true.mp gk_5_15 j hm
  · exact List.all_eq_true.mp gk_5_16 j hm
  · exact List.all_eq_true.mp gk_5_17 j hm
  · exact List.all_eq_true.mp gk_5_18 j hm
  · exact List.all_eq_true.mp gk_5_19 j hm
end GivenKx
