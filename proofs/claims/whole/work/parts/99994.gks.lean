/-! ===== the words the reference compares with, as the claim gives them (the words alone) ===== -/
section GivenKs
theorem gs_1 : ((List.range 19).all fun i => decide (Cond.exactly (.string RX11 (ksI.getD i 0)) "java/lang/String" ∈ gvC)) = true := by decide +kernel
theorem gs_2 : ((List.range 19).all fun i => decide (Cond.eq (.field (.string RX11 (ksI.getD i 0)) "java/lang/String" "coder" "B") (.int 0) ∈ gvC)) = true := by decide +kernel
theorem gs_3 : ((List.range 19).all fun i => decide (Cond.arrayOf (.field (.string RX11 (ksI.getD i 0)) "java/lang/String" "value" "[B") .byte ∈ gvC)) = true := by decide +kernel
theorem gs_4 : ((List.range 19).all fun i => decide (Cond.eq (.length (.field (.string RX11 (ksI.getD i 0)) "java/lang/String" "value" "[B")) (.int (Int32.ofNat (ksL.getD i 0))) ∈ gvC)) = true := by decide +kernel
theorem gs_5 : ((List.range 19).all fun i => decide (Cond.stringRef RX11 (ksI.getD i 0) (ksT.getD i "") ∈ tables_1)) = true := by decide +kernel
end GivenKs
