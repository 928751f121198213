/-! ===== the keywords, as the claim gives them ===== -/
section GivenKw
variable {args : Array Value} {s : State}
theorem gk_1 : ((List.range 20).all fun i => decide (Cond.laysStatic RX3 (kwn.getD i "") kwD ∈ tables_1)) = true := by decide +kernel
theorem gk_2 : Cond.initialized RX3 ∈ tables_1 ∧ Cond.initialized RX10 ∈ tables_1 ∧ Cond.initialized "PancakePanel$1" ∈ tables_1 ∧ Cond.laysStatic RX10 "KEYWORDS" "[LPancakePanel$Keyword;" ∈ tables_1 ∧ Cond.laysStatic "PancakePanel$1" "$SwitchMap$PancakePanel$Keyword" "[I" ∈ tables_1 := by decide +kernel
theorem gk_3 : ((List.range 20).all fun i => decide (Cond.exactly (.static RX3 (kwn.getD i "") kwD) RX3 ∈ gvC)) = true := by decide +kernel
theorem gk_4 : (kwO.all fun q => (List.range 20).all fun i => decide (Cond.eq (.field (.static RX3 (kwn.getD i "") kwD) q.1 q.2.1 q.2.2.1) (.int (q.2.2.2.getD i 0)) ∈ gvC)) = true := by decide +kernel
theorem gk_6 : Cond.arrayOf (.static RX10 "KEYWORDS" "[LPancakePanel$Keyword;") (.object RX3) ∈ gvC ∧ Cond.eq (.length (.static RX10 "KEYWORDS" "[LPancakePanel$Keyword;")) (.int (Int32.ofNat 20)) ∈ gvC ∧ Cond.arrayOf (.static "PancakePanel$1" "$SwitchMap$PancakePanel$Keyword" "[I") .int ∈ gvC ∧ Cond.eq (.length (.static "PancakePanel$1" "$SwitchMap$PancakePanel$Keyword" "[I")) (.int (Int32.ofNat 20)) ∈ gvC := by decide +kernel
theorem gk_7 : ((List.range 20).all fun i => decide (Cond.eq (.elem (.static RX10 "KEYWORDS" "[LPancakePanel$Keyword;") (.int (Int32.ofNat i))) (.static RX3 (kwn.getD i "") kwD) ∈ gvC)) = true := by decide +kernel
theorem gk_8 : ((List.range 20).all fun i => decide (Cond.eq (.elem (.static "PancakePanel$1" "$SwitchMap$PancakePanel$Keyword" "[I") (.int (Int32.ofNat i))) (.int (nI (swm i))) ∈ gvC)) = true := by decide +kernel
theorem gk_9 : ((List.range 20).all fun i => decide (Cond.eq (.field (.static RX3 (kwn.getD i "") kwD) RX3 "word" "J") (.long (w64 (kww i))) ∈ gvC)) = true := by decide +kernel
theorem gk_all {f : Nat → Bool} (h : (List.range 20).all f = true) {i : Nat} (hi : i < 20) : f i = true := List.all_eq_true.mp h i (List.mem_range.mpr hi)
theorem gv_kw (h : (Jvm.Cond.and given_1 narrow_1).before args s = true) (ht : ∀ w ∈ tables_1, w.before args s = true) {A : Nat → Prop} (hA : ∀ a : Nat, a < s.heap.size → ¬ A a) : ∃ (ad : Nat → Nat) (t1 t2 : Nat),
    va_Z RX10 "KEYWORDS" "[LPancakePanel$Keyword;" (.ref t1) A s s.heap ∧ va_T (.object RX3) t1 20 (fun i => .ref (ad i)) A s s.heap ∧ va_Z "PancakePanel$1" "$SwitchMap$PancakePanel$Keyword" "[I" (.ref t2) A s s.heap ∧ va_T .int t2 20 (fun i => .int (nI (swm i))) A s s.heap ∧
    va_En RX3 kwD kwn kwO ad A s s.heap ∧ va_Ef 20 RX3 "word" "J" (fun i => .long (w64 (kww i))) ad A s s.heap := by
  have hs := flat_of_before _ h
  obtain ⟨g1, g2, g3, g4, g5⟩ := gk_2
  obtain ⟨b1, b2, b3, b4⟩ := gk_6
  obtain ⟨ad, e1, e2⟩ := va_Enof2 (args := args) (s := s) (E := RX3) (d := kwD) (nm := kwn) (F := kwO) (A := A) (fun i hi => ht _ (of_decide_eq_true (gk_all gk_1 hi))) (ht _ g1) (fun i hi => hs _ (of_decide_eq_true (gk_all gk_3 hi))) (fun q hq i hi => hs _ (of_decide_eq_true (gk_all (List.all_eq_true.mp gk_4 q hq) hi))) (fun i j hi hj hne => by
    rcases Nat.lt_or_gt_of_ne hne with hlt | hlt
    · have k := gk_5 hj hlt
      rw [Bool.or_eq_true, decide_eq_true_eq, decide_eq_true_eq] at k
      exact k.elim (fun z => Or.inr (hs _ z)) (fun z => Or.inl (hs _ z))
    · have k := gk_5 hi hlt
      rw [Bool.or_eq_true, decide_eq_true_eq, decide_eq_true_eq] at k
      exact k.elim (fun z => Or.inl (hs _ z)) (fun z => Or.inr (hs _ z))) hA
  obtain ⟨t1, f1, f2⟩ := va_Tof (N := 20) (f := fun i => .ref (ad i)) (A := A) (by omega) (hs _ b1) (va_eqv (hs _ b2) rfl) (fun j hj => va_eqv (hs _ (of_decide_eq_true (gk_all gk_7 hj))) (e2 j hj)) hA
  obtain ⟨t2, f3, f4⟩ := va_Tof (N := 20) (f := fun i => .int (nI (swm i))) (A := A) (by omega) (hs _ b3) (va_eqv (hs _ b4) rfl) (fun j hj => va_eqv (hs _ (of_decide_eq_true (gk_all gk_8 hj))) rfl) hA
  exact ⟨ad, t1, t2, va_Zof (ht _ g4) (ht _ g2) f1 hA, f2, va_Zof (ht _ g5) (ht _ g3) f3 hA, f4, e1, va_Efof (nm := kwn) (tm := fun i => .long (w64 (kww i))) (fun i hi => e2 i hi) (fun i hi => hs _ (of_decide_eq_true (gk_all gk_9 hi))) (fun _ _ => rfl) hA⟩
end GivenKw
