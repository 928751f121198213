/-! ===== the words the reference compares with: their bytes; the strings are apart ===== -/
section GivenKt
variable {args : Array Value} {s : State}
def ksF (i : Nat) : Term := .field (.string RX11 (ksI.getD i 0)) "java/lang/String" "value" "[B"
theorem ge_0 : ((List.range 5).all fun j => decide (Cond.eq (.elem (ksF 0) (.int (Int32.ofNat j))) (.int ((ksB.getD 0 []).getD j 0)) ∈ gvC)) = true := by decide +kernel
theorem ge_1 : ((List.range 6).all fun j => decide (Cond.eq (.elem (ksF 1) (.int (Int32.ofNat j))) (.int ((ksB.getD 1 []).getD j 0)) ∈ gvC)) = true := by decide +kernel
theorem ge_2 : ((List.range 6).all fun j => decide (Cond.eq (.elem (ksF 2) (.int (Int32.ofNat j))) (.int ((ksB.getD 2 []).getD j 0)) ∈ gvC)) = true := by decide +kernel
theorem ge_3 : ((List.range 7).all fun j => decide (Cond.eq (.elem (ksF 3) (.int (Int32.ofNat j))) (.int ((ksB.getD 3 []).getD j 0)) ∈ gvC)) = true := by decide +kernel
theorem ge_4 : ((List.range 3).all fun j => decide (Cond.eq (.elem (ksF 4) (.int (Int32.ofNat j))) (.int ((ksB.getD 4 []).getD j 0)) ∈ gvC)) = true := by decide +kernel
theorem ge_5 : ((List.range 8).all fun j => decide (Cond.eq (.elem (ksF 5) (.int (Int32.ofNat j))) (.int ((ksB.getD 5 []).getD j 0)) ∈ gvC)) = true := by decide +kernel
theorem ge_6 : ((List.range 8).all fun j => decide (Cond.eq (.elem (ksF 6) (.int (Int32.ofNat j))) (.int ((ksB.getD 6 []).getD j 0)) ∈ gvC)) = true := by decide +kernel
theorem ge_7 : ((List.range 4).all fun j => decide (Cond.eq (.elem (ksF 7) (.int (Int32.ofNat j))) (.int ((ksB.getD 7 []).getD j 0)) ∈ gvC)) = true := by decide +kernel
theorem ge_8 : ((List.range 4).all fun j => decide (Cond.eq (.elem (ksF 8) (.int (Int32.ofNat j))) (.int ((ksB.getD 8 []).getD j 0)) ∈ gvC)) = true := by decide +kernel
theorem ge_9 : ((List.range 5).all fun j => decide (Cond.eq (.elem (ksF 9) (.int (Int32.ofNat j))) (.int ((ksB.getD 9 []).getD j 0)) ∈ gvC)) = true := by decide +kernel
theorem ge_10 : ((List.range 5).all fun j => decide (Cond.eq (.elem (ksF 10) (.int (Int32.ofNat j))) (.int ((ksB.getD 10 []).getD j 0)) ∈ gvC)) = true := by decide +kernel
theorem ge_11 : ((List.range 4).all fun j => decide (Cond.eq (.elem (ksF 11) (.int (Int32.ofNat j))) (.int ((ksB.getD 11 []).getD j 0)) ∈ gvC)) = true := by decide +kernel
theorem ge_12 : ((List.range 5).all fun j => decide (Cond.eq (.elem (ksF 12) (.int (Int32.ofNat j))) (.int ((ksB.getD 12 []).getD j 0)) ∈ gvC)) = true := by decide +kernel
theorem ge_13 : ((List.range 7).all fun j => decide (Cond.eq (.elem (ksF 13) (.int (Int32.ofNat j))) (.int ((ksB.getD 13 []).getD j 0)) ∈ gvC)) = true := by decide +kernel
theorem ge_14 : ((List.range 4).all fun j => decide (Cond.eq (.elem (ksF 14) (.int (Int32.ofNat j))) (.int ((ksB.getD 14 []).getD j 0)) ∈ gvC)) = true := by decide +kernel
theorem ge_15 : ((List.range 5).all fun j => decide (Cond.eq (.elem (ksF 15) (.int (Int32.ofNat j))) (.int ((ksB.getD 15 []).getD j 0)) ∈ gvC)) = true := by decide +kernel
theorem ge_16 : ((List.range 4).all fun j => decide (Cond.eq (.elem (ksF 16) (.int (Int32.ofNat j))) (.int ((ksB.getD 16 []).getD j 0)) ∈ gvC)) = true := by decide +kernel
theorem ge_17 : ((List.range 4).all fun j => decide (Cond.eq (.elem (ksF 17) (.int (Int32.ofNat j))) (.int ((ksB.getD 17 []).getD j 0)) ∈ gvC)) = true := by decide +kernel
theorem ge_18 : ((List.range 6).all fun j => decide (Cond.eq (.elem (ksF 18) (.int (Int32.ofNat j))) (.int ((ksB.getD 18 []).getD j 0)) ∈ gvC)) = true := by decide +kernel
theorem ge_a {i j : Nat} (hi : i < 19) (hj : j < ksL.getD i 0) : Cond.eq (.elem (ksF i) (.int (Int32.ofNat j))) (.int ((ksB.getD i []).getD j 0)) ∈ gvC := by
  rcases (show i = 0 ∨ i = 1 ∨ i = 2 ∨ i = 3 ∨ i = 4 ∨ i = 5 ∨ i = 6 ∨ i = 7 ∨ i = 8 ∨ i = 9 ∨ i = 10 ∨ i = 11 ∨ i = 12 ∨ i = 13 ∨ i = 14 ∨ i = 15 ∨ i = 16 ∨ i = 17 ∨ i = 18 by omega) with rfl | rfl | rfl | rfl | rfl | rfl | rfl | rfl | rfl | rfl | rfl | rfl | rfl | rfl | rfl | rfl | rfl | rfl | rfl
  · exact of_decide_eq_true (List.all_eq_true.mp ge_0 j (List.mem_range.mpr hj))
  · exact of_decide_eq_true (List.all_eq_true.mp ge_1 j (List.mem_range.mpr hj))
  · exact of_decide_eq_true (List.all_eq_true.mp ge_2 j (List.mem_range.mpr hj))
  · exact of_decide_eq_true (List.all_eq_true.mp ge_3 j (List.mem_range.mpr hj))
  · exact of_decide_eq_true (List.all_eq_true.mp ge_4 j (List.mem_range.mpr hj))
  · exact of_decide_eq_true (List.all_eq_true.mp ge_5 j (List.mem_range.mpr hj))
  · exact of_decide_eq_true (List.all_eq_true.mp ge_6 j (List.mem_range.mpr hj))
  · exact of_decide_eq_true (List.all_eq_true.mp ge_7 j (List.mem_range.mpr hj))
  · exact of_decide_eq_true (List.all_eq_true.mp ge_8 j (List.mem_range.mpr hj))
  · exact of_decide_eq_true (List.all_eq_true.mp ge_9 j (List.mem_range.mpr hj))
  · exact of_decide_eq_true (List.all_eq_true.mp ge_10 j (List.mem_range.mpr hj))
  · exact of_decide_eq_true (List.all_eq_true.mp ge_11 j (List.mem_range.mpr hj))
  · exact of_decide_eq_true (List.all_eq_true.mp ge_12 j (List.mem_range.mpr hj))
  · exact of_decide_eq_true (List.all_eq_true.mp ge_13 j (List.mem_range.mpr hj))
  · exact of_decide_eq_true (List.all_eq_true.mp ge_14 j (List.mem_range.mpr hj))
  · exact of_decide_eq_true (List.all_eq_true.mp ge_15 j (List.mem_range.mpr hj))
  · exact of_decide_eq_true (List.all_eq_true.mp ge_16 j (List.mem_range.mpr hj))
  · exact of_decide_eq_true (List.all_eq_true.mp ge_17 j (List.mem_range.mpr hj))
  · exact of_decide_eq_true (List.all_eq_true.mp ge_18 j (List.mem_range.mpr hj))
theorem gs_all {f : Nat → Bool} (h : (List.range 19).all f = true) {i : Nat} (hi : i < 19) : f i = true := List.all_eq_true.mp h i (List.mem_range.mpr hi)
theorem ks_dist : ((List.range 19).all fun i => (List.range 19).all fun j => decide (i = j) || decide (ksL.getD i 0 ≠ ksL.getD j 0) || (List.range (ksL.getD i 0)).any fun x => decide ((ksB.getD i []).getD x 0 ≠ (ksB.getD j []).getD x 0)) = true := by decide +kernel
theorem ks_lt : ∀ i, i < 19 → ksL.getD i 0 < 9 := by decide +kernel
theorem ks_of_1 {o n d : String} {a : Nat} {v v' : Value} {A : Nat → Prop} {U : State} {H : Heap} (h : va_OF o n d v a A U H) (h' : va_OF o n d v' a A U H) : v = v' := by
  obtain ⟨cf, k, i, f, cell, h1, h2, h3, h4, h5, h6⟩ := h
  obtain ⟨cf', k', i', f', cell', g1, g2, g3, g4, g5, g6⟩ := h'
  have e1 := h1.symm.trans g1
  simp only [Option.some.injEq, Prod.mk.injEq] at e1
  obtain ⟨-, -, -, rfl⟩ := e1
  cases h3.symm.trans g3
  exact Option.some.inj (h5.symm.trans g5)
theorem ks_inj {adK adV : Nat → Nat} {A : Nat → Prop} {H : Heap} (h : ∀ i : Nat, i < 19 → va_OF "java/lang/String" "value" "[B" (.ref (adV i)) (adK i) A s H ∧ va_T .byte (adV i) (ksL.getD i 0) (fun j => .int ((ksB.getD i []).getD j 0)) A s H) {i j : Nat} (hi : i < 19) (hj : j < 19) (e : adK i = adK j) : i = j := by
  obtain ⟨a1, a2⟩ := h i hi
  obtain ⟨b1, b2⟩ := h j hj
  rw [← e] at b1
  have hv : adV i = adV j := by
    have := ks_of_1 a1 b1
    exact Value.ref.inj this
  rw [← hv] at b2
  obtain ⟨ca, c1, -, -, -, c5, c6, -⟩ := a2
  obtain ⟨cb, d1, -, -, -, d5, d6, -⟩ := b2
  cases c1.symm.trans d1
  have l1 := ks_lt i hi
  have l2 := ks_lt j hj
  have hlen : ksL.getD i 0 = ksL.getD j 0 := by
    have e2 : nI (ksL.getD i 0) = nI (ksL.getD j 0) := c5.symm.trans d5
    rw [no_eq (by omega) (by omega)] at e2
    exact e2
  have hd := List.all_eq_true.mp (List.all_eq_true.mp ks_dist i (List.mem_range.mpr hi)) j (List.mem_range.mpr hj)
  rw [Bool.or_eq_true, Bool.or_eq_true, decide_eq_true_eq, decide_eq_true_eq] at hd
  rcases hd with (hd | hd) | hd
  · exact hd
  · exact absurd hlen hd
  · obtain ⟨x, hx, hx2⟩ := List.any_eq_true.mp hd
    have hx := List.mem_range.mp hx
    have hx2 := of_decide_eq_true hx2
    have f1 := c6 x hx
    have f2 := d6 x (by rw [← hlen]; exact hx)
    exact absurd (Value.int.inj (Option.some.inj (f1.symm.trans f2))) hx2
theorem gv_ks (h : (Jvm.Cond.and given_1 narrow_1).before args s = true) (ht : ∀ w ∈ tables_1, w.before args s = true) {A : Nat → Prop} (hA : ∀ a : Nat, a < s.heap.size → ¬ A a) : ∃ adK adV : Nat → Nat, vk_S 19 ksL ksB adK adV A s s.heap ∧ ∀ i, i < 19 → vk_R RX11 (ksI.getD i 0) (ksT.getD i "") (adK i) s := by
  have hs := flat_of_before _ h
  have h0 : ∀ i : Nat, ∃ q : Nat × Nat, i < 19 → (Term.string RX11 (ksI.getD i 0)).eval args s none [] s = some (.ref q.1) ∧ va_O "java/lang/String" q.1 A s s.heap ∧ va_OF "java/lang/String" "coder" "B" (.int 0) q.1 A s s.heap ∧ va_OF "java/lang/String" "value" "[B" (.ref q.2) q.1 A s s.heap ∧ va_T .byte q.2 (ksL.getD i 0) (fun j => .int ((ksB.getD i []).getD j 0)) A s s.heap := by
    intro i
    by_cases hi : i < 19
    · obtain ⟨a, c, cA, kA, q1, q2, q3, q4, q5, q6, -⟩ := Cond.exactly_spec (args := args) (first := s) (o := none) (s := s) (idx := []) (t := .string RX11 (ksI.getD i 0)) (cls := "java/lang/String") (hs _ (of_decide_eq_true (gs_all gs_1 hi)))
      obtain ⟨t, ht9, hT⟩ := va_Tof (f := fun j => .int ((ksB.getD i []).getD j 0)) (A := A) (Nat.lt_trans (ks_lt i hi) (by decide)) (hs _ (of_decide_eq_true (gs_all gs_3 hi))) (va_eqt (hs _ (of_decide_eq_true (gs_all gs_4 hi)))) (fun j hj => va_eqt (hs _ (ge_a hi hj))) hA
      exact ⟨(a, t), fun _ => ⟨q1, ⟨cA, q3, q5, by rw [q6]; exact q2, hA a (Array.getElem?_eq_some_iff.mp q3).1⟩, vk_OFof q1 (va_eqt (hs _ (of_decide_eq_true (gs_all gs_2 hi)))) hA, vk_OFof q1 ht9 hA, hT⟩⟩
    · exact ⟨(0, 0), fun h => absurd h hi⟩
  obtain ⟨ad, had⟩ := Classical.axiomOfChoice h0
  refine ⟨fun i => (ad i).1, fun i => (ad i).2, ⟨fun i hi => (had i hi).2, fun i j hi hj e => ?_⟩, fun i hi => vk_R.of (ht _ (of_decide_eq_true (gs_all gs_5 hi))) (had i hi).1⟩
  exact ks_inj (adK := fun i => (ad i).1) (adV := fun i => (ad i).2) (A := A) (H := s.heap) (fun i hi => (had i hi).2.2.2) hi hj e
theorem gz_1 : Cond.laysStatic RJ0 "COMPACT_STRINGS" "Z" ∈ tables_1 ∧ Cond.initialized RJ0 ∈ tables_1 ∧ Cond.laysStatic RJ3 "SIOOBE_FORMATTER" "Ljava/util/function/BiFunction;" ∈ tables_1 ∧ Cond.initialized RJ3 ∈ tables_1 := by decide +kernel
theorem gz_2 : Cond.laysStatic Bundle.tN "UNASSIGNED_STACK" Bundle.steD ∈ tables_1 ∧ Cond.initialized Bundle.tN ∈ tables_1 ∧ Cond.laysStatic Bundle.tN "SUPPRESSED_SENTINEL" Bundle.listD ∈ tables_1 := by decide +kernel
theorem gz_3 : Cond.eq (.static RJ0 "COMPACT_STRINGS" "Z") (.int 1) ∈ gvC ∧ Cond.isRef (.static RJ3 "SIOOBE_FORMATTER" "Ljava/util/function/BiFunction;") ∈ gvC ∧ Cond.isRef (.static Bundle.tN "UNASSIGNED_STACK" Bundle.steD) ∈ gvC ∧ Cond.isRef (.static Bundle.tN "SUPPRESSED_SENTINEL" Bundle.listD) ∈ gvC := by decide +kernel
theorem gv_st (h : (Jvm.Cond.and given_1 narrow_1).before args s = true) (ht : ∀ w ∈ tables_1, w.before args s = true) {A : Nat → Prop} (hA : ∀ a : Nat, a < s.heap.size → ¬ A a) : va_Z RJ0 "COMPACT_STRINGS" "Z" (.int 1) A s s.heap ∧ va_Zq RJ3 "SIOOBE_FORMATTER" "Ljava/util/function/BiFunction;" A s s.heap ∧ vx_Zq Bundle.tN "UNASSIGNED_STACK" Bundle.steD A s s.heap ∧ vx_Zq Bundle.tN "SUPPRESSED_SENTINEL" Bundle.listD A s s.heap := by
  have hs := flat_of_before _ h
  exact ⟨va_Zof (ht _ gz_1.1) (ht _ gz_1.2.1) (va_eqv (hs _ gz_3.1) rfl) hA, va_Zqof (ht _ gz_1.2.2.1) (ht _ gz_1.2.2.2) (hs _ gz_3.2.1) hA, vx_Zqof (ht _ gz_2.1) (ht _ gz_2.2.1) (hs _ gz_3.2.2.1) hA, vx_Zqof (ht _ gz_2.2.2) (ht _ gz_2.2.1) (hs _ gz_3.2.2.2) hA⟩
/-- every String constant of the words is there -/
def gq_f (w : Cond) : Bool := match w with
  | .stringRef o k _ => decide (Cond.exactly (.string o k) "java/lang/String" ∈ gvC)
  | _ => true
theorem gq_0 : (ev_tl 0).all gq_f = true := by decide +kernel
theorem gq_1 : (ev_tl 1).all gq_f = true := by decide +kernel
theorem gq_2 : (ev_tl 2).all gq_f = true := by decide +kernel
theorem gq_3 : (ev_tl 3).all gq_f = true := by decide +kernel
theorem gq_4 : (ev_tl 4).all gq_f = true := by decide +kernel
theorem gq_5 : (ev_tl 5).all gq_f = true := by decide +kernel
theorem gq_6 : (ev_tl 6).all gq_f = true := by decide +kernel
theorem gq_7 : (ev_tl 7).all gq_f = true := by decide +kernel
theorem gq_8 : (ev_tl 8).all gq_f = true := by decide +kernel
theorem gq_9 : (ev_tl 9).all gq_f = true := by decide +kernel
theorem gq_10 : (ev_tl 10).all gq_f = true := by decide +kernel
theorem gq_a {w : Cond} (hw : w ∈ lw_tbl) : gq_f w = true := by
  have h : w ∈ ev_tl 0 ++ (ev_tl 1 ++ (ev_tl 2 ++ (ev_tl 3 ++ (ev_tl 4 ++ (ev_tl 5 ++ (ev_tl 6 ++ (ev_tl 7 ++ (ev_tl 8 ++ (ev_tl 9 ++ ev_tl 10))))))))) := hw
  simp only [List.mem_append] at h
  rcases h with h | h | h | h | h | h | h | h | h | h | h
  · exact List.all_eq_true.mp gq_0 w h
  · exact List.all_eq_true.mp gq_1 w h
  · exact List.all_eq_true.mp gq_2 w h
  · exact List.all_eq_true.mp gq_3 w h
  · exact List.all_eq_true.mp gq_4 w h
  · exact List.all_eq_true.mp gq_5 w h
  · exact List.all_eq_true.mp gq_6 w h
  · exact List.all_eq_true.mp gq_7 w h
  · exact List.all_eq_true.mp gq_8 w h
  · exact List.all_eq_true.mp gq_9 w h
  · exact List.all_eq_true.mp gq_10 w h
theorem gv_sr (h : (Jvm.Cond.and given_1 narrow_1).before args s = true) (ht : ∀ w ∈ lw_tbl, w.before args s = true) (own : String) (k : Nat) (tx : String) (hw : Cond.stringRef own k tx ∈ lw_tbl) : ∃ a, vk_R own k tx a s := by
  have hs := flat_of_before _ h
  have hg : decide (Cond.exactly (.string own k) "java/lang/String" ∈ gvC) = true := gq_a hw
  obtain ⟨a, c, cA, kA, q1, -⟩ := Cond.exactly_spec (args := args) (first := s) (o := none) (s := s) (idx := []) (t := .string own k) (cls := "java/lang/String") (hs _ (of_decide_eq_true hg))
  exact ⟨a, vk_R.of (ht _ hw) q1⟩
end GivenKt
