/-! ===== the class: rows of bytes ===== -/
section XOut
variable {G : ev_G} {N : Nat → Nat} {μ : ev_M} {p : Nat}
/-- a row of bytes that holds a list -/
def owr (a : Nat) (l : List Nat) (μ : ev_M) : ev_M := (fun c k => if c = a + 1 ∧ k < l.length then nI (l.getD k 0) else if c = a ∧ k = 1 then nI l.length else μ.1 c k, μ.2)
def OW (a L : Nat) : Prop := sh_kd a = 0 ∧ sh_pt a 0 = a + 1 ∧ sh_kd (a + 1) = 10 ∧ sh_ln (a + 1) = L ∧ a + 1 < 312 ∧ L ≤ 500
theorem OW_1 : OW 1 500 := by unfold OW; decide +kernel
theorem OW_3 : OW 3 64 := by unfold OW; decide +kernel
theorem owr_add {a v : Nat} {l : List Nat} : w1 (w1 (owr a l μ) (a + 1) l.length (nI v)) a 1 (nI (l.length + 1)) = owr a (l ++ [v]) μ := by
  refine Prod.ext (funext fun c => funext fun k => ?_) rfl
  show (if c = a ∧ k = 1 then nI (l.length + 1) else if c = a + 1 ∧ k = l.length then nI v else if c = a + 1 ∧ k < l.length then nI (l.getD k 0) else if c = a ∧ k = 1 then nI l.length else μ.1 c k) = if c = a + 1 ∧ k < (l ++ [v]).length then nI ((l ++ [v]).getD k 0) else if c = a ∧ k = 1 then nI (l ++ [v]).length else μ.1 c k
  rw [List.length_append, List.length_singleton]
  by_cases h1 : c = a ∧ k = 1
  · rw [if_pos h1, if_neg (by omega), if_pos h1]
  · rw [if_neg h1]
    by_cases h2 : c = a + 1
    · by_cases h3 : k = l.length
      · rw [if_pos ⟨h2, h3⟩, if_pos ⟨h2, by omega⟩, h3]
        simp
      · rw [if_neg (fun z => h3 z.2)]
        by_cases h4 : k < l.length
        · rw [if_pos ⟨h2, h4⟩, if_pos ⟨h2, by omega⟩, List.getD_eq_getElem?_getD, List.getD_eq_getElem?_getD, List.getElem?_append_left h4]
        · rw [if_neg (fun z => h4 z.2), if_neg h1, if_neg (by omega), if_neg h1]
    · rw [if_neg (fun z => h2 z.1), if_neg (fun z => h2 z.1), if_neg h1, if_neg (fun z => h2 z.1), if_neg h1]
theorem owr_s {a : Nat} {l : List Nat} : (owr a l μ).1 a 1 = nI l.length := by
  show (if a = a + 1 ∧ 1 < l.length then nI (l.getD 1 0) else if a = a ∧ 1 = 1 then nI l.length else μ.1 a 1) = _
  rw [if_neg (by omega), if_pos ⟨rfl, rfl⟩]
theorem owr_n {a c k : Nat} {l : List Nat} (h : c ≠ a) (h2 : c ≠ a + 1) : (owr a l μ).1 c k = μ.1 c k := by
  show (if c = a + 1 ∧ k < l.length then nI (l.getD k 0) else if c = a ∧ k = 1 then nI l.length else μ.1 c k) = _
  rw [if_neg (fun z => h2 z.1), if_neg (fun z => h z.1)]
theorem owr_2 {a : Nat} {l : List Nat} : (owr a l μ).2 = μ.2 := rfl
theorem owr_0 {a : Nat} : w1 μ a 1 (nI 0) = owr a [] μ := by
  refine Prod.ext (funext fun c => funext fun k => ?_) rfl
  show (if c = a ∧ k = 1 then nI 0 else μ.1 c k) = if c = a + 1 ∧ k < 0 then nI (([] : List Nat).getD k 0) else if c = a ∧ k = 1 then nI 0 else μ.1 c k
  rw [if_neg (show ¬ (c = a + 1 ∧ k < 0) from fun z => absurd z.2 (Nat.not_lt_zero _))]
theorem owr_e {a : Nat} {l : List Nat} (h : μ.1 a 1 = nI l.length) (h2 : ∀ k, k < l.length → μ.1 (a + 1) k = nI (l.getD k 0)) : owr a l μ = μ := by
  refine Prod.ext (funext fun c => funext fun k => ?_) rfl
  show (if c = a + 1 ∧ k < l.length then nI (l.getD k 0) else if c = a ∧ k = 1 then nI l.length else μ.1 c k) = μ.1 c k
  by_cases c1 : c = a + 1 ∧ k < l.length
  · rw [if_pos c1, c1.1, h2 k c1.2]
  · rw [if_neg c1]
    by_cases c2 : c = a ∧ k = 1
    · rw [if_pos c2, c2.1, c2.2, h]
    · rw [if_neg c2]
theorem m_X1_empty (hok : ev_ok sh_S G) {a L : Nat} (ha : OW a L) : ev_T sh_S G mi_X1_empty [.ref a] μ (.inl (none, owr a [] μ)) := by
  obtain ⟨h1, h2, h3, h4, h5, h6⟩ := ha
  rw [← owr_0]
  refine ev_tri hok okM_X1_empty (Nat.le_of_ble_eq_true rfl) 400 ?_
  rw [at_X1_empty_0]
  repeat' (first
    | (with_reducible refine ev_rid ?_; simp (disch := first | omega | assumption) only [ev_run_c, ev_run_n, ev_fj, ev_stp, ev_lk, ev_fv, ev_as, ev_sz, ev_st1, ev_st2, ev_rm, ev_pk, ev_Jof, ev_go, lv_args, List.map_cons, List.map_nil, List.zip_cons_cons, List.zip_nil_left, List.zip_nil_right, List.nil_append, List.cons_append, ↓reduceIte, reduceCtorEq, Int.reduceToNat, Nat.reduceEqDiff, Nat.reduceAdd, Nat.reduceLT, Nat.reduceLeDiff, Nat.reduceMul, Nat.reduceSub, Value.category, false_implies, true_and, and_true, Bool.false_eq_true, Option.some.injEq, exists_eq_left', Option.toList_some, Option.toList_none, ev_km, ev_k2, ev_k3, ev_k4, ev_k5, ev_l0, ev_l1, sh_1, sh_2, sh_3, sh_4, sh_5, cd_X1_empty_0, fl_X1_19, no_0, no_1, no_lt, no_le, no_eq, no_lt0, no_ge0, no_gt0, no_le0, no_eq0, no_0eq, no_eqm, no_meq, no_m0, no_mlt, no_mge, no_mgt, no_mm, no_i01, no_i10, no_in, no_or, no_ifm, no_mul, nI_add, no_sub, pk_div, iI_if, nI_clamp, oI_n, oI_s, not_true_eq_false, not_false_eq_true, forall_const, true_implies, false_and, and_false, or_false, false_or, Classical.not_not, true_or, or_true, no_b, no_eq1, eq_self, and_self, no_on, h1, h2, w1_d])
    | (with_reducible refine ev_gid ?_; simp (disch := first | omega | assumption) only [ev_run_c, ev_run_n, ev_fj, ev_stp, ev_lk, ev_fv, ev_as, ev_sz, ev_st1, ev_st2, ev_rm, ev_pk, ev_Jof, ev_go, lv_args, List.map_cons, List.map_nil, List.zip_cons_cons, List.zip_nil_left, List.zip_nil_right, List.nil_append, List.cons_append, ↓reduceIte, reduceCtorEq, Int.reduceToNat, Nat.reduceEqDiff, Nat.reduceAdd, Nat.reduceLT, Nat.reduceLeDiff, Nat.reduceMul, Nat.reduceSub, Value.category, false_implies, true_and, and_true, Bool.false_eq_true, Option.some.injEq, exists_eq_left', Option.toList_some, Option.toList_none, ev_km, ev_k2, ev_k3, ev_k4, ev_k5, ev_l0, ev_l1, sh_1, sh_2, sh_3, sh_4, sh_5, cd_X1_empty_0, fl_X1_19, no_0, no_1, no_lt, no_le, no_eq, no_lt0, no_ge0, no_gt0, no_le0, no_eq0, no_0eq, no_eqm, no_meq, no_m0, no_mlt, no_mge, no_mgt, no_mm, no_i01, no_i10, no_in, no_or, no_ifm, no_mul, nI_add, no_sub, pk_div, iI_if, nI_clamp, oI_n, oI_s, not_true_eq_false, not_false_eq_true, forall_const, true_implies, false_and, and_false, or_false, false_or, Classical.not_not, true_or, or_true, no_b, no_eq1, eq_self, and_self, no_on, h1, h2, w1_d])
    | (with_reducible refine And.intro (fun q => ?_) (fun q => ?_) <;> (try simp (disch := first | omega | assumption) only [no_0, no_1, no_lt, no_le, no_eq, no_lt0, no_ge0, no_gt0, no_le0, no_eq0, no_0eq, no_eqm, no_meq, no_m0, no_mlt, no_mge, no_mgt, no_mm, no_i01, no_i10, no_in, no_or, no_ifm, no_mul, nI_add, no_sub, pk_div, iI_if, nI_clamp, oI_n, oI_s, not_true_eq_false, not_false_eq_true, forall_const, true_implies, false_and, and_false, or_false, false_or, Classical.not_not, true_or, or_true, no_b, no_eq1, eq_self, and_self, no_on, h1, h2, w1_d] at q))
    | omega
    | with_reducible assumption
    | with_reducible rfl
    | (refine Nat.lt_of_lt_of_le ?_ (Nat.le_refl 312); omega)
    | with_reducible refine lp_nx ?_ ?_ ?_ ?_
    | with_reducible refine lp_st ?_ ?_ ?_
    | with_reducible refine ls_c ?_ ?_
    | with_reducible refine vi_c ?_
    | with_reducible refine re_c ?_
    | with_reducible refine vz_c ?_
    | with_reducible refine rz_c ?_
    | exact trivial
    | with_reducible refine And.intro ?_ ?_
    | simp (disch := first | omega | assumption) only [ev_run_c, ev_run_n, ev_fj, ev_stp, ev_lk, ev_fv, ev_as, ev_sz, ev_st1, ev_st2, ev_rm, ev_pk, ev_Jof, ev_go, lv_args, List.map_cons, List.map_nil, List.zip_cons_cons, List.zip_nil_left, List.zip_nil_right, List.nil_append, List.cons_append, ↓reduceIte, reduceCtorEq, Int.reduceToNat, Nat.reduceEqDiff, Nat.reduceAdd, Nat.reduceLT, Nat.reduceLeDiff, Nat.reduceMul, Nat.reduceSub, Value.category, false_implies, true_and, and_true, Bool.false_eq_true, Option.some.injEq, exists_eq_left', Option.toList_some, Option.toList_none, ev_km, ev_k2, ev_k3, ev_k4, ev_k5, ev_l0, ev_l1, sh_1, sh_2, sh_3, sh_4, sh_5, cd_X1_empty_0, fl_X1_19, no_0, no_1, no_lt, no_le, no_eq, no_lt0, no_ge0, no_gt0, no_le0, no_eq0, no_0eq, no_eqm, no_meq, no_m0, no_mlt, no_mge, no_mgt, no_mm, no_i01, no_i10, no_in, no_or, no_ifm, no_mul, nI_add, no_sub, pk_div, iI_if, nI_clamp, oI_n, oI_s, not_true_eq_false, not_false_eq_true, forall_const, true_implies, false_and, and_false, or_false, false_or, Classical.not_not, true_or, or_true, no_b, no_eq1, eq_self, and_self, no_on, h1, h2, w1_d]
    | exact rfl
    | (split <;> omega))
theorem m_X1_add (hok : ev_ok sh_S G) {a L : Nat} (ha : OW a L) {l : List Nat} {v : Nat} (hl : l.length < L) : ev_T sh_S G mi_X1_add [.ref a, .int (nI v)] (owr a l μ) (.inl (none, owr a (l ++ [v]) μ)) := by
  obtain ⟨h1, h2, h3, h4, h5, h6⟩ := ha
  rw [← owr_add]
  have e1 : ∀ x, (w1 (owr a l μ) (a + 1) l.length x).1 a 1 = nI l.length := fun x => by rw [w1_n (by omega), owr_s]
  refine ev_tri hok okM_X1_add (Nat.le_of_ble_eq_true rfl) 400 ?_
  rw [at_X1_add_0]
  repeat' (first
    | (with_reducible refine ev_rid ?_; simp (disch := first | omega | assumption) only [ev_run_c, ev_run_n, ev_fj, ev_stp, ev_lk, ev_fv, ev_as, ev_sz, ev_st1, ev_st2, ev_rm, ev_pk, ev_Jof, ev_go, lv_args, List.map_cons, List.map_nil, List.zip_cons_cons, List.zip_nil_left, List.zip_nil_right, List.nil_append, List.cons_append, ↓reduceIte, reduceCtorEq, Int.reduceToNat, Nat.reduceEqDiff, Nat.reduceAdd, Nat.reduceLT, Nat.reduceLeDiff, Nat.reduceMul, Nat.reduceSub, Value.category, false_implies, true_and, and_true, Bool.false_eq_true, Option.some.injEq, exists_eq_left', Option.toList_some, Option.toList_none, ev_km, ev_k2, ev_k3, ev_k4, ev_k5, ev_l0, ev_l1, sh_1, sh_2, sh_3, sh_4, sh_5, at_X1_add_34, ca_X1_29, cd_X1_add_0, cd_X1_add_34, fl_X1_13, fl_X1_19, no_0, no_1, no_lt, no_le, no_eq, no_lt0, no_ge0, no_gt0, no_le0, no_eq0, no_0eq, no_eqm, no_meq, no_m0, no_mlt, no_mge, no_mgt, no_mm, no_i01, no_i10, no_in, no_or, no_ifm, no_mul, nI_add, no_sub, pk_div, iI_if, nI_clamp, oI_n, oI_s, not_true_eq_false, not_false_eq_true, forall_const, true_implies, false_and, and_false, or_false, false_or, Classical.not_not, true_or, or_true, no_b, no_eq1, eq_self, and_self, no_on, h1, h2, h3, h4, owr_s, w1_d, e1])
    | (with_reducible refine ev_gid ?_; simp (disch := first | omega | assumption) only [ev_run_c, ev_run_n, ev_fj, ev_stp, ev_lk, ev_fv, ev_as, ev_sz, ev_st1, ev_st2, ev_rm, ev_pk, ev_Jof, ev_go, lv_args, List.map_cons, List.map_nil, List.zip_cons_cons, List.zip_nil_left, List.zip_nil_right, List.nil_append, List.cons_append, ↓reduceIte, reduceCtorEq, Int.reduceToNat, Nat.reduceEqDiff, Nat.reduceAdd, Nat.reduceLT, Nat.reduceLeDiff, Nat.reduceMul, Nat.reduceSub, Value.category, false_implies, true_and, and_true, Bool.false_eq_true, Option.some.injEq, exists_eq_left', Option.toList_some, Option.toList_none, ev_km, ev_k2, ev_k3, ev_k4, ev_k5, ev_l0, ev_l1, sh_1, sh_2, sh_3, sh_4, sh_5, at_X1_add_34, ca_X1_29, cd_X1_add_0, cd_X1_add_34, fl_X1_13, fl_X1_19, no_0, no_1, no_lt, no_le, no_eq, no_lt0, no_ge0, no_gt0, no_le0, no_eq0, no_0eq, no_eqm, no_meq, no_m0, no_mlt, no_mge, no_mgt, no_mm, no_i01, no_i10, no_in, no_or, no_ifm, no_mul, nI_add, no_sub, pk_div, iI_if, nI_clamp, oI_n, oI_s, not_true_eq_false, not_false_eq_true, forall_const, true_implies, false_and, and_false, or_false, false_or, Classical.not_not, true_or, or_true, no_b, no_eq1, eq_self, and_self, no_on, h1, h2, h3, h4, owr_s, w1_d, e1])
    | (with_reducible refine And.intro (fun q => ?_) (fun q => ?_) <;> (try simp (disch := first | omega | assumption) only [no_0, no_1, no_lt, no_le, no_eq, no_lt0, no_ge0, no_gt0, no_le0, no_eq0, no_0eq, no_eqm, no_meq, no_m0, no_mlt, no_mge, no_mgt, no_mm, no_i01, no_i10, no_in, no_or, no_ifm, no_mul, nI_add, no_sub, pk_div, iI_if, nI_clamp, oI_n, oI_s, not_true_eq_false, not_false_eq_true, forall_const, true_implies, false_and, and_false, or_false, false_or, Classical.not_not, true_or, or_true, no_b, no_eq1, eq_self, and_self, no_on, h1, h2, h3, h4, owr_s, w1_d, e1] at q))
    | with_reducible refine ev_ci (m_X10_setCell hok ?_ ?_ ?_ ?_ _) ?_
    | omega
    | with_reducible assumption
    | with_reducible rfl
    | (refine Nat.lt_of_lt_of_le ?_ (Nat.le_refl 312); omega)
    | with_reducible refine lp_nx ?_ ?_ ?_ ?_
    | with_reducible refine lp_st ?_ ?_ ?_
    | with_reducible refine ls_c ?_ ?_
    | with_reducible refine vi_c ?_
    | with_reducible refine re_c ?_
    | with_reducible refine vz_c ?_
    | with_reducible refine rz_c ?_
    | exact trivial
    | with_reducible refine And.intro ?_ ?_
    | simp (disch := first | omega | assumption) only [ev_run_c, ev_run_n, ev_fj, ev_stp, ev_lk, ev_fv, ev_as, ev_sz, ev_st1, ev_st2, ev_rm, ev_pk, ev_Jof, ev_go, lv_args, List.map_cons, List.map_nil, List.zip_cons_cons, List.zip_nil_left, List.zip_nil_right, List.nil_append, List.cons_append, ↓reduceIte, reduceCtorEq, Int.reduceToNat, Nat.reduceEqDiff, Nat.reduceAdd, Nat.reduceLT, Nat.reduceLeDiff, Nat.reduceMul, Nat.reduceSub, Value.category, false_implies, true_and, and_true, Bool.false_eq_true, Option.some.injEq, exists_eq_left', Option.toList_some, Option.toList_none, ev_km, ev_k2, ev_k3, ev_k4, ev_k5, ev_l0, ev_l1, sh_1, sh_2, sh_3, sh_4, sh_5, at_X1_add_34, ca_X1_29, cd_X1_add_0, cd_X1_add_34, fl_X1_13, fl_X1_19, no_0, no_1, no_lt, no_le, no_eq, no_lt0, no_ge0, no_gt0, no_le0, no_eq0, no_0eq, no_eqm, no_meq, no_m0, no_mlt, no_mge, no_mgt, no_mm, no_i01, no_i10, no_in, no_or, no_ifm, no_mul, nI_add, no_sub, pk_div, iI_if, nI_clamp, oI_n, oI_s, not_true_eq_false, not_false_eq_true, forall_const, true_implies, false_and, and_false, or_false, false_or, Classical.not_not, true_or, or_true, no_b, no_eq1, eq_self, and_self, no_on, h1, h2, h3, h4, owr_s, w1_d, e1]
    | exact rfl
    | (split <;> omega))
theorem m_X1_get (hok : ev_ok sh_S G) {a L j : Nat} (ha : OW a L) (hj : j < L) : ev_T sh_S G mi_X1_get [.ref a, .int (nI j)] μ (.inl (some (.int (μ.1 (a + 1) j)), μ)) := by
  obtain ⟨h1, h2, h3, h4, h5, h6⟩ := ha
  have e := m_X10_cell (μ := μ) hok h5 h3 (by omega) (nI j)
  rw [h4, sp_cj (by omega) hj] at e
  refine ev_tri hok okM_X1_get (Nat.le_of_ble_eq_true rfl) 400 ?_
  rw [at_X1_get_0]
  repeat' (first
    | (with_reducible refine ev_rid ?_; simp (disch := first | omega | assumption) only [ev_run_c, ev_run_n, ev_fj, ev_stp, ev_lk, ev_fv, ev_as, ev_sz, ev_st1, ev_st2, ev_rm, ev_pk, ev_Jof, ev_go, lv_args, List.map_cons, List.map_nil, List.zip_cons_cons, List.zip_nil_left, List.zip_nil_right, List.nil_append, List.cons_append, ↓reduceIte, reduceCtorEq, Int.reduceToNat, Nat.reduceEqDiff, Nat.reduceAdd, Nat.reduceLT, Nat.reduceLeDiff, Nat.reduceMul, Nat.reduceSub, Value.category, false_implies, true_and, and_true, Bool.false_eq_true, Option.some.injEq, exists_eq_left', Option.toList_some, Option.toList_none, ev_km, ev_k2, ev_k3, ev_k4, ev_k5, ev_l0, ev_l1, sh_1, sh_2, sh_3, sh_4, sh_5, ca_X1_23, cd_X1_get_0, fl_X1_13, no_0, no_1, no_lt, no_le, no_eq, no_lt0, no_ge0, no_gt0, no_le0, no_eq0, no_0eq, no_eqm, no_meq, no_m0, no_mlt, no_mge, no_mgt, no_mm, no_i01, no_i10, no_in, no_or, no_ifm, no_mul, nI_add, no_sub, pk_div, iI_if, nI_clamp, oI_n, oI_s, not_true_eq_false, not_false_eq_true, forall_const, true_implies, false_and, and_false, or_false, false_or, Classical.not_not, true_or, or_true, no_b, no_eq1, eq_self, and_self, no_on, h1, h2])
    | (with_reducible refine ev_gid ?_; simp (disch := first | omega | assumption) only [ev_run_c, ev_run_n, ev_fj, ev_stp, ev_lk, ev_fv, ev_as, ev_sz, ev_st1, ev_st2, ev_rm, ev_pk, ev_Jof, ev_go, lv_args, List.map_cons, List.map_nil, List.zip_cons_cons, List.zip_nil_left, List.zip_nil_right, List.nil_append, List.cons_append, ↓reduceIte, reduceCtorEq, Int.reduceToNat, Nat.reduceEqDiff, Nat.reduceAdd, Nat.reduceLT, Nat.reduceLeDiff, Nat.reduceMul, Nat.reduceSub, Value.category, false_implies, true_and, and_true, Bool.false_eq_true, Option.some.injEq, exists_eq_left', Option.toList_some, Option.toList_none, ev_km, ev_k2, ev_k3, ev_k4, ev_k5, ev_l0, ev_l1, sh_1, sh_2, sh_3, sh_4, sh_5, ca_X1_23, cd_X1_get_0, fl_X1_13, no_0, no_1, no_lt, no_le, no_eq, no_lt0, no_ge0, no_gt0, no_le0, no_eq0, no_0eq, no_eqm, no_meq, no_m0, no_mlt, no_mge, no_mgt, no_mm, no_i01, no_i10, no_in, no_or, no_ifm, no_mul, nI_add, no_sub, pk_div, iI_if, nI_clamp, oI_n, oI_s, not_true_eq_false, not_false_eq_true, forall_const, true_implies, false_and, and_false, or_false, false_or, Classical.not_not, true_or, or_true, no_b, no_eq1, eq_self, and_self, no_on, h1, h2])
    | (with_reducible refine And.intro (fun q => ?_) (fun q => ?_) <;> (try simp (disch := first | omega | assumption) only [no_0, no_1, no_lt, no_le, no_eq, no_lt0, no_ge0, no_gt0, no_le0, no_eq0, no_0eq, no_eqm, no_meq, no_m0, no_mlt, no_mge, no_mgt, no_mm, no_i01, no_i10, no_in, no_or, no_ifm, no_mul, nI_add, no_sub, pk_div, iI_if, nI_clamp, oI_n, oI_s, not_true_eq_false, not_false_eq_true, forall_const, true_implies, false_and, and_false, or_false, false_or, Classical.not_not, true_or, or_true, no_b, no_eq1, eq_self, and_self, no_on, h1, h2] at q))
    | (with_reducible refine ev_ci e ?_)
    | with_reducible refine ev_ci (m_cell_to hok hp (by with_reducible assumption) ?_) ?_
    | with_reducible refine ev_ci (m_cell_li hok hp (by with_reducible assumption) ?_) ?_
    | with_reducible refine ev_ci (m_cell_ki hok hp (by with_reducible assumption) ?_) ?_
    | omega
    | with_reducible assumption
    | with_reducible rfl
    | (refine Nat.lt_of_lt_of_le ?_ (Nat.le_refl 312); omega)
    | with_reducible refine lp_nx ?_ ?_ ?_ ?_
    | with_reducible refine lp_st ?_ ?_ ?_
    | with_reducible refine ls_c ?_ ?_
    | with_reducible refine vi_c ?_
    | with_reducible refine re_c ?_
    | with_reducible refine vz_c ?_
    | with_reducible refine rz_c ?_
    | exact trivial
    | with_reducible refine And.intro ?_ ?_
    | simp (disch := first | omega | assumption) only [ev_run_c, ev_run_n, ev_fj, ev_stp, ev_lk, ev_fv, ev_as, ev_sz, ev_st1, ev_st2, ev_rm, ev_pk, ev_Jof, ev_go, lv_args, List.map_cons, List.map_nil, List.zip_cons_cons, List.zip_nil_left, List.zip_nil_right, List.nil_append, List.cons_append, ↓reduceIte, reduceCtorEq, Int.reduceToNat, Nat.reduceEqDiff, Nat.reduceAdd, Nat.reduceLT, Nat.reduceLeDiff, Nat.reduceMul, Nat.reduceSub, Value.category, false_implies, true_and, and_true, Bool.false_eq_true, Option.some.injEq, exists_eq_left', Option.toList_some, Option.toList_none, ev_km, ev_k2, ev_k3, ev_k4, ev_k5, ev_l0, ev_l1, sh_1, sh_2, sh_3, sh_4, sh_5, ca_X1_23, cd_X1_get_0, fl_X1_13, no_0, no_1, no_lt, no_le, no_eq, no_lt0, no_ge0, no_gt0, no_le0, no_eq0, no_0eq, no_eqm, no_meq, no_m0, no_mlt, no_mge, no_mgt, no_mm, no_i01, no_i10, no_in, no_or, no_ifm, no_mul, nI_add, no_sub, pk_div, iI_if, nI_clamp, oI_n, oI_s, not_true_eq_false, not_false_eq_true, forall_const, true_implies, false_and, and_false, or_false, false_or, Classical.not_not, true_or, or_true, no_b, no_eq1, eq_self, and_self, no_on, h1, h2]
    | exact rfl
    | (split <;> omega))
/-- a number's digits, as the class writes them -/
def dvs (k : Nat) : Nat := if k < 10 then 10 ^ (9 - k) else 0
theorem dvs_s {k : Nat} (h : k < 10) : dvs k / 10 = dvs (k + 1) ∧ 0 < dvs k ∧ dvs k ≤ 1000000000 := by
  have : ∀ k, k < 10 → dvs k / 10 = dvs (k + 1) ∧ 0 < dvs k ∧ dvs k ≤ 1000000000 := by decide +kernel
  exact this k h
theorem dvs_10 : dvs 10 = 0 := rfl
theorem dvs_0 : dvs 0 = 1000000000 := rfl
def dgt (n k : Nat) : Nat := n / dvs k - n / dvs k / 10 * 10
theorem dgt_le (n k : Nat) : dgt n k ≤ 9 := by unfold dgt; omega
def hst (n : Nat) : Nat → Nat
  | 0 => 0
  | k + 1 => if hst n k = 0 ∧ dgt n k = 0 ∧ ¬ dvs k = 1 then 0 else 1
def dL (n : Nat) : Nat → List Nat
  | 0 => []
  | k + 1 => if hst n (k + 1) = 0 then dL n k else dL n k ++ [48 + dgt n k]
theorem dL_len (n k : Nat) : (dL n k).length ≤ k := by
  induction k with
  | zero => exact Nat.le_refl 0
  | succ k ih =>
    show (if hst n (k + 1) = 0 then dL n k else dL n k ++ [48 + dgt n k]).length ≤ k + 1
    split
    · omega
    · rw [List.length_append, List.length_singleton]; omega
theorem hst_le (n k : Nat) : hst n k ≤ 1 := by
  cases k with
  | zero => exact Nat.zero_le _
  | succ k =>
    show (if hst n k = 0 ∧ dgt n k = 0 ∧ ¬ dvs k = 1 then 0 else 1) ≤ 1
    split <;> omega
theorem dL_0 {n k : Nat} (h : hst n k = 0 ∧ dgt n k = 0 ∧ ¬ dvs k = 1) : hst n (k + 1) = 0 ∧ dL n (k + 1) = dL n k := by
  have e : hst n (k + 1) = 0 := if_pos h
  exact ⟨e, if_pos e⟩
theorem dL_1 {n k : Nat} (h : ¬ (hst n k = 0 ∧ dgt n k = 0 ∧ ¬ dvs k = 1)) : hst n (k + 1) = 1 ∧ dL n (k + 1) = dL n k ++ [48 + dgt n k] := by
  have e : hst n (k + 1) = 1 := if_neg h
  exact ⟨e, if_neg (by rw [e]; omega)⟩
/-- a number's text -/
def dgZ (z : Int) : List Nat := (if z < 0 then [45] else []) ++ dL z.natAbs 10
theorem dgZ_len (z : Int) : (dgZ z).length ≤ 11 := by
  unfold dgZ
  rw [List.length_append]
  have := dL_len z.natAbs 10
  split
  · rw [List.length_singleton]; omega
  · rw [List.length_nil]; omega
theorem owr_c {a : Nat} {l m : List Nat} (h : l = m) : owr a l μ = owr a m μ := by rw [h]
set_option maxHeartbeats 1000000 in
theorem m_X1_addNumber (hok : ev_ok sh_S G) {a L : Nat} (ha : OW a L) {l : List Nat} {z : Int} (hl : l.length + 11 < L) (hz : -100000 ≤ z ∧ z ≤ 100000) : ev_T sh_S G mi_X1_addNumber [.ref a, .int (iI z)] (owr a l μ) (.inl (none, owr a (l ++ dgZ z) μ)) := by
  obtain ⟨o1, o2, o3, o4, o5, o6⟩ := id ha
  have hn : z.natAbs ≤ 100000 := by omega
  have hs : (if z < 0 then [45] else ([] : List Nat)).length ≤ 1 := by split <;> simp
  have hs2 : (l ++ (if z < 0 then [45] else ([] : List Nat))).length ≤ l.length + 1 := by rw [List.length_append]; omega
  refine ev_tri1 hok okM_X1_addNumber (Nat.le_of_ble_eq_true rfl) 21 [0, 1, 2, 3, 4] 10 400 (fun k => [.ref a, .int (iI z), .int (nI z.natAbs), .int (nI (hst z.natAbs k)), .int (nI (dvs k))]) (fun k => owr a (l ++ (if z < 0 then [45] else []) ++ dL z.natAbs k) μ) (fun _ => True) ?_ ?_
  · intro k hk _
    rw [at_X1_addNumber_21]
    have hh := hst_le z.natAbs k
    have hd := dgt_le z.natAbs k
    have hlen := dL_len z.natAbs k
    have hlen2 : (l ++ (if z < 0 then [45] else []) ++ dL z.natAbs k).length < L := by rw [List.length_append]; omega
    have hlen3 : (l ++ ((if z < 0 then [45] else []) ++ dL z.natAbs k)).length < L := by rw [← List.append_assoc]; exact hlen2
    rcases Nat.lt_or_ge k 10 with hkn | hkn
    · obtain ⟨e1, e2, e3⟩ := dvs_s hkn
      have ed : z.natAbs / dvs k - z.natAbs / dvs k / 10 * 10 = dgt z.natAbs k := rfl
      have eq1 : z.natAbs / dvs k ≤ z.natAbs := Nat.div_le_self _ _
      by_cases c : hst z.natAbs k = 0 ∧ dgt z.natAbs k = 0 ∧ ¬ dvs k = 1
      · obtain ⟨f1, f2⟩ := dL_0 c
        rw [← f2] at hlen2
        repeat' (first
          | (with_reducible refine ev_rid ?_; simp (disch := first | omega | assumption) only [ev_run_c, ev_run_n, ev_fj, ev_stp, ev_lk, ev_fv, ev_as, ev_sz, ev_st1, ev_st2, ev_rm, ev_pk, ev_Jof, ev_go, lv_args, List.map_cons, List.map_nil, List.zip_cons_cons, List.zip_nil_left, List.zip_nil_right, List.nil_append, List.cons_append, ↓reduceIte, reduceCtorEq, Int.reduceToNat, Nat.reduceEqDiff, Nat.reduceAdd, Nat.reduceLT, Nat.reduceLeDiff, Nat.reduceMul, Nat.reduceSub, Value.category, false_implies, true_and, and_true, Bool.false_eq_true, Option.some.injEq, exists_eq_left', Option.toList_some, Option.toList_none, ev_km, ev_k2, ev_k3, ev_k4, ev_k5, ev_l0, ev_l1, sh_1, sh_2, sh_3, sh_4, sh_5, at_X1_addNumber_10, at_X1_addNumber_21, at_X1_addNumber_50, at_X1_addNumber_54, at_X1_addNumber_55, at_X1_addNumber_69, at_X1_addNumber_79, ca_X1_33, ca_X1_45, cd_X1_addNumber_0, cd_X1_addNumber_10, cd_X1_addNumber_21, cd_X1_addNumber_50, cd_X1_addNumber_54, cd_X1_addNumber_55, cd_X1_addNumber_69, cd_X1_addNumber_79, ko_X1_49, ev_b_10, ev_b_45, ev_b_48, no_0, no_1, no_lt, no_le, no_eq, no_lt0, no_ge0, no_gt0, no_le0, no_eq0, no_0eq, no_eqm, no_meq, no_m0, no_mlt, no_mge, no_mgt, no_mm, no_i01, no_i10, no_in, no_or, no_ifm, no_mul, nI_add, no_sub, pk_div, iI_if, nI_clamp, oI_n, oI_s, not_true_eq_false, not_false_eq_true, forall_const, true_implies, false_and, and_false, or_false, false_or, Classical.not_not, true_or, or_true, no_b, no_eq1, eq_self, and_self, no_on, o1, ed, e1, f1, f2, c.1, c.2.1])
          | (with_reducible refine ev_gid ?_; simp (disch := first | omega | assumption) only [ev_run_c, ev_run_n, ev_fj, ev_stp, ev_lk, ev_fv, ev_as, ev_sz, ev_st1, ev_st2, ev_rm, ev_pk, ev_Jof, ev_go, lv_args, List.map_cons, List.map_nil, List.zip_cons_cons, List.zip_nil_left, List.zip_nil_right, List.nil_append, List.cons_append, ↓reduceIte, reduceCtorEq, Int.reduceToNat, Nat.reduceEqDiff, Nat.reduceAdd, Nat.reduceLT, Nat.reduceLeDiff, Nat.reduceMul, Nat.reduceSub, Value.category, false_implies, true_and, and_true, Bool.false_eq_true, Option.some.injEq, exists_eq_left', Option.toList_some, Option.toList_none, ev_km, ev_k2, ev_k3, ev_k4, ev_k5, ev_l0, ev_l1, sh_1, sh_2, sh_3, sh_4, sh_5, at_X1_addNumber_10, at_X1_addNumber_21, at_X1_addNumber_50, at_X1_addNumber_54, at_X1_addNumber_55, at_X1_addNumber_69, at_X1_addNumber_79, ca_X1_33, ca_X1_45, cd_X1_addNumber_0, cd_X1_addNumber_10, cd_X1_addNumber_21, cd_X1_addNumber_50, cd_X1_addNumber_54, cd_X1_addNumber_55, cd_X1_addNumber_69, cd_X1_addNumber_79, ko_X1_49, ev_b_10, ev_b_45, ev_b_48, no_0, no_1, no_lt, no_le, no_eq, no_lt0, no_ge0, no_gt0, no_le0, no_eq0, no_0eq, no_eqm, no_meq, no_m0, no_mlt, no_mge, no_mgt, no_mm, no_i01, no_i10, no_in, no_or, no_ifm, no_mul, nI_add, no_sub, pk_div, iI_if, nI_clamp, oI_n, oI_s, not_true_eq_false, not_false_eq_true, forall_const, true_implies, false_and, and_false, or_false, false_or, Classical.not_not, true_or, or_true, no_b, no_eq1, eq_self, and_self, no_on, o1, ed, e1, f1, f2, c.1, c.2.1])
          | (with_reducible refine And.intro (fun q => ?_) (fun q => ?_) <;> (try simp (disch := first | omega | assumption) only [no_0, no_1, no_lt, no_le, no_eq, no_lt0, no_ge0, no_gt0, no_le0, no_eq0, no_0eq, no_eqm, no_meq, no_m0, no_mlt, no_mge, no_mgt, no_mm, no_i01, no_i10, no_in, no_or, no_ifm, no_mul, nI_add, no_sub, pk_div, iI_if, nI_clamp, oI_n, oI_s, not_true_eq_false, not_false_eq_true, forall_const, true_implies, false_and, and_false, or_false, false_or, Classical.not_not, true_or, or_true, no_b, no_eq1, eq_self, and_self, no_on, o1, ed, e1, f1, f2, c.1, c.2.1] at q))
          | with_reducible refine ev_ci (m_X1_add hok ha ?_) ?_
          | omega
          | with_reducible assumption
          | with_reducible rfl
          | (refine Nat.lt_of_lt_of_le ?_ (Nat.le_refl 312); omega)
          | with_reducible refine lp_nx ?_ ?_ ?_ ?_
          | with_reducible refine lp_st ?_ ?_ ?_
          | with_reducible refine ls_c ?_ ?_
          | with_reducible refine vi_c ?_
          | with_reducible refine re_c ?_
          | with_reducible refine vz_c ?_
          | with_reducible refine rz_c ?_
          | exact trivial
          | with_reducible refine And.intro ?_ ?_
          | simp (disch := first | omega | assumption) only [ev_run_c, ev_run_n, ev_fj, ev_stp, ev_lk, ev_fv, ev_as, ev_sz, ev_st1, ev_st2, ev_rm, ev_pk, ev_Jof, ev_go, lv_args, List.map_cons, List.map_nil, List.zip_cons_cons, List.zip_nil_left, List.zip_nil_right, List.nil_append, List.cons_append, ↓reduceIte, reduceCtorEq, Int.reduceToNat, Nat.reduceEqDiff, Nat.reduceAdd, Nat.reduceLT, Nat.reduceLeDiff, Nat.reduceMul, Nat.reduceSub, Value.category, false_implies, true_and, and_true, Bool.false_eq_true, Option.some.injEq, exists_eq_left', Option.toList_some, Option.toList_none, ev_km, ev_k2, ev_k3, ev_k4, ev_k5, ev_l0, ev_l1, sh_1, sh_2, sh_3, sh_4, sh_5, at_X1_addNumber_10, at_X1_addNumber_21, at_X1_addNumber_50, at_X1_addNumber_54, at_X1_addNumber_55, at_X1_addNumber_69, at_X1_addNumber_79, ca_X1_33, ca_X1_45, cd_X1_addNumber_0, cd_X1_addNumber_10, cd_X1_addNumber_21, cd_X1_addNumber_50, cd_X1_addNumber_54, cd_X1_addNumber_55, cd_X1_addNumber_69, cd_X1_addNumber_79, ko_X1_49, ev_b_10, ev_b_45, ev_b_48, no_0, no_1, no_lt, no_le, no_eq, no_lt0, no_ge0, no_gt0, no_le0, no_eq0, no_0eq, no_eqm, no_meq, no_m0, no_mlt, no_mge, no_mgt, no_mm, no_i01, no_i10, no_in, no_or, no_ifm, no_mul, nI_add, no_sub, pk_div, iI_if, nI_clamp, oI_n, oI_s, not_true_eq_false, not_false_eq_true, forall_const, true_implies, false_and, and_false, or_false, false_or, Classical.not_not, true_or, or_true, no_b, no_eq1, eq_self, and_self, no_on, o1, ed, e1, f1, f2, c.1, c.2.1]
          | exact rfl
          | (split <;> omega))
      · obtain ⟨f1, f2⟩ := dL_1 c
        by_cases c1 : hst z.natAbs k = 0
        · by_cases c2 : dgt z.natAbs k = 0
          · have c3 : dvs k = 1 := by omega
            repeat' (first
              | (with_reducible refine ev_rid ?_; simp (disch := first | omega | assumption) only [ev_run_c, ev_run_n, ev_fj, ev_stp, ev_lk, ev_fv, ev_as, ev_sz, ev_st1, ev_st2, ev_rm, ev_pk, ev_Jof, ev_go, lv_args, List.map_cons, List.map_nil, List.zip_cons_cons, List.zip_nil_left, List.zip_nil_right, List.nil_append, List.cons_append, ↓reduceIte, reduceCtorEq, Int.reduceToNat, Nat.reduceEqDiff, Nat.reduceAdd, Nat.reduceLT, Nat.reduceLeDiff, Nat.reduceMul, Nat.reduceSub, Value.category, false_implies, true_and, and_true, Bool.false_eq_true, Option.some.injEq, exists_eq_left', Option.toList_some, Option.toList_none, ev_km, ev_k2, ev_k3, ev_k4, ev_k5, ev_l0, ev_l1, sh_1, sh_2, sh_3, sh_4, sh_5, at_X1_addNumber_10, at_X1_addNumber_21, at_X1_addNumber_50, at_X1_addNumber_54, at_X1_addNumber_55, at_X1_addNumber_69, at_X1_addNumber_79, ca_X1_33, ca_X1_45, cd_X1_addNumber_0, cd_X1_addNumber_10, cd_X1_addNumber_21, cd_X1_addNumber_50, cd_X1_addNumber_54, cd_X1_addNumber_55, cd_X1_addNumber_69, cd_X1_addNumber_79, ko_X1_49, ev_b_10, ev_b_45, ev_b_48, no_0, no_1, no_lt, no_le, no_eq, no_lt0, no_ge0, no_gt0, no_le0, no_eq0, no_0eq, no_eqm, no_meq, no_m0, no_mlt, no_mge, no_mgt, no_mm, no_i01, no_i10, no_in, no_or, no_ifm, no_mul, nI_add, no_sub, pk_div, iI_if, nI_clamp, oI_n, oI_s, not_true_eq_false, not_false_eq_true, forall_const, true_implies, false_and, and_false, or_false, false_or, Classical.not_not, true_or, or_true, no_b, no_eq1, eq_self, and_self, no_on, o1, ed, e1, f1, f2, c1, c2, List.append_assoc])
              | (with_reducible refine ev_gid ?_; simp (disch := first | omega | assumption) only [ev_run_c, ev_run_n, ev_fj, ev_stp, ev_lk, ev_fv, ev_as, ev_sz, ev_st1, ev_st2, ev_rm, ev_pk, ev_Jof, ev_go, lv_args, List.map_cons, List.map_nil, List.zip_cons_cons, List.zip_nil_left, List.zip_nil_right, List.nil_append, List.cons_append, ↓reduceIte, reduceCtorEq, Int.reduceToNat, Nat.reduceEqDiff, Nat.reduceAdd, Nat.reduceLT, Nat.reduceLeDiff, Nat.reduceMul, Nat.reduceSub, Value.category, false_implies, true_and, and_true, Bool.false_eq_true, Option.some.injEq, exists_eq_left', Option.toList_some, Option.toList_none, ev_km, ev_k2, ev_k3, ev_k4, ev_k5, ev_l0, ev_l1, sh_1, sh_2, sh_3, sh_4, sh_5, at_X1_addNumber_10, at_X1_addNumber_21, at_X1_addNumber_50, at_X1_addNumber_54, at_X1_addNumber_55, at_X1_addNumber_69, at_X1_addNumber_79, ca_X1_33, ca_X1_45, cd_X1_addNumber_0, cd_X1_addNumber_10, cd_X1_addNumber_21, cd_X1_addNumber_50, cd_X1_addNumber_54, cd_X1_addNumber_55, cd_X1_addNumber_69, cd_X1_addNumber_79, ko_X1_49, ev_b_10, ev_b_45, ev_b_48, no_0, no_1, no_lt, no_le, no_eq, no_lt0, no_ge0, no_gt0, no_le0, no_eq0, no_0eq, no_eqm, no_meq, no_m0, no_mlt, no_mge, no_mgt, no_mm, no_i01, no_i10, no_in, no_or, no_ifm, no_mul, nI_add, no_sub, pk_div, iI_if, nI_clamp, oI_n, oI_s, not_true_eq_false, not_false_eq_true, forall_const, true_implies, false_and, and_false, or_false, false_or, Classical.not_not, true_or, or_true, no_b, no_eq1, eq_self, and_self, no_on, o1, ed, e1, f1, f2, c1, c2, List.append_assoc])
              | (with_reducible refine And.intro (fun q => ?_) (fun q => ?_) <;> (try simp (disch := first | omega | assumption) only [no_0, no_1, no_lt, no_le, no_eq, no_lt0, no_ge0, no_gt0, no_le0, no_eq0, no_0eq, no_eqm, no_meq, no_m0, no_mlt, no_mge, no_mgt, no_mm, no_i01, no_i10, no_in, no_or, no_ifm, no_mul, nI_add, no_sub, pk_div, iI_if, nI_clamp, oI_n, oI_s, not_true_eq_false, not_false_eq_true, forall_const, true_implies, false_and, and_false, or_false, false_or, Classical.not_not, true_or, or_true, no_b, no_eq1, eq_self, and_self, no_on, o1, ed, e1, f1, f2, c1, c2, List.append_assoc] at q))
              | with_reducible refine ev_ci (m_X1_add hok ha ?_) ?_
              | omega
              | with_reducible assumption
              | with_reducible rfl
              | (refine Nat.lt_of_lt_of_le ?_ (Nat.le_refl 312); omega)
              | with_reducible refine lp_nx ?_ ?_ ?_ ?_
              | with_reducible refine lp_st ?_ ?_ ?_
              | with_reducible refine ls_c ?_ ?_
              | with_reducible refine vi_c ?_
              | with_reducible refine re_c ?_
              | with_reducible refine vz_c ?_
              | with_reducible refine rz_c ?_
              | exact trivial
              | with_reducible refine And.intro ?_ ?_
              | simp (disch := first | omega | assumption) only [ev_run_c, ev_run_n, ev_fj, ev_stp, ev_lk, ev_fv, ev_as, ev_sz, ev_st1, ev_st2, ev_rm, ev_pk, ev_Jof, ev_go, lv_args, List.map_cons, List.map_nil, List.zip_cons_cons, List.zip_nil_left, List.zip_nil_right, List.nil_append, List.cons_append, ↓reduceIte, reduceCtorEq, Int.reduceToNat, Nat.reduceEqDiff, Nat.reduceAdd, Nat.reduceLT, Nat.reduceLeDiff, Nat.reduceMul, Nat.reduceSub, Value.category, false_implies, true_and, and_true, Bool.false_eq_true, Option.some.injEq, exists_eq_left', Option.toList_some, Option.toList_none, ev_km, ev_k2, ev_k3, ev_k4, ev_k5, ev_l0, ev_l1, sh_1, sh_2, sh_3, sh_4, sh_5, at_X1_addNumber_10, at_X1_addNumber_21, at_X1_addNumber_50, at_X1_addNumber_54, at_X1_addNumber_55, at_X1_addNumber_69, at_X1_addNumber_79, ca_X1_33, ca_X1_45, cd_X1_addNumber_0, cd_X1_addNumber_10, cd_X1_addNumber_21, cd_X1_addNumber_50, cd_X1_addNumber_54, cd_X1_addNumber_55, cd_X1_addNumber_69, cd_X1_addNumber_79, ko_X1_49, ev_b_10, ev_b_45, ev_b_48, no_0, no_1, no_lt, no_le, no_eq, no_lt0, no_ge0, no_gt0, no_le0, no_eq0, no_0eq, no_eqm, no_meq, no_m0, no_mlt, no_mge, no_mgt, no_mm, no_i01, no_i10, no_in, no_or, no_ifm, no_mul, nI_add, no_sub, pk_div, iI_if, nI_clamp, oI_n, oI_s, not_true_eq_false, not_false_eq_true, forall_const, true_implies, false_and, and_false, or_false, false_or, Classical.not_not, true_or, or_true, no_b, no_eq1, eq_self, and_self, no_on, o1, ed, e1, f1, f2, c1, c2, List.append_assoc]
              | exact rfl
              | (split <;> omega))
          · repeat' (first
              | (with_reducible refine ev_rid ?_; simp (disch := first | omega | assumption) only [ev_run_c, ev_run_n, ev_fj, ev_stp, ev_lk, ev_fv, ev_as, ev_sz, ev_st1, ev_st2, ev_rm, ev_pk, ev_Jof, ev_go, lv_args, List.map_cons, List.map_nil, List.zip_cons_cons, List.zip_nil_left, List.zip_nil_right, List.nil_append, List.cons_append, ↓reduceIte, reduceCtorEq, Int.reduceToNat, Nat.reduceEqDiff, Nat.reduceAdd, Nat.reduceLT, Nat.reduceLeDiff, Nat.reduceMul, Nat.reduceSub, Value.category, false_implies, true_and, and_true, Bool.false_eq_true, Option.some.injEq, exists_eq_left', Option.toList_some, Option.toList_none, ev_km, ev_k2, ev_k3, ev_k4, ev_k5, ev_l0, ev_l1, sh_1, sh_2, sh_3, sh_4, sh_5, at_X1_addNumber_10, at_X1_addNumber_21, at_X1_addNumber_50, at_X1_addNumber_54, at_X1_addNumber_55, at_X1_addNumber_69, at_X1_addNumber_79, ca_X1_33, ca_X1_45, cd_X1_addNumber_0, cd_X1_addNumber_10, cd_X1_addNumber_21, cd_X1_addNumber_50, cd_X1_addNumber_54, cd_X1_addNumber_55, cd_X1_addNumber_69, cd_X1_addNumber_79, ko_X1_49, ev_b_10, ev_b_45, ev_b_48, no_0, no_1, no_lt, no_le, no_eq, no_lt0, no_ge0, no_gt0, no_le0, no_eq0, no_0eq, no_eqm, no_meq, no_m0, no_mlt, no_mge, no_mgt, no_mm, no_i01, no_i10, no_in, no_or, no_ifm, no_mul, nI_add, no_sub, pk_div, iI_if, nI_clamp, oI_n, oI_s, not_true_eq_false, not_false_eq_true, forall_const, true_implies, false_and, and_false, or_false, false_or, Classical.not_not, true_or, or_true, no_b, no_eq1, eq_self, and_self, no_on, o1, ed, e1, f1, f2, c1, c2, List.append_assoc])
              | (with_reducible refine ev_gid ?_; simp (disch := first | omega | assumption) only [ev_run_c, ev_run_n, ev_fj, ev_stp, ev_lk, ev_fv, ev_as, ev_sz, ev_st1, ev_st2, ev_rm, ev_pk, ev_Jof, ev_go, lv_args, List.map_cons, List.map_nil, List.zip_cons_cons, List.zip_nil_left, List.zip_nil_right, List.nil_append, List.cons_append, ↓reduceIte, reduceCtorEq, Int.reduceToNat, Nat.reduceEqDiff, Nat.reduceAdd, Nat.reduceLT, Nat.reduceLeDiff, Nat.reduceMul, Nat.reduceSub, Value.category, false_implies, true_and, and_true, Bool.false_eq_true, Option.some.injEq, exists_eq_left', Option.toList_some, Option.toList_none, ev_km, ev_k2, ev_k3, ev_k4, ev_k5, ev_l0, ev_l1, sh_1, sh_2, sh_3, sh_4, sh_5, at_X1_addNumber_10, at_X1_addNumber_21, at_X1_addNumber_50, at_X1_addNumber_54, at_X1_addNumber_55, at_X1_addNumber_69, at_X1_addNumber_79, ca_X1_33, ca_X1_45, cd_X1_addNumber_0, cd_X1_addNumber_10, cd_X1_addNumber_21, cd_X1_addNumber_50, cd_X1_addNumber_54, cd_X1_addNumber_55, cd_X1_addNumber_69, cd_X1_addNumber_79, ko_X1_49, ev_b_10, ev_b_45, ev_b_48, no_0, no_1, no_lt, no_le, no_eq, no_lt0, no_ge0, no_gt0, no_le0, no_eq0, no_0eq, no_eqm, no_meq, no_m0, no_mlt, no_mge, no_mgt, no_mm, no_i01, no_i10, no_in, no_or, no_ifm, no_mul, nI_add, no_sub, pk_div, iI_if, nI_clamp, oI_n, oI_s, not_true_eq_false, not_false_eq_true, forall_const, true_implies, false_and, and_false, or_false, false_or, Classical.not_not, true_or, or_true, no_b, no_eq1, eq_self, and_self, no_on, o1, ed, e1, f1, f2, c1, c2, List.append_assoc])
              | (with_reducible refine And.intro (fun q => ?_) (fun q => ?_) <;> (try simp (disch := first | omega | assumption) only [no_0, no_1, no_lt, no_le, no_eq, no_lt0, no_ge0, no_gt0, no_le0, no_eq0, no_0eq, no_eqm, no_meq, no_m0, no_mlt, no_mge, no_mgt, no_mm, no_i01, no_i10, no_in, no_or, no_ifm, no_mul, nI_add, no_sub, pk_div, iI_if, nI_clamp, oI_n, oI_s, not_true_eq_false, not_false_eq_true, forall_const, true_implies, false_and, and_false, or_false, false_or, Classical.not_not, true_or, or_true, no_b, no_eq1, eq_self, and_self, no_on, o1, ed, e1, f1, f2, c1, c2, List.append_assoc] at q))
              | with_reducible refine ev_ci (m_X1_add hok ha ?_) ?_
              | omega
              | with_reducible assumption
              | with_reducible rfl
              | (refine Nat.lt_of_lt_of_le ?_ (Nat.le_refl 312); omega)
              | with_reducible refine lp_nx ?_ ?_ ?_ ?_
              | with_reducible refine lp_st ?_ ?_ ?_
              | with_reducible refine ls_c ?_ ?_
              | with_reducible refine vi_c ?_
              | with_reducible refine re_c ?_
              | with_reducible refine vz_c ?_
              | with_reducible refine rz_c ?_
              | exact trivial
              | with_reducible refine And.intro ?_ ?_
              | simp (disch := first | omega | assumption) only [ev_run_c, ev_run_n, ev_fj, ev_stp, ev_lk, ev_fv, ev_as, ev_sz, ev_st1, ev_st2, ev_rm, ev_pk, ev_Jof, ev_go, lv_args, List.map_cons, List.map_nil, List.zip_cons_cons, List.zip_nil_left, List.zip_nil_right, List.nil_append, List.cons_append, ↓reduceIte, reduceCtorEq, Int.reduceToNat, Nat.reduceEqDiff, Nat.reduceAdd, Nat.reduceLT, Nat.reduceLeDiff, Nat.reduceMul, Nat.reduceSub, Value.category, false_implies, true_and, and_true, Bool.false_eq_true, Option.some.injEq, exists_eq_left', Option.toList_some, Option.toList_none, ev_km, ev_k2, ev_k3, ev_k4, ev_k5, ev_l0, ev_l1, sh_1, sh_2, sh_3, sh_4, sh_5, at_X1_addNumber_10, at_X1_addNumber_21, at_X1_addNumber_50, at_X1_addNumber_54, at_X1_addNumber_55, at_X1_addNumber_69, at_X1_addNumber_79, ca_X1_33, ca_X1_45, cd_X1_addNumber_0, cd_X1_addNumber_10, cd_X1_addNumber_21, cd_X1_addNumber_50, cd_X1_addNumber_54, cd_X1_addNumber_55, cd_X1_addNumber_69, cd_X1_addNumber_79, ko_X1_49, ev_b_10, ev_b_45, ev_b_48, no_0, no_1, no_lt, no_le, no_eq, no_lt0, no_ge0, no_gt0, no_le0, no_eq0, no_0eq, no_eqm, no_meq, no_m0, no_mlt, no_mge, no_mgt, no_mm, no_i01, no_i10, no_in, no_or, no_ifm, no_mul, nI_add, no_sub, pk_div, iI_if, nI_clamp, oI_n, oI_s, not_true_eq_false, not_false_eq_true, forall_const, true_implies, false_and, and_false, or_false, false_or, Classical.not_not, true_or, or_true, no_b, no_eq1, eq_self, and_self, no_on, o1, ed, e1, f1, f2, c1, c2, List.append_assoc]
              | exact rfl
              | (split <;> omega))
        · repeat' (first
            | (with_reducible refine ev_rid ?_; simp (disch := first | omega | assumption) only [ev_run_c, ev_run_n, ev_fj, ev_stp, ev_lk, ev_fv, ev_as, ev_sz, ev_st1, ev_st2, ev_rm, ev_pk, ev_Jof, ev_go, lv_args, List.map_cons, List.map_nil, List.zip_cons_cons, List.zip_nil_left, List.zip_nil_right, List.nil_append, List.cons_append, ↓reduceIte, reduceCtorEq, Int.reduceToNat, Nat.reduceEqDiff, Nat.reduceAdd, Nat.reduceLT, Nat.reduceLeDiff, Nat.reduceMul, Nat.reduceSub, Value.category, false_implies, true_and, and_true, Bool.false_eq_true, Option.some.injEq, exists_eq_left', Option.toList_some, Option.toList_none, ev_km, ev_k2, ev_k3, ev_k4, ev_k5, ev_l0, ev_l1, sh_1, sh_2, sh_3, sh_4, sh_5, at_X1_addNumber_10, at_X1_addNumber_21, at_X1_addNumber_50, at_X1_addNumber_54, at_X1_addNumber_55, at_X1_addNumber_69, at_X1_addNumber_79, ca_X1_33, ca_X1_45, cd_X1_addNumber_0, cd_X1_addNumber_10, cd_X1_addNumber_21, cd_X1_addNumber_50, cd_X1_addNumber_54, cd_X1_addNumber_55, cd_X1_addNumber_69, cd_X1_addNumber_79, ko_X1_49, ev_b_10, ev_b_45, ev_b_48, no_0, no_1, no_lt, no_le, no_eq, no_lt0, no_ge0, no_gt0, no_le0, no_eq0, no_0eq, no_eqm, no_meq, no_m0, no_mlt, no_mge, no_mgt, no_mm, no_i01, no_i10, no_in, no_or, no_ifm, no_mul, nI_add, no_sub, pk_div, iI_if, nI_clamp, oI_n, oI_s, not_true_eq_false, not_false_eq_true, forall_const, true_implies, false_and, and_false, or_false, false_or, Classical.not_not, true_or, or_true, no_b, no_eq1, eq_self, and_self, no_on, o1, ed, e1, f1, f2, c1, List.append_assoc])
            | (with_reducible refine ev_gid ?_; simp (disch := first | omega | assumption) only [ev_run_c, ev_run_n, ev_fj, ev_stp, ev_lk, ev_fv, ev_as, ev_sz, ev_st1, ev_st2, ev_rm, ev_pk, ev_Jof, ev_go, lv_args, List.map_cons, List.map_nil, List.zip_cons_cons, List.zip_nil_left, List.zip_nil_right, List.nil_append, List.cons_append, ↓reduceIte, reduceCtorEq, Int.reduceToNat, Nat.reduceEqDiff, Nat.reduceAdd, Nat.reduceLT, Nat.reduceLeDiff, Nat.reduceMul, Nat.reduceSub, Value.category, false_implies, true_and, and_true, Bool.false_eq_true, Option.some.injEq, exists_eq_left', Option.toList_some, Option.toList_none, ev_km, ev_k2, ev_k3, ev_k4, ev_k5, ev_l0, ev_l1, sh_1, sh_2, sh_3, sh_4, sh_5, at_X1_addNumber_10, at_X1_addNumber_21, at_X1_addNumber_50, at_X1_addNumber_54, at_X1_addNumber_55, at_X1_addNumber_69, at_X1_addNumber_79, ca_X1_33, ca_X1_45, cd_X1_addNumber_0, cd_X1_addNumber_10, cd_X1_addNumber_21, cd_X1_addNumber_50, cd_X1_addNumber_54, cd_X1_addNumber_55, cd_X1_addNumber_69, cd_X1_addNumber_79, ko_X1_49, ev_b_10, ev_b_45, ev_b_48, no_0, no_1, no_lt, no_le, no_eq, no_lt0, no_ge0, no_gt0, no_le0, no_eq0, no_0eq, no_eqm, no_meq, no_m0, no_mlt, no_mge, no_mgt, no_mm, no_i01, no_i10, no_in, no_or, no_ifm, no_mul, nI_add, no_sub, pk_div, iI_if, nI_clamp, oI_n, oI_s, not_true_eq_false, not_false_eq_true, forall_const, true_implies, false_and, and_false, or_false, false_or, Classical.not_not, true_or, or_true, no_b, no_eq1, eq_self, and_self, no_on, o1, ed, e1, f1, f2, c1, List.append_assoc])
            | (with_reducible refine And.intro (fun q => ?_) (fun q => ?_) <;> (try simp (disch := first | omega | assumption) only [no_0, no_1, no_lt, no_le, no_eq, no_lt0, no_ge0, no_gt0, no_le0, no_eq0, no_0eq, no_eqm, no_meq, no_m0, no_mlt, no_mge, no_mgt, no_mm, no_i01, no_i10, no_in, no_or, no_ifm, no_mul, nI_add, no_sub, pk_div, iI_if, nI_clamp, oI_n, oI_s, not_true_eq_false, not_false_eq_true, forall_const, true_implies, false_and, and_false, or_false, false_or, Classical.not_not, true_or, or_true, no_b, no_eq1, eq_self, and_self, no_on, o1, ed, e1, f1, f2, c1, List.append_assoc] at q))
            | with_reducible refine ev_ci (m_X1_add hok ha ?_) ?_
            | omega
            | with_reducible assumption
            | with_reducible rfl
            | (refine Nat.lt_of_lt_of_le ?_ (Nat.le_refl 312); omega)
            | with_reducible refine lp_nx ?_ ?_ ?_ ?_
            | with_reducible refine lp_st ?_ ?_ ?_
            | with_reducible refine ls_c ?_ ?_
            | with_reducible refine vi_c ?_
            | with_reducible refine re_c ?_
            | with_reducible refine vz_c ?_
            | with_reducible refine rz_c ?_
            | exact trivial
            | with_reducible refine And.intro ?_ ?_
            | simp (disch := first | omega | assumption) only [ev_run_c, ev_run_n, ev_fj, ev_stp, ev_lk, ev_fv, ev_as, ev_sz, ev_st1, ev_st2, ev_rm, ev_pk, ev_Jof, ev_go, lv_args, List.map_cons, List.map_nil, List.zip_cons_cons, List.zip_nil_left, List.zip_nil_right, List.nil_append, List.cons_append, ↓reduceIte, reduceCtorEq, Int.reduceToNat, Nat.reduceEqDiff, Nat.reduceAdd, Nat.reduceLT, Nat.reduceLeDiff, Nat.reduceMul, Nat.reduceSub, Value.category, false_implies, true_and, and_true, Bool.false_eq_true, Option.some.injEq, exists_eq_left', Option.toList_some, Option.toList_none, ev_km, ev_k2, ev_k3, ev_k4, ev_k5, ev_l0, ev_l1, sh_1, sh_2, sh_3, sh_4, sh_5, at_X1_addNumber_10, at_X1_addNumber_21, at_X1_addNumber_50, at_X1_addNumber_54, at_X1_addNumber_55, at_X1_addNumber_69, at_X1_addNumber_79, ca_X1_33, ca_X1_45, cd_X1_addNumber_0, cd_X1_addNumber_10, cd_X1_addNumber_21, cd_X1_addNumber_50, cd_X1_addNumber_54, cd_X1_addNumber_55, cd_X1_addNumber_69, cd_X1_addNumber_79, ko_X1_49, ev_b_10, ev_b_45, ev_b_48, no_0, no_1, no_lt, no_le, no_eq, no_lt0, no_ge0, no_gt0, no_le0, no_eq0, no_0eq, no_eqm, no_meq, no_m0, no_mlt, no_mge, no_mgt, no_mm, no_i01, no_i10, no_in, no_or, no_ifm, no_mul, nI_add, no_sub, pk_div, iI_if, nI_clamp, oI_n, oI_s, not_true_eq_false, not_false_eq_true, forall_const, true_implies, false_and, and_false, or_false, false_or, Classical.not_not, true_or, or_true, no_b, no_eq1, eq_self, and_self, no_on, o1, ed, e1, f1, f2, c1, List.append_assoc]
            | exact rfl
            | (split <;> omega))
    · have hkn : k = 10 := by omega
      subst hkn
      have e : l ++ dgZ z = l ++ (if z < 0 then [45] else []) ++ dL z.natAbs 10 := by unfold dgZ; rw [List.append_assoc]
      rw [e]
      repeat' (first
        | (with_reducible refine ev_rid ?_; simp (disch := first | omega | assumption) only [ev_run_c, ev_run_n, ev_fj, ev_stp, ev_lk, ev_fv, ev_as, ev_sz, ev_st1, ev_st2, ev_rm, ev_pk, ev_Jof, ev_go, lv_args, List.map_cons, List.map_nil, List.zip_cons_cons, List.zip_nil_left, List.zip_nil_right, List.nil_append, List.cons_append, ↓reduceIte, reduceCtorEq, Int.reduceToNat, Nat.reduceEqDiff, Nat.reduceAdd, Nat.reduceLT, Nat.reduceLeDiff, Nat.reduceMul, Nat.reduceSub, Value.category, false_implies, true_and, and_true, Bool.false_eq_true, Option.some.injEq, exists_eq_left', Option.toList_some, Option.toList_none, ev_km, ev_k2, ev_k3, ev_k4, ev_k5, ev_l0, ev_l1, sh_1, sh_2, sh_3, sh_4, sh_5, at_X1_addNumber_10, at_X1_addNumber_21, at_X1_addNumber_50, at_X1_addNumber_54, at_X1_addNumber_55, at_X1_addNumber_69, at_X1_addNumber_79, ca_X1_33, ca_X1_45, cd_X1_addNumber_0, cd_X1_addNumber_10, cd_X1_addNumber_21, cd_X1_addNumber_50, cd_X1_addNumber_54, cd_X1_addNumber_55, cd_X1_addNumber_69, cd_X1_addNumber_79, ko_X1_49, ev_b_10, ev_b_45, ev_b_48, no_0, no_1, no_lt, no_le, no_eq, no_lt0, no_ge0, no_gt0, no_le0, no_eq0, no_0eq, no_eqm, no_meq, no_m0, no_mlt, no_mge, no_mgt, no_mm, no_i01, no_i10, no_in, no_or, no_ifm, no_mul, nI_add, no_sub, pk_div, iI_if, nI_clamp, oI_n, oI_s, not_true_eq_false, not_false_eq_true, forall_const, true_implies, false_and, and_false, or_false, false_or, Classical.not_not, true_or, or_true, no_b, no_eq1, eq_self, and_self, no_on, o1, dvs_10])
        | (with_reducible refine ev_gid ?_; simp (disch := first | omega | assumption) only [ev_run_c, ev_run_n, ev_fj, ev_stp, ev_lk, ev_fv, ev_as, ev_sz, ev_st1, ev_st2, ev_rm, ev_pk, ev_Jof, ev_go, lv_args, List.map_cons, List.map_nil, List.zip_cons_cons, List.zip_nil_left, List.zip_nil_right, List.nil_append, List.cons_append, ↓reduceIte, reduceCtorEq, Int.reduceToNat, Nat.reduceEqDiff, Nat.reduceAdd, Nat.reduceLT, Nat.reduceLeDiff, Nat.reduceMul, Nat.reduceSub, Value.category, false_implies, true_and, and_true, Bool.false_eq_true, Option.some.injEq, exists_eq_left', Option.toList_some, Option.toList_none, ev_km, ev_k2, ev_k3, ev_k4, ev_k5, ev_l0, ev_l1, sh_1, sh_2, sh_3, sh_4, sh_5, at_X1_addNumber_10, at_X1_addNumber_21, at_X1_addNumber_50, at_X1_addNumber_54, at_X1_addNumber_55, at_X1_addNumber_69, at_X1_addNumber_79, ca_X1_33, ca_X1_45, cd_X1_addNumber_0, cd_X1_addNumber_10, cd_X1_addNumber_21, cd_X1_addNumber_50, cd_X1_addNumber_54, cd_X1_addNumber_55, cd_X1_addNumber_69, cd_X1_addNumber_79, ko_X1_49, ev_b_10, ev_b_45, ev_b_48, no_0, no_1, no_lt, no_le, no_eq, no_lt0, no_ge0, no_gt0, no_le0, no_eq0, no_0eq, no_eqm, no_meq, no_m0, no_mlt, no_mge, no_mgt, no_mm, no_i01, no_i10, no_in, no_or, no_ifm, no_mul, nI_add, no_sub, pk_div, iI_if, nI_clamp, oI_n, oI_s, not_true_eq_false, not_false_eq_true, forall_const, true_implies, false_and, and_false, or_false, false_or, Classical.not_not, true_or, or_true, no_b, no_eq1, eq_self, and_self, no_on, o1, dvs_10])
        | (with_reducible refine And.intro (fun q => ?_) (fun q => ?_) <;> (try simp (disch := first | omega | assumption) only [no_0, no_1, no_lt, no_le, no_eq, no_lt0, no_ge0, no_gt0, no_le0, no_eq0, no_0eq, no_eqm, no_meq, no_m0, no_mlt, no_mge, no_mgt, no_mm, no_i01, no_i10, no_in, no_or, no_ifm, no_mul, nI_add, no_sub, pk_div, iI_if, nI_clamp, oI_n, oI_s, not_true_eq_false, not_false_eq_true, forall_const, true_implies, false_and, and_false, or_false, false_or, Classical.not_not, true_or, or_true, no_b, no_eq1, eq_self, and_self, no_on, o1, dvs_10] at q))
        | with_reducible refine ev_ci (m_X1_add hok ha ?_) ?_
        | omega
        | with_reducible assumption
        | with_reducible rfl
        | (refine Nat.lt_of_lt_of_le ?_ (Nat.le_refl 312); omega)
        | with_reducible refine lp_nx ?_ ?_ ?_ ?_
        | with_reducible refine lp_st ?_ ?_ ?_
        | with_reducible refine ls_c ?_ ?_
        | with_reducible refine vi_c ?_
        | with_reducible refine re_c ?_
        | with_reducible refine vz_c ?_
        | with_reducible refine rz_c ?_
        | exact trivial
        | with_reducible refine And.intro ?_ ?_
        | simp (disch := first | omega | assumption) only [ev_run_c, ev_run_n, ev_fj, ev_stp, ev_lk, ev_fv, ev_as, ev_sz, ev_st1, ev_st2, ev_rm, ev_pk, ev_Jof, ev_go, lv_args, List.map_cons, List.map_nil, List.zip_cons_cons, List.zip_nil_left, List.zip_nil_right, List.nil_append, List.cons_append, ↓reduceIte, reduceCtorEq, Int.reduceToNat, Nat.reduceEqDiff, Nat.reduceAdd, Nat.reduceLT, Nat.reduceLeDiff, Nat.reduceMul, Nat.reduceSub, Value.category, false_implies, true_and, and_true, Bool.false_eq_true, Option.some.injEq, exists_eq_left', Option.toList_some, Option.toList_none, ev_km, ev_k2, ev_k3, ev_k4, ev_k5, ev_l0, ev_l1, sh_1, sh_2, sh_3, sh_4, sh_5, at_X1_addNumber_10, at_X1_addNumber_21, at_X1_addNumber_50, at_X1_addNumber_54, at_X1_addNumber_55, at_X1_addNumber_69, at_X1_addNumber_79, ca_X1_33, ca_X1_45, cd_X1_addNumber_0, cd_X1_addNumber_10, cd_X1_addNumber_21, cd_X1_addNumber_50, cd_X1_addNumber_54, cd_X1_addNumber_55, cd_X1_addNumber_69, cd_X1_addNumber_79, ko_X1_49, ev_b_10, ev_b_45, ev_b_48, no_0, no_1, no_lt, no_le, no_eq, no_lt0, no_ge0, no_gt0, no_le0, no_eq0, no_0eq, no_eqm, no_meq, no_m0, no_mlt, no_mge, no_mgt, no_mm, no_i01, no_i10, no_in, no_or, no_ifm, no_mul, nI_add, no_sub, pk_div, iI_if, nI_clamp, oI_n, oI_s, not_true_eq_false, not_false_eq_true, forall_const, true_implies, false_and, and_false, or_false, false_or, Classical.not_not, true_or, or_true, no_b, no_eq1, eq_self, and_self, no_on, o1, dvs_10]
        | exact rfl
        | (split <;> omega))
  · rw [at_X1_addNumber_0]
    by_cases c : z < 0
    · have e : iI (-z) = nI z.natAbs := by rw [← iI_n]; exact congrArg iI (by omega)
      have ea : l ++ [45] ++ dL z.natAbs 0 = l ++ [45] := List.append_nil _
      rw [if_pos c]
      repeat' (first
        | (with_reducible refine ev_rid ?_; simp (disch := first | omega | assumption) only [ev_run_c, ev_run_n, ev_fj, ev_stp, ev_lk, ev_fv, ev_as, ev_sz, ev_st1, ev_st2, ev_rm, ev_pk, ev_Jof, ev_go, lv_args, List.map_cons, List.map_nil, List.zip_cons_cons, List.zip_nil_left, List.zip_nil_right, List.nil_append, List.cons_append, ↓reduceIte, reduceCtorEq, Int.reduceToNat, Nat.reduceEqDiff, Nat.reduceAdd, Nat.reduceLT, Nat.reduceLeDiff, Nat.reduceMul, Nat.reduceSub, Value.category, false_implies, true_and, and_true, Bool.false_eq_true, Option.some.injEq, exists_eq_left', Option.toList_some, Option.toList_none, ev_km, ev_k2, ev_k3, ev_k4, ev_k5, ev_l0, ev_l1, sh_1, sh_2, sh_3, sh_4, sh_5, at_X1_addNumber_10, at_X1_addNumber_21, at_X1_addNumber_50, at_X1_addNumber_54, at_X1_addNumber_55, at_X1_addNumber_69, at_X1_addNumber_79, ca_X1_33, ca_X1_45, cd_X1_addNumber_0, cd_X1_addNumber_10, cd_X1_addNumber_21, cd_X1_addNumber_50, cd_X1_addNumber_54, cd_X1_addNumber_55, cd_X1_addNumber_69, cd_X1_addNumber_79, ko_X1_49, ev_b_10, ev_b_45, ev_b_48, no_0, no_1, no_lt, no_le, no_eq, no_lt0, no_ge0, no_gt0, no_le0, no_eq0, no_0eq, no_eqm, no_meq, no_m0, no_mlt, no_mge, no_mgt, no_mm, no_i01, no_i10, no_in, no_or, no_ifm, no_mul, nI_add, no_sub, pk_div, iI_if, nI_clamp, oI_n, oI_s, not_true_eq_false, not_false_eq_true, forall_const, true_implies, false_and, and_false, or_false, false_or, Classical.not_not, true_or, or_true, no_b, no_eq1, eq_self, and_self, no_on, o1, iI_ge0, iI_0s, e, ea])
        | (with_reducible refine ev_gid ?_; simp (disch := first | omega | assumption) only [ev_run_c, ev_run_n, ev_fj, ev_stp, ev_lk, ev_fv, ev_as, ev_sz, ev_st1, ev_st2, ev_rm, ev_pk, ev_Jof, ev_go, lv_args, List.map_cons, List.map_nil, List.zip_cons_cons, List.zip_nil_left, List.zip_nil_right, List.nil_append, List.cons_append, ↓reduceIte, reduceCtorEq, Int.reduceToNat, Nat.reduceEqDiff, Nat.reduceAdd, Nat.reduceLT, Nat.reduceLeDiff, Nat.reduceMul, Nat.reduceSub, Value.category, false_implies, true_and, and_true, Bool.false_eq_true, Option.some.injEq, exists_eq_left', Option.toList_some, Option.toList_none, ev_km, ev_k2, ev_k3, ev_k4, ev_k5, ev_l0, ev_l1, sh_1, sh_2, sh_3, sh_4, sh_5, at_X1_addNumber_10, at_X1_addNumber_21, at_X1_addNumber_50, at_X1_addNumber_54, at_X1_addNumber_55, at_X1_addNumber_69, at_X1_addNumber_79, ca_X1_33, ca_X1_45, cd_X1_addNumber_0, cd_X1_addNumber_10, cd_X1_addNumber_21, cd_X1_addNumber_50, cd_X1_addNumber_54, cd_X1_addNumber_55, cd_X1_addNumber_69, cd_X1_addNumber_79, ko_X1_49, ev_b_10, ev_b_45, ev_b_48, no_0, no_1, no_lt, no_le, no_eq, no_lt0, no_ge0, no_gt0, no_le0, no_eq0, no_0eq, no_eqm, no_meq, no_m0, no_mlt, no_mge, no_mgt, no_mm, no_i01, no_i10, no_in, no_or, no_ifm, no_mul, nI_add, no_sub, pk_div, iI_if, nI_clamp, oI_n, oI_s, not_true_eq_false, not_false_eq_true, forall_const, true_implies, false_and, and_false, or_false, false_or, Classical.not_not, true_or, or_true, no_b, no_eq1, eq_self, and_self, no_on, o1, iI_ge0, iI_0s, e, ea])
        | (with_reducible refine And.intro (fun q => ?_) (fun q => ?_) <;> (try simp (disch := first | omega | assumption) only [no_0, no_1, no_lt, no_le, no_eq, no_lt0, no_ge0, no_gt0, no_le0, no_eq0, no_0eq, no_eqm, no_meq, no_m0, no_mlt, no_mge, no_mgt, no_mm, no_i01, no_i10, no_in, no_or, no_ifm, no_mul, nI_add, no_sub, pk_div, iI_if, nI_clamp, oI_n, oI_s, not_true_eq_false, not_false_eq_true, forall_const, true_implies, false_and, and_false, or_false, false_or, Classical.not_not, true_or, or_true, no_b, no_eq1, eq_self, and_self, no_on, o1, iI_ge0, iI_0s, e, ea] at q))
        | with_reducible refine ev_ci (m_X1_add hok ha ?_) ?_
        | omega
        | with_reducible assumption
        | with_reducible rfl
        | (refine Nat.lt_of_lt_of_le ?_ (Nat.le_refl 312); omega)
        | (rw [if_neg (show ¬ 0 ≤ z by omega)])
        | with_reducible refine lp_nx ?_ ?_ ?_ ?_
        | with_reducible refine lp_st ?_ ?_ ?_
        | with_reducible refine ls_c ?_ ?_
        | with_reducible refine vi_c ?_
        | with_reducible refine re_c ?_
        | with_reducible refine vz_c ?_
        | with_reducible refine rz_c ?_
        | exact trivial
        | with_reducible refine And.intro ?_ ?_
        | simp (disch := first | omega | assumption) only [ev_run_c, ev_run_n, ev_fj, ev_stp, ev_lk, ev_fv, ev_as, ev_sz, ev_st1, ev_st2, ev_rm, ev_pk, ev_Jof, ev_go, lv_args, List.map_cons, List.map_nil, List.zip_cons_cons, List.zip_nil_left, List.zip_nil_right, List.nil_append, List.cons_append, ↓reduceIte, reduceCtorEq, Int.reduceToNat, Nat.reduceEqDiff, Nat.reduceAdd, Nat.reduceLT, Nat.reduceLeDiff, Nat.reduceMul, Nat.reduceSub, Value.category, false_implies, true_and, and_true, Bool.false_eq_true, Option.some.injEq, exists_eq_left', Option.toList_some, Option.toList_none, ev_km, ev_k2, ev_k3, ev_k4, ev_k5, ev_l0, ev_l1, sh_1, sh_2, sh_3, sh_4, sh_5, at_X1_addNumber_10, at_X1_addNumber_21, at_X1_addNumber_50, at_X1_addNumber_54, at_X1_addNumber_55, at_X1_addNumber_69, at_X1_addNumber_79, ca_X1_33, ca_X1_45, cd_X1_addNumber_0, cd_X1_addNumber_10, cd_X1_addNumber_21, cd_X1_addNumber_50, cd_X1_addNumber_54, cd_X1_addNumber_55, cd_X1_addNumber_69, cd_X1_addNumber_79, ko_X1_49, ev_b_10, ev_b_45, ev_b_48, no_0, no_1, no_lt, no_le, no_eq, no_lt0, no_ge0, no_gt0, no_le0, no_eq0, no_0eq, no_eqm, no_meq, no_m0, no_mlt, no_mge, no_mgt, no_mm, no_i01, no_i10, no_in, no_or, no_ifm, no_mul, nI_add, no_sub, pk_div, iI_if, nI_clamp, oI_n, oI_s, not_true_eq_false, not_false_eq_true, forall_const, true_implies, false_and, and_false, or_false, false_or, Classical.not_not, true_or, or_true, no_b, no_eq1, eq_self, and_self, no_on, o1, iI_ge0, iI_0s, e, ea]
        | exact rfl
        | (split <;> omega))
    · have e : iI z = nI z.natAbs := by rw [← iI_n]; exact congrArg iI (by omega)
      have ea : l ++ [] ++ dL z.natAbs 0 = l := by rw [List.append_nil]; exact List.append_nil _
      rw [if_neg c]
      repeat' (first
        | (with_reducible refine ev_rid ?_; simp (disch := first | omega | assumption) only [ev_run_c, ev_run_n, ev_fj, ev_stp, ev_lk, ev_fv, ev_as, ev_sz, ev_st1, ev_st2, ev_rm, ev_pk, ev_Jof, ev_go, lv_args, List.map_cons, List.map_nil, List.zip_cons_cons, List.zip_nil_left, List.zip_nil_right, List.nil_append, List.cons_append, ↓reduceIte, reduceCtorEq, Int.reduceToNat, Nat.reduceEqDiff, Nat.reduceAdd, Nat.reduceLT, Nat.reduceLeDiff, Nat.reduceMul, Nat.reduceSub, Value.category, false_implies, true_and, and_true, Bool.false_eq_true, Option.some.injEq, exists_eq_left', Option.toList_some, Option.toList_none, ev_km, ev_k2, ev_k3, ev_k4, ev_k5, ev_l0, ev_l1, sh_1, sh_2, sh_3, sh_4, sh_5, at_X1_addNumber_10, at_X1_addNumber_21, at_X1_addNumber_50, at_X1_addNumber_54, at_X1_addNumber_55, at_X1_addNumber_69, at_X1_addNumber_79, ca_X1_33, ca_X1_45, cd_X1_addNumber_0, cd_X1_addNumber_10, cd_X1_addNumber_21, cd_X1_addNumber_50, cd_X1_addNumber_54, cd_X1_addNumber_55, cd_X1_addNumber_69, cd_X1_addNumber_79, ko_X1_49, ev_b_10, ev_b_45, ev_b_48, no_0, no_1, no_lt, no_le, no_eq, no_lt0, no_ge0, no_gt0, no_le0, no_eq0, no_0eq, no_eqm, no_meq, no_m0, no_mlt, no_mge, no_mgt, no_mm, no_i01, no_i10, no_in, no_or, no_ifm, no_mul, nI_add, no_sub, pk_div, iI_if, nI_clamp, oI_n, oI_s, not_true_eq_false, not_false_eq_true, forall_const, true_implies, false_and, and_false, or_false, false_or, Classical.not_not, true_or, or_true, no_b, no_eq1, eq_self, and_self, no_on, o1, iI_ge0, iI_0s, e, ea])
        | (with_reducible refine ev_gid ?_; simp (disch := first | omega | assumption) only [ev_run_c, ev_run_n, ev_fj, ev_stp, ev_lk, ev_fv, ev_as, ev_sz, ev_st1, ev_st2, ev_rm, ev_pk, ev_Jof, ev_go, lv_args, List.map_cons, List.map_nil, List.zip_cons_cons, List.zip_nil_left, List.zip_nil_right, List.nil_append, List.cons_append, ↓reduceIte, reduceCtorEq, Int.reduceToNat, Nat.reduceEqDiff, Nat.reduceAdd, Nat.reduceLT, Nat.reduceLeDiff, Nat.reduceMul, Nat.reduceSub, Value.category, false_implies, true_and, and_true, Bool.false_eq_true, Option.some.injEq, exists_eq_left', Option.toList_some, Option.toList_none, ev_km, ev_k2, ev_k3, ev_k4, ev_k5, ev_l0, ev_l1, sh_1, sh_2, sh_3, sh_4, sh_5, at_X1_addNumber_10, at_X1_addNumber_21, at_X1_addNumber_50, at_X1_addNumber_54, at_X1_addNumber_55, at_X1_addNumber_69, at_X1_addNumber_79, ca_X1_33, ca_X1_45, cd_X1_addNumber_0, cd_X1_addNumber_10, cd_X1_addNumber_21, cd_X1_addNumber_50, cd_X1_addNumber_54, cd_X1_addNumber_55, cd_X1_addNumber_69, cd_X1_addNumber_79, ko_X1_49, ev_b_10, ev_b_45, ev_b_48, no_0, no_1, no_lt, no_le, no_eq, no_lt0, no_ge0, no_gt0, no_le0, no_eq0, no_0eq, no_eqm, no_meq, no_m0, no_mlt, no_mge, no_mgt, no_mm, no_i01, no_i10, no_in, no_or, no_ifm, no_mul, nI_add, no_sub, pk_div, iI_if, nI_clamp, oI_n, oI_s, not_true_eq_false, not_false_eq_true, forall_const, true_implies, false_and, and_false, or_false, false_or, Classical.not_not, true_or, or_true, no_b, no_eq1, eq_self, and_self, no_on, o1, iI_ge0, iI_0s, e, ea])
        | (with_reducible refine And.intro (fun q => ?_) (fun q => ?_) <;> (try simp (disch := first | omega | assumption) only [no_0, no_1, no_lt, no_le, no_eq, no_lt0, no_ge0, no_gt0, no_le0, no_eq0, no_0eq, no_eqm, no_meq, no_m0, no_mlt, no_mge, no_mgt, no_mm, no_i01, no_i10, no_in, no_or, no_ifm, no_mul, nI_add, no_sub, pk_div, iI_if, nI_clamp, oI_n, oI_s, not_true_eq_false, not_false_eq_true, forall_const, true_implies, false_and, and_false, or_false, false_or, Classical.not_not, true_or, or_true, no_b, no_eq1, eq_self, and_self, no_on, o1, iI_ge0, iI_0s, e, ea] at q))
        | with_reducible refine ev_ci (m_X1_add hok ha ?_) ?_
        | omega
        | with_reducible assumption
        | with_reducible rfl
        | (refine Nat.lt_of_lt_of_le ?_ (Nat.le_refl 312); omega)
        | with_reducible refine lp_nx ?_ ?_ ?_ ?_
        | with_reducible refine lp_st ?_ ?_ ?_
        | with_reducible refine ls_c ?_ ?_
        | with_reducible refine vi_c ?_
        | with_reducible refine re_c ?_
        | with_reducible refine vz_c ?_
        | with_reducible refine rz_c ?_
        | exact trivial
        | with_reducible refine And.intro ?_ ?_
        | simp (disch := first | omega | assumption) only [ev_run_c, ev_run_n, ev_fj, ev_stp, ev_lk, ev_fv, ev_as, ev_sz, ev_st1, ev_st2, ev_rm, ev_pk, ev_Jof, ev_go, lv_args, List.map_cons, List.map_nil, List.zip_cons_cons, List.zip_nil_left, List.zip_nil_right, List.nil_append, List.cons_append, ↓reduceIte, reduceCtorEq, Int.reduceToNat, Nat.reduceEqDiff, Nat.reduceAdd, Nat.reduceLT, Nat.reduceLeDiff, Nat.reduceMul, Nat.reduceSub, Value.category, false_implies, true_and, and_true, Bool.false_eq_true, Option.some.injEq, exists_eq_left', Option.toList_some, Option.toList_none, ev_km, ev_k2, ev_k3, ev_k4, ev_k5, ev_l0, ev_l1, sh_1, sh_2, sh_3, sh_4, sh_5, at_X1_addNumber_10, at_X1_addNumber_21, at_X1_addNumber_50, at_X1_addNumber_54, at_X1_addNumber_55, at_X1_addNumber_69, at_X1_addNumber_79, ca_X1_33, ca_X1_45, cd_X1_addNumber_0, cd_X1_addNumber_10, cd_X1_addNumber_21, cd_X1_addNumber_50, cd_X1_addNumber_54, cd_X1_addNumber_55, cd_X1_addNumber_69, cd_X1_addNumber_79, ko_X1_49, ev_b_10, ev_b_45, ev_b_48, no_0, no_1, no_lt, no_le, no_eq, no_lt0, no_ge0, no_gt0, no_le0, no_eq0, no_0eq, no_eqm, no_meq, no_m0, no_mlt, no_mge, no_mgt, no_mm, no_i01, no_i10, no_in, no_or, no_ifm, no_mul, nI_add, no_sub, pk_div, iI_if, nI_clamp, oI_n, oI_s, not_true_eq_false, not_false_eq_true, forall_const, true_implies, false_and, and_false, or_false, false_or, Classical.not_not, true_or, or_true, no_b, no_eq1, eq_self, and_self, no_on, o1, iI_ge0, iI_0s, e, ea]
        | exact rfl
        | (split <;> omega))
end XOut
