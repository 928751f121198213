/-! ===== the reference: its leaves ===== -/
section MLeaf
variable {G : ev_G} {N : Nat → Nat} {μ : ev_M}
/-- the reference's row, as numbers -/
def MR (N : Nat → Nat) (μ : ev_M) : Prop := ∀ k, k < 1042 → μ.1 302 k = nI (N k)
theorem sk_301 : sh_kd 301 = 9 := by decide +kernel
theorem sk_302 : sh_kd 302 = 10 := by decide +kernel
theorem sl_302 : sh_ln 302 = 1042 := by decide +kernel
theorem sp_301 : sh_pt 301 1 = 302 := by decide +kernel
theorem m_X11_in (hok : ev_ok sh_S G) (a b c : Nat) (ha : a < 2 ^ 31) (hb : b < 2 ^ 31) (hc : c < 2 ^ 31) : ev_T sh_S G mi_X11_in [.int (nI a), .int (nI b), .int (nI c)] μ (.inl (some (.int (nI (if b ≤ a ∧ a ≤ c then 1 else 0))), μ)) := by
  refine ev_tri hok (okM_X11_in 0) (Nat.le_of_ble_eq_true rfl) 400 ?_
  rw [at_X11_in_0]
  repeat' (first
    | omega
    | assumption
    | exact rfl
    | exact if_pos (by omega)
    | (rw [if_pos (by omega)])
    | (rw [if_neg (by omega)])
    | (refine And.intro (fun q => ?_) (fun q => ?_) <;> (try simp (disch := first | omega | assumption) only [no_0, no_1, no_lt, no_le, no_eq, no_lt0, no_ge0, no_gt0, no_le0, no_eq0, no_0eq, no_eqm, no_meq, no_m0, no_mlt, no_mge, no_mgt, no_mm, no_in, no_mul, nI_add, nI_clamp, oI_n, oI_s, not_true_eq_false, not_false_eq_true, forall_const, true_implies, false_and, and_false, or_false, false_or, Classical.not_not, true_or, or_true, no_b, no_eq1, eq_self, and_self] at q))
    | refine And.intro ?_ ?_
    | simp (disch := first | omega | assumption) only [ev_run_c, ev_run_n, ev_fj, ev_stp, ev_lk, ev_fv, ev_as, ev_sz, ev_st1, ev_st2, ev_rm, ev_pk, ev_Jof, ev_go, lv_args, List.map_cons, List.map_nil, List.zip_cons_cons, List.zip_nil_left, List.zip_nil_right, List.nil_append, List.cons_append, ↓reduceIte, reduceCtorEq, Int.reduceToNat, Nat.reduceEqDiff, Nat.reduceAdd, Nat.reduceLT, Nat.reduceLeDiff, Nat.reduceMul, Value.category, false_implies, true_and, and_true, Bool.false_eq_true, Option.some.injEq, exists_eq_left', Option.toList_some, Option.toList_none, ev_km, ev_k2, ev_k3, ev_k4, ev_k5, ev_l0, ev_l1, sh_1, sh_2, sh_3, sh_4, sh_5, at_X11_in_14, at_X11_in_15, cd_X11_in_0, cd_X11_in_14, cd_X11_in_15, no_0, no_1, no_lt, no_le, no_eq, no_lt0, no_ge0, no_gt0, no_le0, no_eq0, no_0eq, no_eqm, no_meq, no_m0, no_mlt, no_mge, no_mgt, no_mm, no_in, no_mul, nI_add, nI_clamp, oI_n, oI_s, not_true_eq_false, not_false_eq_true, forall_const, true_implies, false_and, and_false, or_false, false_or, Classical.not_not, true_or, or_true, no_b, no_eq1, eq_self, and_self])
theorem m_X11_one (hok : ev_ok sh_S G) (b : Nat) (hb : b < 2 ^ 31) : ev_T sh_S G mi_X11_one [.int (nI b)] μ (.inl (some (.int (nI (if b = 0 then 0 else 1))), μ)) := by
  refine ev_tri hok (okM_X11_one 0) (Nat.le_of_ble_eq_true rfl) 400 ?_
  rw [at_X11_one_0]
  repeat' (first
    | omega
    | assumption
    | exact rfl
    | (rw [if_pos (by omega)])
    | (rw [if_neg (by omega)])
    | (refine And.intro (fun q => ?_) (fun q => ?_) <;> (try simp (disch := first | omega | assumption) only [no_0, no_1, no_lt, no_le, no_eq, no_lt0, no_ge0, no_gt0, no_le0, no_eq0, no_0eq, no_eqm, no_meq, no_m0, no_mlt, no_mge, no_mgt, no_mm, no_in, no_mul, nI_add, nI_clamp, oI_n, oI_s, not_true_eq_false, not_false_eq_true, forall_const, true_implies, false_and, and_false, or_false, false_or, Classical.not_not, true_or, or_true, no_b, no_eq1, eq_self, and_self] at q))
    | refine And.intro ?_ ?_
    | simp (disch := first | omega | assumption) only [ev_run_c, ev_run_n, ev_fj, ev_stp, ev_lk, ev_fv, ev_as, ev_sz, ev_st1, ev_st2, ev_rm, ev_pk, ev_Jof, ev_go, lv_args, List.map_cons, List.map_nil, List.zip_cons_cons, List.zip_nil_left, List.zip_nil_right, List.nil_append, List.cons_append, ↓reduceIte, reduceCtorEq, Int.reduceToNat, Nat.reduceEqDiff, Nat.reduceAdd, Nat.reduceLT, Nat.reduceLeDiff, Nat.reduceMul, Value.category, false_implies, true_and, and_true, Bool.false_eq_true, Option.some.injEq, exists_eq_left', Option.toList_some, Option.toList_none, ev_km, ev_k2, ev_k3, ev_k4, ev_k5, ev_l0, ev_l1, sh_1, sh_2, sh_3, sh_4, sh_5, at_X11_one_8, at_X11_one_9, cd_X11_one_0, cd_X11_one_8, cd_X11_one_9, no_0, no_1, no_lt, no_le, no_eq, no_lt0, no_ge0, no_gt0, no_le0, no_eq0, no_0eq, no_eqm, no_meq, no_m0, no_mlt, no_mge, no_mgt, no_mm, no_in, no_mul, nI_add, nI_clamp, oI_n, oI_s, not_true_eq_false, not_false_eq_true, forall_const, true_implies, false_and, and_false, or_false, false_or, Classical.not_not, true_or, or_true, no_b, no_eq1, eq_self, and_self])
theorem m_X11_of (hok : ev_ok sh_S G) (hN : MR N μ) {i w : Nat} (hi : i < 16) (hw : w < 59) : ev_T sh_S G mi_X11_of [.ref 301, .int (nI i), .int (nI w)] μ (.inl (some (.int (nI (N (8 + 59 * i + w)))), μ)) := by
  refine ev_tri hok (okM_X11_of 0) (Nat.le_of_ble_eq_true rfl) 400 ?_
  rw [at_X11_of_0]
  unfold MR at hN
  repeat' (first
    | omega
    | assumption
    | exact rfl
    | (refine And.intro (fun q => ?_) (fun q => ?_) <;> (try simp (disch := first | omega | assumption) only [no_0, no_1, no_lt, no_le, no_eq, no_lt0, no_ge0, no_gt0, no_le0, no_eq0, no_0eq, no_eqm, no_meq, no_m0, no_mlt, no_mge, no_mgt, no_mm, no_in, no_mul, nI_add, nI_clamp, oI_n, oI_s, not_true_eq_false, not_false_eq_true, forall_const, true_implies, false_and, and_false, or_false, false_or, Classical.not_not, true_or, or_true, no_b, no_eq1, eq_self, and_self, sk_301, sk_302, sl_302, sp_301, hN] at q))
    | refine And.intro ?_ ?_
    | simp (disch := first | omega | assumption) only [ev_run_c, ev_run_n, ev_fj, ev_stp, ev_lk, ev_fv, ev_as, ev_sz, ev_st1, ev_st2, ev_rm, ev_pk, ev_Jof, ev_go, lv_args, List.map_cons, List.map_nil, List.zip_cons_cons, List.zip_nil_left, List.zip_nil_right, List.nil_append, List.cons_append, ↓reduceIte, reduceCtorEq, Int.reduceToNat, Nat.reduceEqDiff, Nat.reduceAdd, Nat.reduceLT, Nat.reduceLeDiff, Nat.reduceMul, Value.category, false_implies, true_and, and_true, Bool.false_eq_true, Option.some.injEq, exists_eq_left', Option.toList_some, Option.toList_none, ev_km, ev_k2, ev_k3, ev_k4, ev_k5, ev_l0, ev_l1, sh_1, sh_2, sh_3, sh_4, sh_5, cd_X11_of_0, fl_X11_9, ev_b_59, ev_b_8, no_0, no_1, no_lt, no_le, no_eq, no_lt0, no_ge0, no_gt0, no_le0, no_eq0, no_0eq, no_eqm, no_meq, no_m0, no_mlt, no_mge, no_mgt, no_mm, no_in, no_mul, nI_add, nI_clamp, oI_n, oI_s, not_true_eq_false, not_false_eq_true, forall_const, true_implies, false_and, and_false, or_false, false_or, Classical.not_not, true_or, or_true, no_b, no_eq1, eq_self, and_self, sk_301, sk_302, sl_302, sp_301, hN])
theorem m_X11_ofCake (hok : ev_ok sh_S G) (hN : MR N μ) {i w : Nat} (hi : i < 10) (hw : w < 9) : ev_T sh_S G mi_X11_ofCake [.ref 301, .int (nI i), .int (nI w)] μ (.inl (some (.int (nI (N (952 + 9 * i + w)))), μ)) := by
  refine ev_tri hok (okM_X11_ofCake 0) (Nat.le_of_ble_eq_true rfl) 400 ?_
  rw [at_X11_ofCake_0]
  unfold MR at hN
  repeat' (first
    | omega
    | assumption
    | exact rfl
    | (refine And.intro (fun q => ?_) (fun q => ?_) <;> (try simp (disch := first | omega | assumption) only [no_0, no_1, no_lt, no_le, no_eq, no_lt0, no_ge0, no_gt0, no_le0, no_eq0, no_0eq, no_eqm, no_meq, no_m0, no_mlt, no_mge, no_mgt, no_mm, no_in, no_mul, nI_add, nI_clamp, oI_n, oI_s, not_true_eq_false, not_false_eq_true, forall_const, true_implies, false_and, and_false, or_false, false_or, Classical.not_not, true_or, or_true, no_b, no_eq1, eq_self, and_self, sk_301, sk_302, sl_302, sp_301, hN] at q))
    | refine And.intro ?_ ?_
    | simp (disch := first | omega | assumption) only [ev_run_c, ev_run_n, ev_fj, ev_stp, ev_lk, ev_fv, ev_as, ev_sz, ev_st1, ev_st2, ev_rm, ev_pk, ev_Jof, ev_go, lv_args, List.map_cons, List.map_nil, List.zip_cons_cons, List.zip_nil_left, List.zip_nil_right, List.nil_append, List.cons_append, ↓reduceIte, reduceCtorEq, Int.reduceToNat, Nat.reduceEqDiff, Nat.reduceAdd, Nat.reduceLT, Nat.reduceLeDiff, Nat.reduceMul, Value.category, false_implies, true_and, and_true, Bool.false_eq_true, Option.some.injEq, exists_eq_left', Option.toList_some, Option.toList_none, ev_km, ev_k2, ev_k3, ev_k4, ev_k5, ev_l0, ev_l1, sh_1, sh_2, sh_3, sh_4, sh_5, cd_X11_ofCake_0, fl_X11_9, ev_b_9, ev_h_952, no_0, no_1, no_lt, no_le, no_eq, no_lt0, no_ge0, no_gt0, no_le0, no_eq0, no_0eq, no_eqm, no_meq, no_m0, no_mlt, no_mge, no_mgt, no_mm, no_in, no_mul, nI_add, nI_clamp, oI_n, oI_s, not_true_eq_false, not_false_eq_true, forall_const, true_implies, false_and, and_false, or_false, false_or, Classical.not_not, true_or, or_true, no_b, no_eq1, eq_self, and_self, sk_301, sk_302, sl_302, sp_301, hN])
end MLeaf
