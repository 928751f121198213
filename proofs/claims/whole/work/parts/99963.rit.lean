/-! ===== the reference's parser: items, more (by program, wip/whole/genri.py) ===== -/
section RItB
variable {G : ev_G} {N : Nat → Nat} {B : Nat → Nat} {n : Nat} {μ μ' : ev_M}
set_option maxHeartbeats 1000000 in
theorem m_tastedHere (hok : ev_ok sh_S G) (hN : MR N μ) (hI : INV N) {e : Nat × Int32} {a : Nat} {v : Int32} (h5 : e.1 < 5) (hv : NV B n a v) (h1 : N 1 ≤ 10) (x : Int32) {i : Nat} (hx : e.1 = 0 → x = nI i ∧ i < 16) : ev_T sh_S G mi_X11_tastedHere [.ref 301, .int x] (re B n e a v μ) (.inl (some (.int (nI (if (rN B n e a 0 (N 1)).1 = 0 then tvl B n a else 0))), re B n (er (rN B n e a 0 (N 1)) (¬ sP N (tvl B n a) i < N (952 + 9 * tvl B n a + 5)) 4 a B n) a v μ)) := by
  obtain ⟨e1, f1⟩ : ∃ e', rN B n e a 0 (N 1) = e' := ⟨_, rfl⟩
  have c1 : e1.1 < 5 := by rw [← f1]; exact rN_c h5
  rw [f1]
  by_cases z1 : ¬ e1.1 = 0
  · have y : (e1.1 = 0) = False := eq_false z1
    rw [er_n z1, if_neg z1]
    refine ev_tri hok (okM_X11_tastedHere 0) (Nat.le_of_ble_eq_true rfl) 400 ?_
    rw [at_X11_tastedHere_0]
    repeat' (first
      | (with_reducible refine ev_rid ?_; simp (disch := first | omega | assumption) only [ev_run_c, ev_run_n, ev_fj, ev_stp, ev_lk, ev_fv, ev_as, ev_sz, ev_st1, ev_st2, ev_rm, ev_pk, ev_Jof, ev_go, lv_args, List.map_cons, List.map_nil, List.zip_cons_cons, List.zip_nil_left, List.zip_nil_right, List.nil_append, List.cons_append, ↓reduceIte, reduceCtorEq, Int.reduceToNat, Nat.reduceEqDiff, Nat.reduceAdd, Nat.reduceLT, Nat.reduceLeDiff, Nat.reduceMul, Nat.reduceSub, Value.category, false_implies, true_and, and_true, Bool.false_eq_true, Option.some.injEq, exists_eq_left', Option.toList_some, Option.toList_none, ev_km, ev_k2, ev_k3, ev_k4, ev_k5, ev_l0, ev_l1, sh_1, sh_2, sh_3, sh_4, sh_5, at_X11_tastedHere_27, at_X11_tastedHere_28, ca_X11_143, ca_X11_146, ca_X11_180, cd_X11_tastedHere_0, cd_X11_tastedHere_27, cd_X11_tastedHere_28, fl_X11_62, no_0, no_1, no_lt, no_le, no_eq, no_lt0, no_ge0, no_gt0, no_le0, no_eq0, no_0eq, no_eqm, no_meq, no_m0, no_mlt, no_mge, no_mgt, no_mm, no_i01, no_i10, no_in, no_or, no_ifm, no_mul, nI_add, no_sub, pk_div, iI_if, nI_clamp, oI_n, oI_s, not_true_eq_false, not_false_eq_true, forall_const, true_implies, false_and, and_false, or_false, false_or, Classical.not_not, true_or, or_true, no_b, no_eq1, eq_self, and_self, sk_301, sk_302, sl_302, sp_301, re_10, f1, y])
      | (with_reducible refine ev_gid ?_; simp (disch := first | omega | assumption) only [ev_run_c, ev_run_n, ev_fj, ev_stp, ev_lk, ev_fv, ev_as, ev_sz, ev_st1, ev_st2, ev_rm, ev_pk, ev_Jof, ev_go, lv_args, List.map_cons, List.map_nil, List.zip_cons_cons, List.zip_nil_left, List.zip_nil_right, List.nil_append, List.cons_append, ↓reduceIte, reduceCtorEq, Int.reduceToNat, Nat.reduceEqDiff, Nat.reduceAdd, Nat.reduceLT, Nat.reduceLeDiff, Nat.reduceMul, Nat.reduceSub, Value.category, false_implies, true_and, and_true, Bool.false_eq_true, Option.some.injEq, exists_eq_left', Option.toList_some, Option.toList_none, ev_km, ev_k2, ev_k3, ev_k4, ev_k5, ev_l0, ev_l1, sh_1, sh_2, sh_3, sh_4, sh_5, at_X11_tastedHere_27, at_X11_tastedHere_28, ca_X11_143, ca_X11_146, ca_X11_180, cd_X11_tastedHere_0, cd_X11_tastedHere_27, cd_X11_tastedHere_28, fl_X11_62, no_0, no_1, no_lt, no_le, no_eq, no_lt0, no_ge0, no_gt0, no_le0, no_eq0, no_0eq, no_eqm, no_meq, no_m0, no_mlt, no_mge, no_mgt, no_mm, no_i01, no_i10, no_in, no_or, no_ifm, no_mul, nI_add, no_sub, pk_div, iI_if, nI_clamp, oI_n, oI_s, not_true_eq_false, not_false_eq_true, forall_const, true_implies, false_and, and_false, or_false, false_or, Classical.not_not, true_or, or_true, no_b, no_eq1, eq_self, and_self, sk_301, sk_302, sl_302, sp_301, re_10, f1, y])
      | (with_reducible refine And.intro (fun q => ?_) (fun q => ?_) <;> (try simp (disch := first | omega | assumption) only [no_0, no_1, no_lt, no_le, no_eq, no_lt0, no_ge0, no_gt0, no_le0, no_eq0, no_0eq, no_eqm, no_meq, no_m0, no_mlt, no_mge, no_mgt, no_mm, no_i01, no_i10, no_in, no_or, no_ifm, no_mul, nI_add, no_sub, pk_div, iI_if, nI_clamp, oI_n, oI_s, not_true_eq_false, not_false_eq_true, forall_const, true_implies, false_and, and_false, or_false, false_or, Classical.not_not, true_or, or_true, no_b, no_eq1, eq_self, and_self, sk_301, sk_302, sl_302, sp_301, re_10, f1, y] at q))
      | with_reducible refine ev_ci (m_pancakeHere hok (by with_reducible assumption) ?_ (by with_reducible assumption) (by with_reducible assumption)) ?_
      | with_reducible refine ev_ci (m_X11_seatOf hok (by first | exact MR_re (by with_reducible assumption) | exact MR_re mw_R) ?_ ?_ ?_ ?_) ?_
      | with_reducible refine ev_ci (m_limits1 hok ?_) ?_
      | with_reducible refine ev_ci (m_limits0 hok ?_) ?_
      | omega
      | with_reducible assumption
      | with_reducible rfl
      | with_reducible refine lp_nx ?_ ?_ ?_ ?_
      | with_reducible refine lp_st ?_ ?_ ?_
      | with_reducible refine ls_c ?_ ?_
      | with_reducible refine vi_c ?_
      | with_reducible refine re_c ?_
      | with_reducible refine vz_c ?_
      | with_reducible refine rz_c ?_
      | exact trivial
      | with_reducible refine And.intro ?_ ?_
      | simp (disch := first | omega | assumption) only [ev_run_c, ev_run_n, ev_fj, ev_stp, ev_lk, ev_fv, ev_as, ev_sz, ev_st1, ev_st2, ev_rm, ev_pk, ev_Jof, ev_go, lv_args, List.map_cons, List.map_nil, List.zip_cons_cons, List.zip_nil_left, List.zip_nil_right, List.nil_append, List.cons_append, ↓reduceIte, reduceCtorEq, Int.reduceToNat, Nat.reduceEqDiff, Nat.reduceAdd, Nat.reduceLT, Nat.reduceLeDiff, Nat.reduceMul, Nat.reduceSub, Value.category, false_implies, true_and, and_true, Bool.false_eq_true, Option.some.injEq, exists_eq_left', Option.toList_some, Option.toList_none, ev_km, ev_k2, ev_k3, ev_k4, ev_k5, ev_l0, ev_l1, sh_1, sh_2, sh_3, sh_4, sh_5, at_X11_tastedHere_27, at_X11_tastedHere_28, ca_X11_143, ca_X11_146, ca_X11_180, cd_X11_tastedHere_0, cd_X11_tastedHere_27, cd_X11_tastedHere_28, fl_X11_62, no_0, no_1, no_lt, no_le, no_eq, no_lt0, no_ge0, no_gt0, no_le0, no_eq0, no_0eq, no_eqm, no_meq, no_m0, no_mlt, no_mge, no_mgt, no_mm, no_i01, no_i10, no_in, no_or, no_ifm, no_mul, nI_add, no_sub, pk_div, iI_if, nI_clamp, oI_n, oI_s, not_true_eq_false, not_false_eq_true, forall_const, true_implies, false_and, and_false, or_false, false_or, Classical.not_not, true_or, or_true, no_b, no_eq1, eq_self, and_self, sk_301, sk_302, sl_302, sp_301, re_10, f1, y]
      | exact rfl
      | (split <;> omega))
  · have z1 : e1.1 = 0 := Classical.byContradiction z1
    have g1 := z1
    rw [← f1] at g1
    have s0 := rN_0 g1
    have s1 := nmc_0 s0.2.1
    obtain ⟨rfl, hi⟩ := hx s0.1
    have b1 : tvl B n a < 10 := by omega
    have hb := (iv_q hI (tvl B n a) b1).2.2
    have hst := iv_st31 hI b1
    rw [if_pos z1]
    by_cases hc : ¬ sP N (tvl B n a) i < N (952 + 9 * tvl B n a + 5)
    · rw [er_True hc]
      have h9 := m_X11_seatOf (μ := re B n e1 a v μ) hok (MR_re hN) (i := i) (q := tvl B n a) (by omega) b1 hb hst
      rw [if_neg hc] at h9
      refine ev_tri hok (okM_X11_tastedHere 0) (Nat.le_of_ble_eq_true rfl) 400 ?_
      rw [at_X11_tastedHere_0]
      repeat' (first
        | (with_reducible refine ev_rid ?_; simp (disch := first | omega | assumption) only [ev_run_c, ev_run_n, ev_fj, ev_stp, ev_lk, ev_fv, ev_as, ev_sz, ev_st1, ev_st2, ev_rm, ev_pk, ev_Jof, ev_go, lv_args, List.map_cons, List.map_nil, List.zip_cons_cons, List.zip_nil_left, List.zip_nil_right, List.nil_append, List.cons_append, ↓reduceIte, reduceCtorEq, Int.reduceToNat, Nat.reduceEqDiff, Nat.reduceAdd, Nat.reduceLT, Nat.reduceLeDiff, Nat.reduceMul, Nat.reduceSub, Value.category, false_implies, true_and, and_true, Bool.false_eq_true, Option.some.injEq, exists_eq_left', Option.toList_some, Option.toList_none, ev_km, ev_k2, ev_k3, ev_k4, ev_k5, ev_l0, ev_l1, sh_1, sh_2, sh_3, sh_4, sh_5, at_X11_tastedHere_27, at_X11_tastedHere_28, ca_X11_143, ca_X11_146, ca_X11_180, cd_X11_tastedHere_0, cd_X11_tastedHere_27, cd_X11_tastedHere_28, fl_X11_62, no_0, no_1, no_lt, no_le, no_eq, no_lt0, no_ge0, no_gt0, no_le0, no_eq0, no_0eq, no_eqm, no_meq, no_m0, no_mlt, no_mge, no_mgt, no_mm, no_i01, no_i10, no_in, no_or, no_ifm, no_mul, nI_add, no_sub, pk_div, iI_if, nI_clamp, oI_n, oI_s, not_true_eq_false, not_false_eq_true, forall_const, true_implies, false_and, and_false, or_false, false_or, Classical.not_not, true_or, or_true, no_b, no_eq1, eq_self, and_self, sk_301, sk_302, sl_302, sp_301, re_10, f1, z1])
        | (with_reducible refine ev_gid ?_; simp (disch := first | omega | assumption) only [ev_run_c, ev_run_n, ev_fj, ev_stp, ev_lk, ev_fv, ev_as, ev_sz, ev_st1, ev_st2, ev_rm, ev_pk, ev_Jof, ev_go, lv_args, List.map_cons, List.map_nil, List.zip_cons_cons, List.zip_nil_left, List.zip_nil_right, List.nil_append, List.cons_append, ↓reduceIte, reduceCtorEq, Int.reduceToNat, Nat.reduceEqDiff, Nat.reduceAdd, Nat.reduceLT, Nat.reduceLeDiff, Nat.reduceMul, Nat.reduceSub, Value.category, false_implies, true_and, and_true, Bool.false_eq_true, Option.some.injEq, exists_eq_left', Option.toList_some, Option.toList_none, ev_km, ev_k2, ev_k3, ev_k4, ev_k5, ev_l0, ev_l1, sh_1, sh_2, sh_3, sh_4, sh_5, at_X11_tastedHere_27, at_X11_tastedHere_28, ca_X11_143, ca_X11_146, ca_X11_180, cd_X11_tastedHere_0, cd_X11_tastedHere_27, cd_X11_tastedHere_28, fl_X11_62, no_0, no_1, no_lt, no_le, no_eq, no_lt0, no_ge0, no_gt0, no_le0, no_eq0, no_0eq, no_eqm, no_meq, no_m0, no_mlt, no_mge, no_mgt, no_mm, no_i01, no_i10, no_in, no_or, no_ifm, no_mul, nI_add, no_sub, pk_div, iI_if, nI_clamp, oI_n, oI_s, not_true_eq_false, not_false_eq_true, forall_const, true_implies, false_and, and_false, or_false, false_or, Classical.not_not, true_or, or_true, no_b, no_eq1, eq_self, and_self, sk_301, sk_302, sl_302, sp_301, re_10, f1, z1])
        | (with_reducible refine And.intro (fun q => ?_) (fun q => ?_) <;> (try simp (disch := first | omega | assumption) only [no_0, no_1, no_lt, no_le, no_eq, no_lt0, no_ge0, no_gt0, no_le0, no_eq0, no_0eq, no_eqm, no_meq, no_m0, no_mlt, no_mge, no_mgt, no_mm, no_i01, no_i10, no_in, no_or, no_ifm, no_mul, nI_add, no_sub, pk_div, iI_if, nI_clamp, oI_n, oI_s, not_true_eq_false, not_false_eq_true, forall_const, true_implies, false_and, and_false, or_false, false_or, Classical.not_not, true_or, or_true, no_b, no_eq1, eq_self, and_self, sk_301, sk_302, sl_302, sp_301, re_10, f1, z1] at q))
        | (with_reducible refine ev_ci h9 ?_)
        | with_reducible refine ev_ci (m_pancakeHere hok (by with_reducible assumption) ?_ (by with_reducible assumption) (by with_reducible assumption)) ?_
        | with_reducible refine ev_ci (m_X11_seatOf hok (by first | exact MR_re (by with_reducible assumption) | exact MR_re mw_R) ?_ ?_ ?_ ?_) ?_
        | with_reducible refine ev_ci (m_limits1 hok ?_) ?_
        | with_reducible refine ev_ci (m_limits0 hok ?_) ?_
        | omega
        | with_reducible assumption
        | with_reducible rfl
        | with_reducible refine lp_nx ?_ ?_ ?_ ?_
        | with_reducible refine lp_st ?_ ?_ ?_
        | with_reducible refine ls_c ?_ ?_
        | with_reducible refine vi_c ?_
        | with_reducible refine re_c ?_
        | with_reducible refine vz_c ?_
        | with_reducible refine rz_c ?_
        | exact trivial
        | with_reducible refine And.intro ?_ ?_
        | simp (disch := first | omega | assumption) only [ev_run_c, ev_run_n, ev_fj, ev_stp, ev_lk, ev_fv, ev_as, ev_sz, ev_st1, ev_st2, ev_rm, ev_pk, ev_Jof, ev_go, lv_args, List.map_cons, List.map_nil, List.zip_cons_cons, List.zip_nil_left, List.zip_nil_right, List.nil_append, List.cons_append, ↓reduceIte, reduceCtorEq, Int.reduceToNat, Nat.reduceEqDiff, Nat.reduceAdd, Nat.reduceLT, Nat.reduceLeDiff, Nat.reduceMul, Nat.reduceSub, Value.category, false_implies, true_and, and_true, Bool.false_eq_true, Option.some.injEq, exists_eq_left', Option.toList_some, Option.toList_none, ev_km, ev_k2, ev_k3, ev_k4, ev_k5, ev_l0, ev_l1, sh_1, sh_2, sh_3, sh_4, sh_5, at_X11_tastedHere_27, at_X11_tastedHere_28, ca_X11_143, ca_X11_146, ca_X11_180, cd_X11_tastedHere_0, cd_X11_tastedHere_27, cd_X11_tastedHere_28, fl_X11_62, no_0, no_1, no_lt, no_le, no_eq, no_lt0, no_ge0, no_gt0, no_le0, no_eq0, no_0eq, no_eqm, no_meq, no_m0, no_mlt, no_mge, no_mgt, no_mm, no_i01, no_i10, no_in, no_or, no_ifm, no_mul, nI_add, no_sub, pk_div, iI_if, nI_clamp, oI_n, oI_s, not_true_eq_false, not_false_eq_true, forall_const, true_implies, false_and, and_false, or_false, false_or, Classical.not_not, true_or, or_true, no_b, no_eq1, eq_self, and_self, sk_301, sk_302, sl_302, sp_301, re_10, f1, z1]
        | exact rfl
        | (split <;> omega))
    · rw [er_f hc]
      have hc : sP N (tvl B n a) i < N (952 + 9 * tvl B n a + 5) := Classical.byContradiction hc
      have h9 := m_X11_seatOf (μ := re B n e1 a v μ) hok (MR_re hN) (i := i) (q := tvl B n a) (by omega) b1 hb hst
      rw [if_pos hc] at h9
      refine ev_tri hok (okM_X11_tastedHere 0) (Nat.le_of_ble_eq_true rfl) 400 ?_
      rw [at_X11_tastedHere_0]
      repeat' (first
        | (with_reducible refine ev_rid ?_; simp (disch := first | omega | assumption) only [ev_run_c, ev_run_n, ev_fj, ev_stp, ev_lk, ev_fv, ev_as, ev_sz, ev_st1, ev_st2, ev_rm, ev_pk, ev_Jof, ev_go, lv_args, List.map_cons, List.map_nil, List.zip_cons_cons, List.zip_nil_left, List.zip_nil_right, List.nil_append, List.cons_append, ↓reduceIte, reduceCtorEq, Int.reduceToNat, Nat.reduceEqDiff, Nat.reduceAdd, Nat.reduceLT, Nat.reduceLeDiff, Nat.reduceMul, Nat.reduceSub, Value.category, false_implies, true_and, and_true, Bool.false_eq_true, Option.some.injEq, exists_eq_left', Option.toList_some, Option.toList_none, ev_km, ev_k2, ev_k3, ev_k4, ev_k5, ev_l0, ev_l1, sh_1, sh_2, sh_3, sh_4, sh_5, at_X11_tastedHere_27, at_X11_tastedHere_28, ca_X11_143, ca_X11_146, ca_X11_180, cd_X11_tastedHere_0, cd_X11_tastedHere_27, cd_X11_tastedHere_28, fl_X11_62, no_0, no_1, no_lt, no_le, no_eq, no_lt0, no_ge0, no_gt0, no_le0, no_eq0, no_0eq, no_eqm, no_meq, no_m0, no_mlt, no_mge, no_mgt, no_mm, no_i01, no_i10, no_in, no_or, no_ifm, no_mul, nI_add, no_sub, pk_div, iI_if, nI_clamp, oI_n, oI_s, not_true_eq_false, not_false_eq_true, forall_const, true_implies, false_and, and_false, or_false, false_or, Classical.not_not, true_or, or_true, no_b, no_eq1, eq_self, and_self, sk_301, sk_302, sl_302, sp_301, re_10, f1, z1])
        | (with_reducible refine ev_gid ?_; simp (disch := first | omega | assumption) only [ev_run_c, ev_run_n, ev_fj, ev_stp, ev_lk, ev_fv, ev_as, ev_sz, ev_st1, ev_st2, ev_rm, ev_pk, ev_Jof, ev_go, lv_args, List.map_cons, List.map_nil, List.zip_cons_cons, List.zip_nil_left, List.zip_nil_right, List.nil_append, List.cons_append, ↓reduceIte, reduceCtorEq, Int.reduceToNat, Nat.reduceEqDiff, Nat.reduceAdd, Nat.reduceLT, Nat.reduceLeDiff, Nat.reduceMul, Nat.reduceSub, Value.category, false_implies, true_and, and_true, Bool.false_eq_true, Option.some.injEq, exists_eq_left', Option.toList_some, Option.toList_none, ev_km, ev_k2, ev_k3, ev_k4, ev_k5, ev_l0, ev_l1, sh_1, sh_2, sh_3, sh_4, sh_5, at_X11_tastedHere_27, at_X11_tastedHere_28, ca_X11_143, ca_X11_146, ca_X11_180, cd_X11_tastedHere_0, cd_X11_tastedHere_27, cd_X11_tastedHere_28, fl_X11_62, no_0, no_1, no_lt, no_le, no_eq, no_lt0, no_ge0, no_gt0, no_le0, no_eq0, no_0eq, no_eqm, no_meq, no_m0, no_mlt, no_mge, no_mgt, no_mm, no_i01, no_i10, no_in, no_or, no_ifm, no_mul, nI_add, no_sub, pk_div, iI_if, nI_clamp, oI_n, oI_s, not_true_eq_false, not_false_eq_true, forall_const, true_implies, false_and, and_false, or_false, false_or, Classical.not_not, true_or, or_true, no_b, no_eq1, eq_self, and_self, sk_301, sk_302, sl_302, sp_301, re_10, f1, z1])
        | (with_reducible refine And.intro (fun q => ?_) (fun q => ?_) <;> (try simp (disch := first | omega | assumption) only [no_0, no_1, no_lt, no_le, no_eq, no_lt0, no_ge0, no_gt0, no_le0, no_eq0, no_0eq, no_eqm, no_meq, no_m0, no_mlt, no_mge, no_mgt, no_mm, no_i01, no_i10, no_in, no_or, no_ifm, no_mul, nI_add, no_sub, pk_div, iI_if, nI_clamp, oI_n, oI_s, not_true_eq_false, not_false_eq_true, forall_const, true_implies, false_and, and_false, or_false, false_or, Classical.not_not, true_or, or_true, no_b, no_eq1, eq_self, and_self, sk_301, sk_302, sl_302, sp_301, re_10, f1, z1] at q))
        | (with_reducible refine ev_ci h9 ?_)
        | with_reducible refine ev_ci (m_pancakeHere hok (by with_reducible assumption) ?_ (by with_reducible assumption) (by with_reducible assumption)) ?_
        | with_reducible refine ev_ci (m_X11_seatOf hok (by first | exact MR_re (by with_reducible assumption) | exact MR_re mw_R) ?_ ?_ ?_ ?_) ?_
        | with_reducible refine ev_ci (m_limits1 hok ?_) ?_
        | with_reducible refine ev_ci (m_limits0 hok ?_) ?_
        | omega
        | with_reducible assumption
        | with_reducible rfl
        | with_reducible refine lp_nx ?_ ?_ ?_ ?_
        | with_reducible refine lp_st ?_ ?_ ?_
        | with_reducible refine ls_c ?_ ?_
        | with_reducible refine vi_c ?_
        | with_reducible refine re_c ?_
        | with_reducible refine vz_c ?_
        | with_reducible refine rz_c ?_
        | exact trivial
        | with_reducible refine And.intro ?_ ?_
        | simp (disch := first | omega | assumption) only [ev_run_c, ev_run_n, ev_fj, ev_stp, ev_lk, ev_fv, ev_as, ev_sz, ev_st1, ev_st2, ev_rm, ev_pk, ev_Jof, ev_go, lv_args, List.map_cons, List.map_nil, List.zip_cons_cons, List.zip_nil_left, List.zip_nil_right, List.nil_append, List.cons_append, ↓reduceIte, reduceCtorEq, Int.reduceToNat, Nat.reduceEqDiff, Nat.reduceAdd, Nat.reduceLT, Nat.reduceLeDiff, Nat.reduceMul, Nat.reduceSub, Value.category, false_implies, true_and, and_true, Bool.false_eq_true, Option.some.injEq, exists_eq_left', Option.toList_some, Option.toList_none, ev_km, ev_k2, ev_k3, ev_k4, ev_k5, ev_l0, ev_l1, sh_1, sh_2, sh_3, sh_4, sh_5, at_X11_tastedHere_27, at_X11_tastedHere_28, ca_X11_143, ca_X11_146, ca_X11_180, cd_X11_tastedHere_0, cd_X11_tastedHere_27, cd_X11_tastedHere_28, fl_X11_62, no_0, no_1, no_lt, no_le, no_eq, no_lt0, no_ge0, no_gt0, no_le0, no_eq0, no_0eq, no_eqm, no_meq, no_m0, no_mlt, no_mge, no_mgt, no_mm, no_i01, no_i10, no_in, no_or, no_ifm, no_mul, nI_add, no_sub, pk_div, iI_if, nI_clamp, oI_n, oI_s, not_true_eq_false, not_false_eq_true, forall_const, true_implies, false_and, and_false, or_false, false_or, Classical.not_not, true_or, or_true, no_b, no_eq1, eq_self, and_self, sk_301, sk_302, sl_302, sp_301, re_10, f1, z1]
        | exact rfl
        | (split <;> omega))
set_option maxHeartbeats 2000000 in
theorem rx_leave (hok : ev_ok sh_S G) (hR : RB B n μ) (hN : MR N μ) (hI : INV N) {a : Nat} {v : Int32} (hv : NV B n a v) : RX G B n mi_X11_readsLeave a v μ (q_leave B n N (a + 1)) (nI9 B n N a 9) (aI9 B n N a 9) := by
  have hh := iv_h hI
  have hN1 : N 1 ≤ 10 := hh.2.1
  have n0 : nx (0, -1) a = a + 1 := rfl
  have hv1 := NV_nx (B := B) (n := n) (e := (0, -1)) (a := a) hv
  rw [n0] at hv1
  generalize w0 : nW B n (0, -1) a v = v1 at hv1
  obtain ⟨e1, f1⟩ : ∃ e, rP B n N (0, -1) (a + 1) = e := ⟨_, rfl⟩
  have c1 : e1.1 < 5 := by rw [← f1]; exact rP_c (by decide)
  have ht := fun (vv : Int32) (tt : Nat) (hvv : NV B n tt vv) => m_tastedHere (μ := μ) (e := e1) (a := tt) (v := vv) hok hN hI c1 hvv hN1 (pz B n N (0, -1) (a + 1)) (i := pv B n N (a + 1)) (fun z => by
    rw [← f1] at z
    have := (rP_0 z).2.2.2.1
    exact ⟨pz_0 z, by omega⟩)
  have hq : q_leave B n N (a + 1) = er (rN B n e1 (a + 1 + 1) 0 (N 1)) (¬ sP N (tvl B n (a + 1 + 1)) (pv B n N (a + 1)) < N (952 + 9 * (tvl B n (a + 1 + 1)) + 5)) 4 (a + 1 + 1) B n := by rw [← f1]; rfl
  rw [hq]
  by_cases z1 : ¬ e1.1 = 0
  · have y : (e1.1 = 0) = False := eq_false z1
    have ht1 := ht v1 (a + 1) hv1
    simp only [rN_n z1, er_n z1, y, if_false] at ht1
    simp only [rN_n z1, er_n z1]
    refine ⟨a + 1, v1, μ, ?_, Fw_rf, hv1, fun q => absurd q z1⟩
    refine ev_tri hok (okM_X11_readsLeave 0) (Nat.le_of_ble_eq_true rfl) 400 ?_
    rw [at_X11_readsLeave_0]
    repeat' (first
      | (with_reducible refine ev_rid ?_; simp (disch := first | omega | assumption) only [ev_run_c, ev_run_n, ev_fj, ev_stp, ev_lk, ev_fv, ev_as, ev_sz, ev_st1, ev_st2, ev_rm, ev_pk, ev_Jof, ev_go, lv_args, List.map_cons, List.map_nil, List.zip_cons_cons, List.zip_nil_left, List.zip_nil_right, List.nil_append, List.cons_append, ↓reduceIte, reduceCtorEq, Int.reduceToNat, Nat.reduceEqDiff, Nat.reduceAdd, Nat.reduceLT, Nat.reduceLeDiff, Nat.reduceMul, Nat.reduceSub, Value.category, false_implies, true_and, and_true, Bool.false_eq_true, Option.some.injEq, exists_eq_left', Option.toList_some, Option.toList_none, ev_km, ev_k2, ev_k3, ev_k4, ev_k5, ev_l0, ev_l1, sh_1, sh_2, sh_3, sh_4, sh_5, at_X11_readsLeave_26, at_X11_readsLeave_32, ca_X11_118, ca_X11_168, ca_X11_183, ca_X11_186, cd_X11_readsLeave_0, cd_X11_readsLeave_26, cd_X11_readsLeave_32, fl_X11_62, no_0, no_1, no_lt, no_le, no_eq, no_lt0, no_ge0, no_gt0, no_le0, no_eq0, no_0eq, no_eqm, no_meq, no_m0, no_mlt, no_mge, no_mgt, no_mm, no_i01, no_i10, no_in, no_or, no_ifm, no_mul, nI_add, no_sub, pk_div, iI_if, nI_clamp, oI_n, oI_s, not_true_eq_false, not_false_eq_true, forall_const, true_implies, false_and, and_false, or_false, false_or, Classical.not_not, true_or, or_true, no_b, no_eq1, eq_self, and_self, sk_301, sk_302, sl_302, sp_301, n0, w0, re_10, re_n, mw_re, f1, y, nx_n z1, nW_n z1, rN_n z1])
      | (with_reducible refine ev_gid ?_; simp (disch := first | omega | assumption) only [ev_run_c, ev_run_n, ev_fj, ev_stp, ev_lk, ev_fv, ev_as, ev_sz, ev_st1, ev_st2, ev_rm, ev_pk, ev_Jof, ev_go, lv_args, List.map_cons, List.map_nil, List.zip_cons_cons, List.zip_nil_left, List.zip_nil_right, List.nil_append, List.cons_append, ↓reduceIte, reduceCtorEq, Int.reduceToNat, Nat.reduceEqDiff, Nat.reduceAdd, Nat.reduceLT, Nat.reduceLeDiff, Nat.reduceMul, Nat.reduceSub, Value.category, false_implies, true_and, and_true, Bool.false_eq_true, Option.some.injEq, exists_eq_left', Option.toList_some, Option.toList_none, ev_km, ev_k2, ev_k3, ev_k4, ev_k5, ev_l0, ev_l1, sh_1, sh_2, sh_3, sh_4, sh_5, at_X11_readsLeave_26, at_X11_readsLeave_32, ca_X11_118, ca_X11_168, ca_X11_183, ca_X11_186, cd_X11_readsLeave_0, cd_X11_readsLeave_26, cd_X11_readsLeave_32, fl_X11_62, no_0, no_1, no_lt, no_le, no_eq, no_lt0, no_ge0, no_gt0, no_le0, no_eq0, no_0eq, no_eqm, no_meq, no_m0, no_mlt, no_mge, no_mgt, no_mm, no_i01, no_i10, no_in, no_or, no_ifm, no_mul, nI_add, no_sub, pk_div, iI_if, nI_clamp, oI_n, oI_s, not_true_eq_false, not_false_eq_true, forall_const, true_implies, false_and, and_false, or_false, false_or, Classical.not_not, true_or, or_true, no_b, no_eq1, eq_self, and_self, sk_301, sk_302, sl_302, sp_301, n0, w0, re_10, re_n, mw_re, f1, y, nx_n z1, nW_n z1, rN_n z1])
      | (with_reducible refine And.intro (fun q => ?_) (fun q => ?_) <;> (try simp (disch := first | omega | assumption) only [no_0, no_1, no_lt, no_le, no_eq, no_lt0, no_ge0, no_gt0, no_le0, no_eq0, no_0eq, no_eqm, no_meq, no_m0, no_mlt, no_mge, no_mgt, no_mm, no_i01, no_i10, no_in, no_or, no_ifm, no_mul, nI_add, no_sub, pk_div, iI_if, nI_clamp, oI_n, oI_s, not_true_eq_false, not_false_eq_true, forall_const, true_implies, false_and, and_false, or_false, false_or, Classical.not_not, true_or, or_true, no_b, no_eq1, eq_self, and_self, sk_301, sk_302, sl_302, sp_301, n0, w0, re_10, re_n, mw_re, f1, y, nx_n z1, nW_n z1, rN_n z1] at q))
      | (with_reducible refine ev_ci ht1 ?_)
      | with_reducible refine ev_ci (m_go hok (by first | with_reducible assumption | exact RB_mw (by with_reducible assumption)) ?_) ?_
      | with_reducible refine ev_ci (m_readPerson hok (by with_reducible assumption) (by with_reducible assumption) (by with_reducible assumption) ?_) ?_
      | with_reducible refine ev_ci (m_X11_leaves hok (by first | exact MR_re (by with_reducible assumption) | exact MR_re mw_R) (by with_reducible assumption) ?_ ?_ ?_) ?_
      | omega
      | with_reducible assumption
      | with_reducible rfl
      | with_reducible refine lp_nx ?_ ?_ ?_ ?_
      | with_reducible refine lp_st ?_ ?_ ?_
      | with_reducible refine ls_c ?_ ?_
      | with_reducible refine vi_c ?_
      | with_reducible refine re_c ?_
      | with_reducible refine vz_c ?_
      | with_reducible refine rz_c ?_
      | exact trivial
      | with_reducible refine And.intro ?_ ?_
      | simp (disch := first | omega | assumption) only [ev_run_c, ev_run_n, ev_fj, ev_stp, ev_lk, ev_fv, ev_as, ev_sz, ev_st1, ev_st2, ev_rm, ev_pk, ev_Jof, ev_go, lv_args, List.map_cons, List.map_nil, List.zip_cons_cons, List.zip_nil_left, List.zip_nil_right, List.nil_append, List.cons_append, ↓reduceIte, reduceCtorEq, Int.reduceToNat, Nat.reduceEqDiff, Nat.reduceAdd, Nat.reduceLT, Nat.reduceLeDiff, Nat.reduceMul, Nat.reduceSub, Value.category, false_implies, true_and, and_true, Bool.false_eq_true, Option.some.injEq, exists_eq_left', Option.toList_some, Option.toList_none, ev_km, ev_k2, ev_k3, ev_k4, ev_k5, ev_l0, ev_l1, sh_1, sh_2, sh_3, sh_4, sh_5, at_X11_readsLeave_26, at_X11_readsLeave_32, ca_X11_118, ca_X11_168, ca_X11_183, ca_X11_186, cd_X11_readsLeave_0, cd_X11_readsLeave_26, cd_X11_readsLeave_32, fl_X11_62, no_0, no_1, no_lt, no_le, no_eq, no_lt0, no_ge0, no_gt0, no_le0, no_eq0, no_0eq, no_eqm, no_meq, no_m0, no_mlt, no_mge, no_mgt, no_mm, no_i01, no_i10, no_in, no_or, no_ifm, no_mul, nI_add, no_sub, pk_div, iI_if, nI_clamp, oI_n, oI_s, not_true_eq_false, not_false_eq_true, forall_const, true_implies, false_and, and_false, or_false, false_or, Classical.not_not, true_or, or_true, no_b, no_eq1, eq_self, and_self, sk_301, sk_302, sl_302, sp_301, n0, w0, re_10, re_n, mw_re, f1, y, nx_n z1, nW_n z1, rN_n z1]
      | exact rfl
      | (split <;> omega))
  · have z1 : e1.1 = 0 := Classical.byContradiction z1
    have g1 := z1
    rw [← f1] at g1
    have s1 := rP_0 g1
    have p1 := pz_0 g1
    have b1 : pv B n N (a + 1) < 16 := by omega
    have n1 : nx e1 (a + 1) = a + 1 + 1 := nx_0 z1
    have hv2 := NV_nx (B := B) (n := n) (e := e1) (a := a + 1) hv1
    rw [n1] at hv2
    generalize w1 : nW B n e1 (a + 1) v1 = v2 at hv2
    have ht2 := ht v2 (a + 1 + 1) hv2
    rw [p1] at ht2
    obtain ⟨e2, f2⟩ : ∃ e, er (rN B n e1 (a + 1 + 1) 0 (N 1)) (¬ sP N (tvl B n (a + 1 + 1)) (pv B n N (a + 1)) < N (952 + 9 * (tvl B n (a + 1 + 1)) + 5)) 4 (a + 1 + 1) B n = e := ⟨_, rfl⟩
    have c2 : e2.1 < 5 := by rw [← f2]; exact er_c (rN_c c1) (by decide)
    rw [f2] at ht2 ⊢
    by_cases z2 : ¬ e2.1 = 0
    · have y : (e2.1 = 0) = False := eq_false z2
      try simp only [rN_n z2]
      refine ⟨a + 1 + 1, v2, μ, ?_, Fw_rf, hv2, fun q => absurd q z2⟩
      refine ev_tri hok (okM_X11_readsLeave 0) (Nat.le_of_ble_eq_true rfl) 400 ?_
      rw [at_X11_readsLeave_0]
      repeat' (first
        | (with_reducible refine ev_rid ?_; simp (disch := first | omega | assumption) only [ev_run_c, ev_run_n, ev_fj, ev_stp, ev_lk, ev_fv, ev_as, ev_sz, ev_st1, ev_st2, ev_rm, ev_pk, ev_Jof, ev_go, lv_args, List.map_cons, List.map_nil, List.zip_cons_cons, List.zip_nil_left, List.zip_nil_right, List.nil_append, List.cons_append, ↓reduceIte, reduceCtorEq, Int.reduceToNat, Nat.reduceEqDiff, Nat.reduceAdd, Nat.reduceLT, Nat.reduceLeDiff, Nat.reduceMul, Nat.reduceSub, Value.category, false_implies, true_and, and_true, Bool.false_eq_true, Option.some.injEq, exists_eq_left', Option.toList_some, Option.toList_none, ev_km, ev_k2, ev_k3, ev_k4, ev_k5, ev_l0, ev_l1, sh_1, sh_2, sh_3, sh_4, sh_5, at_X11_readsLeave_26, at_X11_readsLeave_32, ca_X11_118, ca_X11_168, ca_X11_183, ca_X11_186, cd_X11_readsLeave_0, cd_X11_readsLeave_26, cd_X11_readsLeave_32, fl_X11_62, no_0, no_1, no_lt, no_le, no_eq, no_lt0, no_ge0, no_gt0, no_le0, no_eq0, no_0eq, no_eqm, no_meq, no_m0, no_mlt, no_mge, no_mgt, no_mm, no_i01, no_i10, no_in, no_or, no_ifm, no_mul, nI_add, no_sub, pk_div, iI_if, nI_clamp, oI_n, oI_s, not_true_eq_false, not_false_eq_true, forall_const, true_implies, false_and, and_false, or_false, false_or, Classical.not_not, true_or, or_true, no_b, no_eq1, eq_self, and_self, sk_301, sk_302, sl_302, sp_301, n0, w0, re_10, re_n, mw_re, f1, z1, p1, n1, w1, y, nx_n z2, nW_n z2, rN_n z2])
        | (with_reducible refine ev_gid ?_; simp (disch := first | omega | assumption) only [ev_run_c, ev_run_n, ev_fj, ev_stp, ev_lk, ev_fv, ev_as, ev_sz, ev_st1, ev_st2, ev_rm, ev_pk, ev_Jof, ev_go, lv_args, List.map_cons, List.map_nil, List.zip_cons_cons, List.zip_nil_left, List.zip_nil_right, List.nil_append, List.cons_append, ↓reduceIte, reduceCtorEq, Int.reduceToNat, Nat.reduceEqDiff, Nat.reduceAdd, Nat.reduceLT, Nat.reduceLeDiff, Nat.reduceMul, Nat.reduceSub, Value.category, false_implies, true_and, and_true, Bool.false_eq_true, Option.some.injEq, exists_eq_left', Option.toList_some, Option.toList_none, ev_km, ev_k2, ev_k3, ev_k4, ev_k5, ev_l0, ev_l1, sh_1, sh_2, sh_3, sh_4, sh_5, at_X11_readsLeave_26, at_X11_readsLeave_32, ca_X11_118, ca_X11_168, ca_X11_183, ca_X11_186, cd_X11_readsLeave_0, cd_X11_readsLeave_26, cd_X11_readsLeave_32, fl_X11_62, no_0, no_1, no_lt, no_le, no_eq, no_lt0, no_ge0, no_gt0, no_le0, no_eq0, no_0eq, no_eqm, no_meq, no_m0, no_mlt, no_mge, no_mgt, no_mm, no_i01, no_i10, no_in, no_or, no_ifm, no_mul, nI_add, no_sub, pk_div, iI_if, nI_clamp, oI_n, oI_s, not_true_eq_false, not_false_eq_true, forall_const, true_implies, false_and, and_false, or_false, false_or, Classical.not_not, true_or, or_true, no_b, no_eq1, eq_self, and_self, sk_301, sk_302, sl_302, sp_301, n0, w0, re_10, re_n, mw_re, f1, z1, p1, n1, w1, y, nx_n z2, nW_n z2, rN_n z2])
        | (with_reducible refine And.intro (fun q => ?_) (fun q => ?_) <;> (try simp (disch := first | omega | assumption) only [no_0, no_1, no_lt, no_le, no_eq, no_lt0, no_ge0, no_gt0, no_le0, no_eq0, no_0eq, no_eqm, no_meq, no_m0, no_mlt, no_mge, no_mgt, no_mm, no_i01, no_i10, no_in, no_or, no_ifm, no_mul, nI_add, no_sub, pk_div, iI_if, nI_clamp, oI_n, oI_s, not_true_eq_false, not_false_eq_true, forall_const, true_implies, false_and, and_false, or_false, false_or, Classical.not_not, true_or, or_true, no_b, no_eq1, eq_self, and_self, sk_301, sk_302, sl_302, sp_301, n0, w0, re_10, re_n, mw_re, f1, z1, p1, n1, w1, y, nx_n z2, nW_n z2, rN_n z2] at q))
        | (with_reducible refine ev_ci ht2 ?_)
        | with_reducible refine ev_ci (m_go hok (by first | with_reducible assumption | exact RB_mw (by with_reducible assumption)) ?_) ?_
        | with_reducible refine ev_ci (m_readPerson hok (by with_reducible assumption) (by with_reducible assumption) (by with_reducible assumption) ?_) ?_
        | with_reducible refine ev_ci (m_X11_leaves hok (by first | exact MR_re (by with_reducible assumption) | exact MR_re mw_R) (by with_reducible assumption) ?_ ?_ ?_) ?_
        | omega
        | with_reducible assumption
        | with_reducible rfl
        | with_reducible refine lp_nx ?_ ?_ ?_ ?_
        | with_reducible refine lp_st ?_ ?_ ?_
        | with_reducible refine ls_c ?_ ?_
        | with_reducible refine vi_c ?_
        | with_reducible refine re_c ?_
        | with_reducible refine vz_c ?_
        | with_reducible refine rz_c ?_
        | exact trivial
        | with_reducible refine And.intro ?_ ?_
        | simp (disch := first | omega | assumption) only [ev_run_c, ev_run_n, ev_fj, ev_stp, ev_lk, ev_fv, ev_as, ev_sz, ev_st1, ev_st2, ev_rm, ev_pk, ev_Jof, ev_go, lv_args, List.map_cons, List.map_nil, List.zip_cons_cons, List.zip_nil_left, List.zip_nil_right, List.nil_append, List.cons_append, ↓reduceIte, reduceCtorEq, Int.reduceToNat, Nat.reduceEqDiff, Nat.reduceAdd, Nat.reduceLT, Nat.reduceLeDiff, Nat.reduceMul, Nat.reduceSub, Value.category, false_implies, true_and, and_true, Bool.false_eq_true, Option.some.injEq, exists_eq_left', Option.toList_some, Option.toList_none, ev_km, ev_k2, ev_k3, ev_k4, ev_k5, ev_l0, ev_l1, sh_1, sh_2, sh_3, sh_4, sh_5, at_X11_readsLeave_26, at_X11_readsLeave_32, ca_X11_118, ca_X11_168, ca_X11_183, ca_X11_186, cd_X11_readsLeave_0, cd_X11_readsLeave_26, cd_X11_readsLeave_32, fl_X11_62, no_0, no_1, no_lt, no_le, no_eq, no_lt0, no_ge0, no_gt0, no_le0, no_eq0, no_0eq, no_eqm, no_meq, no_m0, no_mlt, no_mge, no_mgt, no_mm, no_i01, no_i10, no_in, no_or, no_ifm, no_mul, nI_add, no_sub, pk_div, iI_if, nI_clamp, oI_n, oI_s, not_true_eq_false, not_false_eq_true, forall_const, true_implies, false_and, and_false, or_false, false_or, Classical.not_not, true_or, or_true, no_b, no_eq1, eq_self, and_self, sk_301, sk_302, sl_302, sp_301, n0, w0, re_10, re_n, mw_re, f1, z1, p1, n1, w1, y, nx_n z2, nW_n z2, rN_n z2]
        | exact rfl
        | (split <;> omega))
    · have z2 : e2.1 = 0 := Classical.byContradiction z2
      have g2 := z2
      rw [← f2] at g2
      have k2 := er_0 g2 (by decide)
      have s2 := nmc_0 (rN_0 k2.1).2.1
      have b2 : tvl B n (a + 1 + 1) < 10 := by omega
      have hb := (iv_q hI (tvl B n (a + 1 + 1)) b2).2.2
      have hs : sP N (tvl B n (a + 1 + 1)) (pv B n N (a + 1)) < N (952 + 9 * (tvl B n (a + 1 + 1)) + 5) := Classical.byContradiction k2.2.1
      rw [if_pos k2.1] at ht2
      have n2 : nx e2 (a + 1 + 1) = a + 1 + 1 + 1 := nx_0 z2
      have hv3 := NV_nx (B := B) (n := n) (e := e2) (a := a + 1 + 1) hv2
      rw [n2] at hv3
      generalize w2 : nW B n e2 (a + 1 + 1) v2 = v3 at hv3
      refine ⟨a + 1 + 1 + 1, v3, mw μ (lvN N (pv B n N (a + 1)) (tvl B n (a + 1 + 1))), ?_, Fw_mw, hv3, fun _ => ⟨rfl, mw_R⟩⟩
      refine ev_tri hok (okM_X11_readsLeave 0) (Nat.le_of_ble_eq_true rfl) 400 ?_
      rw [at_X11_readsLeave_0]
      repeat' (first
        | (with_reducible refine ev_rid ?_; simp (disch := first | omega | assumption) only [ev_run_c, ev_run_n, ev_fj, ev_stp, ev_lk, ev_fv, ev_as, ev_sz, ev_st1, ev_st2, ev_rm, ev_pk, ev_Jof, ev_go, lv_args, List.map_cons, List.map_nil, List.zip_cons_cons, List.zip_nil_left, List.zip_nil_right, List.nil_append, List.cons_append, ↓reduceIte, reduceCtorEq, Int.reduceToNat, Nat.reduceEqDiff, Nat.reduceAdd, Nat.reduceLT, Nat.reduceLeDiff, Nat.reduceMul, Nat.reduceSub, Value.category, false_implies, true_and, and_true, Bool.false_eq_true, Option.some.injEq, exists_eq_left', Option.toList_some, Option.toList_none, ev_km, ev_k2, ev_k3, ev_k4, ev_k5, ev_l0, ev_l1, sh_1, sh_2, sh_3, sh_4, sh_5, at_X11_readsLeave_26, at_X11_readsLeave_32, ca_X11_118, ca_X11_168, ca_X11_183, ca_X11_186, cd_X11_readsLeave_0, cd_X11_readsLeave_26, cd_X11_readsLeave_32, fl_X11_62, no_0, no_1, no_lt, no_le, no_eq, no_lt0, no_ge0, no_gt0, no_le0, no_eq0, no_0eq, no_eqm, no_meq, no_m0, no_mlt, no_mge, no_mgt, no_mm, no_i01, no_i10, no_in, no_or, no_ifm, no_mul, nI_add, no_sub, pk_div, iI_if, nI_clamp, oI_n, oI_s, not_true_eq_false, not_false_eq_true, forall_const, true_implies, false_and, and_false, or_false, false_or, Classical.not_not, true_or, or_true, no_b, no_eq1, eq_self, and_self, sk_301, sk_302, sl_302, sp_301, n0, w0, re_10, re_n, mw_re, mw_mw, f1, z1, p1, n1, w1, z2, n2, w2])
        | (with_reducible refine ev_gid ?_; simp (disch := first | omega | assumption) only [ev_run_c, ev_run_n, ev_fj, ev_stp, ev_lk, ev_fv, ev_as, ev_sz, ev_st1, ev_st2, ev_rm, ev_pk, ev_Jof, ev_go, lv_args, List.map_cons, List.map_nil, List.zip_cons_cons, List.zip_nil_left, List.zip_nil_right, List.nil_append, List.cons_append, ↓reduceIte, reduceCtorEq, Int.reduceToNat, Nat.reduceEqDiff, Nat.reduceAdd, Nat.reduceLT, Nat.reduceLeDiff, Nat.reduceMul, Nat.reduceSub, Value.category, false_implies, true_and, and_true, Bool.false_eq_true, Option.some.injEq, exists_eq_left', Option.toList_some, Option.toList_none, ev_km, ev_k2, ev_k3, ev_k4, ev_k5, ev_l0, ev_l1, sh_1, sh_2, sh_3, sh_4, sh_5, at_X11_readsLeave_26, at_X11_readsLeave_32, ca_X11_118, ca_X11_168, ca_X11_183, ca_X11_186, cd_X11_readsLeave_0, cd_X11_readsLeave_26, cd_X11_readsLeave_32, fl_X11_62, no_0, no_1, no_lt, no_le, no_eq, no_lt0, no_ge0, no_gt0, no_le0, no_eq0, no_0eq, no_eqm, no_meq, no_m0, no_mlt, no_mge, no_mgt, no_mm, no_i01, no_i10, no_in, no_or, no_ifm, no_mul, nI_add, no_sub, pk_div, iI_if, nI_clamp, oI_n, oI_s, not_true_eq_false, not_false_eq_true, forall_const, true_implies, false_and, and_false, or_false, false_or, Classical.not_not, true_or, or_true, no_b, no_eq1, eq_self, and_self, sk_301, sk_302, sl_302, sp_301, n0, w0, re_10, re_n, mw_re, mw_mw, f1, z1, p1, n1, w1, z2, n2, w2])
        | (with_reducible refine And.intro (fun q => ?_) (fun q => ?_) <;> (try simp (disch := first | omega | assumption) only [no_0, no_1, no_lt, no_le, no_eq, no_lt0, no_ge0, no_gt0, no_le0, no_eq0, no_0eq, no_eqm, no_meq, no_m0, no_mlt, no_mge, no_mgt, no_mm, no_i01, no_i10, no_in, no_or, no_ifm, no_mul, nI_add, no_sub, pk_div, iI_if, nI_clamp, oI_n, oI_s, not_true_eq_false, not_false_eq_true, forall_const, true_implies, false_and, and_false, or_false, false_or, Classical.not_not, true_or, or_true, no_b, no_eq1, eq_self, and_self, sk_301, sk_302, sl_302, sp_301, n0, w0, re_10, re_n, mw_re, mw_mw, f1, z1, p1, n1, w1, z2, n2, w2] at q))
        | (with_reducible refine ev_ci ht2 ?_)
        | with_reducible refine ev_ci (m_go hok (by first | with_reducible assumption | exact RB_mw (by with_reducible assumption)) ?_) ?_
        | with_reducible refine ev_ci (m_readPerson hok (by with_reducible assumption) (by with_reducible assumption) (by with_reducible assumption) ?_) ?_
        | with_reducible refine ev_ci (m_X11_leaves hok (by first | exact MR_re (by with_reducible assumption) | exact MR_re mw_R) (by with_reducible assumption) ?_ ?_ ?_) ?_
        | omega
        | with_reducible assumption
        | with_reducible rfl
        | with_reducible refine lp_nx ?_ ?_ ?_ ?_
        | with_reducible refine lp_st ?_ ?_ ?_
        | with_reducible refine ls_c ?_ ?_
        | with_reducible refine vi_c ?_
        | with_reducible refine re_c ?_
        | with_reducible refine vz_c ?_
        | with_reducible refine rz_c ?_
        | exact trivial
        | with_reducible refine And.intro ?_ ?_
        | simp (disch := first | omega | assumption) only [ev_run_c, ev_run_n, ev_fj, ev_stp, ev_lk, ev_fv, ev_as, ev_sz, ev_st1, ev_st2, ev_rm, ev_pk, ev_Jof, ev_go, lv_args, List.map_cons, List.map_nil, List.zip_cons_cons, List.zip_nil_left, List.zip_nil_right, List.nil_append, List.cons_append, ↓reduceIte, reduceCtorEq, Int.reduceToNat, Nat.reduceEqDiff, Nat.reduceAdd, Nat.reduceLT, Nat.reduceLeDiff, Nat.reduceMul, Nat.reduceSub, Value.category, false_implies, true_and, and_true, Bool.false_eq_true, Option.some.injEq, exists_eq_left', Option.toList_some, Option.toList_none, ev_km, ev_k2, ev_k3, ev_k4, ev_k5, ev_l0, ev_l1, sh_1, sh_2, sh_3, sh_4, sh_5, at_X11_readsLeave_26, at_X11_readsLeave_32, ca_X11_118, ca_X11_168, ca_X11_183, ca_X11_186, cd_X11_readsLeave_0, cd_X11_readsLeave_26, cd_X11_readsLeave_32, fl_X11_62, no_0, no_1, no_lt, no_le, no_eq, no_lt0, no_ge0, no_gt0, no_le0, no_eq0, no_0eq, no_eqm, no_meq, no_m0, no_mlt, no_mge, no_mgt, no_mm, no_i01, no_i10, no_in, no_or, no_ifm, no_mul, nI_add, no_sub, pk_div, iI_if, nI_clamp, oI_n, oI_s, not_true_eq_false, not_false_eq_true, forall_const, true_implies, false_and, and_false, or_false, false_or, Classical.not_not, true_or, or_true, no_b, no_eq1, eq_self, and_self, sk_301, sk_302, sl_302, sp_301, n0, w0, re_10, re_n, mw_re, mw_mw, f1, z1, p1, n1, w1, z2, n2, w2]
        | exact rfl
        | (split <;> omega))
set_option maxHeartbeats 2000000 in
theorem rx_score (hok : ev_ok sh_S G) (hR : RB B n μ) (hN : MR N μ) (hI : INV N) {a : Nat} {v : Int32} (hv : NV B n a v) : RX G B n mi_X11_readsScore a v μ (q_score B n N (a + 1)) (nI9 B n N a 10) (aI9 B n N a 10) := by
  have hh := iv_h hI
  have hN1 : N 1 ≤ 10 := hh.2.1
  have n0 : nx (0, -1) a = a + 1 := rfl
  have hv1 := NV_nx (B := B) (n := n) (e := (0, -1)) (a := a) hv
  rw [n0] at hv1
  generalize w0 : nW B n (0, -1) a v = v1 at hv1
  obtain ⟨e1, f1⟩ : ∃ e, rP B n N (0, -1) (a + 1) = e := ⟨_, rfl⟩
  have c1 : e1.1 < 5 := by rw [← f1]; exact rP_c (by decide)
  have ht := fun (vv : Int32) (tt : Nat) (hvv : NV B n tt vv) => m_tastedHere (μ := μ) (e := e1) (a := tt) (v := vv) hok hN hI c1 hvv hN1 (pz B n N (0, -1) (a + 1)) (i := pv B n N (a + 1)) (fun z => by
    rw [← f1] at z
    have := (rP_0 z).2.2.2.1
    exact ⟨pz_0 z, by omega⟩)
  have hq : q_score B n N (a + 1) = rN B n (er (rN B n e1 (a + 1 + 1) 0 (N 1)) (¬ sP N (tvl B n (a + 1 + 1)) (pv B n N (a + 1)) < N (952 + 9 * (tvl B n (a + 1 + 1)) + 5)) 4 (a + 1 + 1) B n) (a + 1 + 1 + 1) 1 10 := by rw [← f1]; rfl
  rw [hq]
  by_cases z1 : ¬ e1.1 = 0
  · have y : (e1.1 = 0) = False := eq_false z1
    have ht1 := ht v1 (a + 1) hv1
    simp only [rN_n z1, er_n z1, y, if_false] at ht1
    simp only [rN_n z1, er_n z1]
    refine ⟨a + 1, v1, μ, ?_, Fw_rf, hv1, fun q => absurd q z1⟩
    refine ev_tri hok (okM_X11_readsScore 0) (Nat.le_of_ble_eq_true rfl) 400 ?_
    rw [at_X11_readsScore_0]
    repeat' (first
      | (with_reducible refine ev_rid ?_; simp (disch := first | omega | assumption) only [ev_run_c, ev_run_n, ev_fj, ev_stp, ev_lk, ev_fv, ev_as, ev_sz, ev_st1, ev_st2, ev_rm, ev_pk, ev_Jof, ev_go, lv_args, List.map_cons, List.map_nil, List.zip_cons_cons, List.zip_nil_left, List.zip_nil_right, List.nil_append, List.cons_append, ↓reduceIte, reduceCtorEq, Int.reduceToNat, Nat.reduceEqDiff, Nat.reduceAdd, Nat.reduceLT, Nat.reduceLeDiff, Nat.reduceMul, Nat.reduceSub, Value.category, false_implies, true_and, and_true, Bool.false_eq_true, Option.some.injEq, exists_eq_left', Option.toList_some, Option.toList_none, ev_km, ev_k2, ev_k3, ev_k4, ev_k5, ev_l0, ev_l1, sh_1, sh_2, sh_3, sh_4, sh_5, at_X11_readsScore_44, ca_X11_118, ca_X11_149, ca_X11_153, ca_X11_168, ca_X11_183, cd_X11_readsScore_0, cd_X11_readsScore_44, fl_X11_62, ev_b_23, ev_b_9, no_0, no_1, no_lt, no_le, no_eq, no_lt0, no_ge0, no_gt0, no_le0, no_eq0, no_0eq, no_eqm, no_meq, no_m0, no_mlt, no_mge, no_mgt, no_mm, no_i01, no_i10, no_in, no_or, no_ifm, no_mul, nI_add, no_sub, pk_div, iI_if, nI_clamp, oI_n, oI_s, not_true_eq_false, not_false_eq_true, forall_const, true_implies, false_and, and_false, or_false, false_or, Classical.not_not, true_or, or_true, no_b, no_eq1, eq_self, and_self, sk_301, sk_302, sl_302, sp_301, n0, w0, re_10, re_n, mw_re, f1, y, nx_n z1, nW_n z1, rN_n z1])
      | (with_reducible refine ev_gid ?_; simp (disch := first | omega | assumption) only [ev_run_c, ev_run_n, ev_fj, ev_stp, ev_lk, ev_fv, ev_as, ev_sz, ev_st1, ev_st2, ev_rm, ev_pk, ev_Jof, ev_go, lv_args, List.map_cons, List.map_nil, List.zip_cons_cons, List.zip_nil_left, List.zip_nil_right, List.nil_append, List.cons_append, ↓reduceIte, reduceCtorEq, Int.reduceToNat, Nat.reduceEqDiff, Nat.reduceAdd, Nat.reduceLT, Nat.reduceLeDiff, Nat.reduceMul, Nat.reduceSub, Value.category, false_implies, true_and, and_true, Bool.false_eq_true, Option.some.injEq, exists_eq_left', Option.toList_some, Option.toList_none, ev_km, ev_k2, ev_k3, ev_k4, ev_k5, ev_l0, ev_l1, sh_1, sh_2, sh_3, sh_4, sh_5, at_X11_readsScore_44, ca_X11_118, ca_X11_149, ca_X11_153, ca_X11_168, ca_X11_183, cd_X11_readsScore_0, cd_X11_readsScore_44, fl_X11_62, ev_b_23, ev_b_9, no_0, no_1, no_lt, no_le, no_eq, no_lt0, no_ge0, no_gt0, no_le0, no_eq0, no_0eq, no_eqm, no_meq, no_m0, no_mlt, no_mge, no_mgt, no_mm, no_i01, no_i10, no_in, no_or, no_ifm, no_mul, nI_add, no_sub, pk_div, iI_if, nI_clamp, oI_n, oI_s, not_true_eq_false, not_false_eq_true, forall_const, true_implies, false_and, and_false, or_false, false_or, Classical.not_not, true_or, or_true, no_b, no_eq1, eq_self, and_self, sk_301, sk_302, sl_302, sp_301, n0, w0, re_10, re_n, mw_re, f1, y, nx_n z1, nW_n z1, rN_n z1])
      | (with_reducible refine And.intro (fun q => ?_) (fun q => ?_) <;> (try simp (disch := first | omega | assumption) only [no_0, no_1, no_lt, no_le, no_eq, no_lt0, no_ge0, no_gt0, no_le0, no_eq0, no_0eq, no_eqm, no_meq, no_m0, no_mlt, no_mge, no_mgt, no_mm, no_i01, no_i10, no_in, no_or, no_ifm, no_mul, nI_add, no_sub, pk_div, iI_if, nI_clamp, oI_n, oI_s, not_true_eq_false, not_false_eq_true, forall_const, true_implies, false_and, and_false, or_false, false_or, Classical.not_not, true_or, or_true, no_b, no_eq1, eq_self, and_self, sk_301, sk_302, sl_302, sp_301, n0, w0, re_10, re_n, mw_re, f1, y, nx_n z1, nW_n z1, rN_n z1] at q))
      | (with_reducible refine ev_ci ht1 ?_)
      | with_reducible refine ev_ci (m_go hok (by first | with_reducible assumption | exact RB_mw (by with_reducible assumption)) ?_) ?_
      | with_reducible refine ev_ci (m_readPerson hok (by with_reducible assumption) (by with_reducible assumption) (by with_reducible assumption) ?_) ?_
      | with_reducible refine ev_ci (m_readNumber hok (by with_reducible assumption) ?_ (by with_reducible assumption) ?_ ?_) ?_
      | with_reducible refine ev_ci (m_X11_puts hok (by first | exact MR_re (by with_reducible assumption) | exact MR_re mw_R) ?_ ?_) ?_
      | omega
      | with_reducible assumption
      | with_reducible rfl
      | with_reducible refine lp_nx ?_ ?_ ?_ ?_
      | with_reducible refine lp_st ?_ ?_ ?_
      | with_reducible refine ls_c ?_ ?_
      | with_reducible refine vi_c ?_
      | with_reducible refine re_c ?_
      | with_reducible refine vz_c ?_
      | with_reducible refine rz_c ?_
      | exact trivial
      | with_reducible refine And.intro ?_ ?_
      | simp (disch := first | omega | assumption) only [ev_run_c, ev_run_n, ev_fj, ev_stp, ev_lk, ev_fv, ev_as, ev_sz, ev_st1, ev_st2, ev_rm, ev_pk, ev_Jof, ev_go, lv_args, List.map_cons, List.map_nil, List.zip_cons_cons, List.zip_nil_left, List.zip_nil_right, List.nil_append, List.cons_append, ↓reduceIte, reduceCtorEq, Int.reduceToNat, Nat.reduceEqDiff, Nat.reduceAdd, Nat.reduceLT, Nat.reduceLeDiff, Nat.reduceMul, Nat.reduceSub, Value.category, false_implies, true_and, and_true, Bool.false_eq_true, Option.some.injEq, exists_eq_left', Option.toList_some, Option.toList_none, ev_km, ev_k2, ev_k3, ev_k4, ev_k5, ev_l0, ev_l1, sh_1, sh_2, sh_3, sh_4, sh_5, at_X11_readsScore_44, ca_X11_118, ca_X11_149, ca_X11_153, ca_X11_168, ca_X11_183, cd_X11_readsScore_0, cd_X11_readsScore_44, fl_X11_62, ev_b_23, ev_b_9, no_0, no_1, no_lt, no_le, no_eq, no_lt0, no_ge0, no_gt0, no_le0, no_eq0, no_0eq, no_eqm, no_meq, no_m0, no_mlt, no_mge, no_mgt, no_mm, no_i01, no_i10, no_in, no_or, no_ifm, no_mul, nI_add, no_sub, pk_div, iI_if, nI_clamp, oI_n, oI_s, not_true_eq_false, not_false_eq_true, forall_const, true_implies, false_and, and_false, or_false, false_or, Classical.not_not, true_or, or_true, no_b, no_eq1, eq_self, and_self, sk_301, sk_302, sl_302, sp_301, n0, w0, re_10, re_n, mw_re, f1, y, nx_n z1, nW_n z1, rN_n z1]
      | exact rfl
      | (split <;> omega))
  · have z1 : e1.1 = 0 := Classical.byContradiction z1
    have g1 := z1
    rw [← f1] at g1
    have s1 := rP_0 g1
    have p1 := pz_0 g1
    have b1 : pv B n N (a + 1) < 16 := by omega
    have n1 : nx e1 (a + 1) = a + 1 + 1 := nx_0 z1
    have hv2 := NV_nx (B := B) (n := n) (e := e1) (a := a + 1) hv1
    rw [n1] at hv2
    generalize w1 : nW B n e1 (a + 1) v1 = v2 at hv2
    have ht2 := ht v2 (a + 1 + 1) hv2
    rw [p1] at ht2
    obtain ⟨e2, f2⟩ : ∃ e, er (rN B n e1 (a + 1 + 1) 0 (N 1)) (¬ sP N (tvl B n (a + 1 + 1)) (pv B n N (a + 1)) < N (952 + 9 * (tvl B n (a + 1 + 1)) + 5)) 4 (a + 1 + 1) B n = e := ⟨_, rfl⟩
    have c2 : e2.1 < 5 := by rw [← f2]; exact er_c (rN_c c1) (by decide)
    rw [f2] at ht2 ⊢
    by_cases z2 : ¬ e2.1 = 0
    · have y : (e2.1 = 0) = False := eq_false z2
      try simp only [rN_n z2]
      refine ⟨a + 1 + 1, v2, μ, ?_, Fw_rf, hv2, fun q => absurd q z2⟩
      refine ev_tri hok (okM_X11_readsScore 0) (Nat.le_of_ble_eq_true rfl) 400 ?_
      rw [at_X11_readsScore_0]
      repeat' (first
        | (with_reducible refine ev_rid ?_; simp (disch := first | omega | assumption) only [ev_run_c, ev_run_n, ev_fj, ev_stp, ev_lk, ev_fv, ev_as, ev_sz, ev_st1, ev_st2, ev_rm, ev_pk, ev_Jof, ev_go, lv_args, List.map_cons, List.map_nil, List.zip_cons_cons, List.zip_nil_left, List.zip_nil_right, List.nil_append, List.cons_append, ↓reduceIte, reduceCtorEq, Int.reduceToNat, Nat.reduceEqDiff, Nat.reduceAdd, Nat.reduceLT, Nat.reduceLeDiff, Nat.reduceMul, Nat.reduceSub, Value.category, false_implies, true_and, and_true, Bool.false_eq_true, Option.some.injEq, exists_eq_left', Option.toList_some, Option.toList_none, ev_km, ev_k2, ev_k3, ev_k4, ev_k5, ev_l0, ev_l1, sh_1, sh_2, sh_3, sh_4, sh_5, at_X11_readsScore_44, ca_X11_118, ca_X11_149, ca_X11_153, ca_X11_168, ca_X11_183, cd_X11_readsScore_0, cd_X11_readsScore_44, fl_X11_62, ev_b_23, ev_b_9, no_0, no_1, no_lt, no_le, no_eq, no_lt0, no_ge0, no_gt0, no_le0, no_eq0, no_0eq, no_eqm, no_meq, no_m0, no_mlt, no_mge, no_mgt, no_mm, no_i01, no_i10, no_in, no_or, no_ifm, no_mul, nI_add, no_sub, pk_div, iI_if, nI_clamp, oI_n, oI_s, not_true_eq_false, not_false_eq_true, forall_const, true_implies, false_and, and_false, or_false, false_or, Classical.not_not, true_or, or_true, no_b, no_eq1, eq_self, and_self, sk_301, sk_302, sl_302, sp_301, n0, w0, re_10, re_n, mw_re, f1, z1, p1, n1, w1, y, nx_n z2, nW_n z2, rN_n z2])
        | (with_reducible refine ev_gid ?_; simp (disch := first | omega | assumption) only [ev_run_c, ev_run_n, ev_fj, ev_stp, ev_lk, ev_fv, ev_as, ev_sz, ev_st1, ev_st2, ev_rm, ev_pk, ev_Jof, ev_go, lv_args, List.map_cons, List.map_nil, List.zip_cons_cons, List.zip_nil_left, List.zip_nil_right, List.nil_append, List.cons_append, ↓reduceIte, reduceCtorEq, Int.reduceToNat, Nat.reduceEqDiff, Nat.reduceAdd, Nat.reduceLT, Nat.reduceLeDiff, Nat.reduceMul, Nat.reduceSub, Value.category, false_implies, true_and, and_true, Bool.false_eq_true, Option.some.injEq, exists_eq_left', Option.toList_some, Option.toList_none, ev_km, ev_k2, ev_k3, ev_k4, ev_k5, ev_l0, ev_l1, sh_1, sh_2, sh_3, sh_4, sh_5, at_X11_readsScore_44, ca_X11_118, ca_X11_149, ca_X11_153, ca_X11_168, ca_X11_183, cd_X11_readsScore_0, cd_X11_readsScore_44, fl_X11_62, ev_b_23, ev_b_9, no_0, no_1, no_lt, no_le, no_eq, no_lt0, no_ge0, no_gt0, no_le0, no_eq0, no_0eq, no_eqm, no_meq, no_m0, no_mlt, no_mge, no_mgt, no_mm, no_i01, no_i10, no_in, no_or, no_ifm, no_mul, nI_add, no_sub, pk_div, iI_if, nI_clamp, oI_n, oI_s, not_true_eq_false, not_false_eq_true, forall_const, true_implies, false_and, and_false, or_false, false_or, Classical.not_not, true_or, or_true, no_b, no_eq1, eq_self, and_self, sk_301, sk_302, sl_302, sp_301, n0, w0, re_10, re_n, mw_re, f1, z1, p1, n1, w1, y, nx_n z2, nW_n z2, rN_n z2])
        | (with_reducible refine And.intro (fun q => ?_) (fun q => ?_) <;> (try simp (disch := first | omega | assumption) only [no_0, no_1, no_lt, no_le, no_eq, no_lt0, no_ge0, no_gt0, no_le0, no_eq0, no_0eq, no_eqm, no_meq, no_m0, no_mlt, no_mge, no_mgt, no_mm, no_i01, no_i10, no_in, no_or, no_ifm, no_mul, nI_add, no_sub, pk_div, iI_if, nI_clamp, oI_n, oI_s, not_true_eq_false, not_false_eq_true, forall_const, true_implies, false_and, and_false, or_false, false_or, Classical.not_not, true_or, or_true, no_b, no_eq1, eq_self, and_self, sk_301, sk_302, sl_302, sp_301, n0, w0, re_10, re_n, mw_re, f1, z1, p1, n1, w1, y, nx_n z2, nW_n z2, rN_n z2] at q))
        | (with_reducible refine ev_ci ht2 ?_)
        | with_reducible refine ev_ci (m_go hok (by first | with_reducible assumption | exact RB_mw (by with_reducible assumption)) ?_) ?_
        | with_reducible refine ev_ci (m_readPerson hok (by with_reducible assumption) (by with_reducible assumption) (by with_reducible assumption) ?_) ?_
        | with_reducible refine ev_ci (m_readNumber hok (by with_reducible assumption) ?_ (by with_reducible assumption) ?_ ?_) ?_
        | with_reducible refine ev_ci (m_X11_puts hok (by first | exact MR_re (by with_reducible assumption) | exact MR_re mw_R) ?_ ?_) ?_
        | omega
        | with_reducible assumption
        | with_reducible rfl
        | with_reducible refine lp_nx ?_ ?_ ?_ ?_
        | with_reducible refine lp_st ?_ ?_ ?_
        | with_reducible refine ls_c ?_ ?_
        | with_reducible refine vi_c ?_
        | with_reducible refine re_c ?_
        | with_reducible refine vz_c ?_
        | with_reducible refine rz_c ?_
        | exact trivial
        | with_reducible refine And.intro ?_ ?_
        | simp (disch := first | omega | assumption) only [ev_run_c, ev_run_n, ev_fj, ev_stp, ev_lk, ev_fv, ev_as, ev_sz, ev_st1, ev_st2, ev_rm, ev_pk, ev_Jof, ev_go, lv_args, List.map_cons, List.map_nil, List.zip_cons_cons, List.zip_nil_left, List.zip_nil_right, List.nil_append, List.cons_append, ↓reduceIte, reduceCtorEq, Int.reduceToNat, Nat.reduceEqDiff, Nat.reduceAdd, Nat.reduceLT, Nat.reduceLeDiff, Nat.reduceMul, Nat.reduceSub, Value.category, false_implies, true_and, and_true, Bool.false_eq_true, Option.some.injEq, exists_eq_left', Option.toList_some, Option.toList_none, ev_km, ev_k2, ev_k3, ev_k4, ev_k5, ev_l0, ev_l1, sh_1, sh_2, sh_3, sh_4, sh_5, at_X11_readsScore_44, ca_X11_118, ca_X11_149, ca_X11_153, ca_X11_168, ca_X11_183, cd_X11_readsScore_0, cd_X11_readsScore_44, fl_X11_62, ev_b_23, ev_b_9, no_0, no_1, no_lt, no_le, no_eq, no_lt0, no_ge0, no_gt0, no_le0, no_eq0, no_0eq, no_eqm, no_meq, no_m0, no_mlt, no_mge, no_mgt, no_mm, no_i01, no_i10, no_in, no_or, no_ifm, no_mul, nI_add, no_sub, pk_div, iI_if, nI_clamp, oI_n, oI_s, not_true_eq_false, not_false_eq_true, forall_const, true_implies, false_and, and_false, or_false, false_or, Classical.not_not, true_or, or_true, no_b, no_eq1, eq_self, and_self, sk_301, sk_302, sl_302, sp_301, n0, w0, re_10, re_n, mw_re, f1, z1, p1, n1, w1, y, nx_n z2, nW_n z2, rN_n z2]
        | exact rfl
        | (split <;> omega))
    · have z2 : e2.1 = 0 := Classical.byContradiction z2
      have g2 := z2
      rw [← f2] at g2
      have k2 := er_0 g2 (by decide)
      have s2 := nmc_0 (rN_0 k2.1).2.1
      have b2 : tvl B n (a + 1 + 1) < 10 := by omega
      have hb := (iv_q hI (tvl B n (a + 1 + 1)) b2).2.2
      have hs : sP N (tvl B n (a + 1 + 1)) (pv B n N (a + 1)) < N (952 + 9 * (tvl B n (a + 1 + 1)) + 5) := Classical.byContradiction k2.2.1
      rw [if_pos k2.1] at ht2
      have n2 : nx e2 (a + 1 + 1) = a + 1 + 1 + 1 := nx_0 z2
      have hv3 := NV_nx (B := B) (n := n) (e := e2) (a := a + 1 + 1) hv2
      rw [n2] at hv3
      generalize w2 : nW B n e2 (a + 1 + 1) v2 = v3 at hv3
      obtain ⟨e3, f3⟩ : ∃ e, rN B n e2 (a + 1 + 1 + 1) 1 10 = e := ⟨_, rfl⟩
      have c3 : e3.1 < 5 := by rw [← f3]; exact rN_c c2
      rw [f3]
      by_cases z3 : ¬ e3.1 = 0
      · have y : (e3.1 = 0) = False := eq_false z3
        refine ⟨a + 1 + 1 + 1, v3, μ, ?_, Fw_rf, hv3, fun q => absurd q z3⟩
        refine ev_tri hok (okM_X11_readsScore 0) (Nat.le_of_ble_eq_true rfl) 400 ?_
        rw [at_X11_readsScore_0]
        repeat' (first
          | (with_reducible refine ev_rid ?_; simp (disch := first | omega | assumption) only [ev_run_c, ev_run_n, ev_fj, ev_stp, ev_lk, ev_fv, ev_as, ev_sz, ev_st1, ev_st2, ev_rm, ev_pk, ev_Jof, ev_go, lv_args, List.map_cons, List.map_nil, List.zip_cons_cons, List.zip_nil_left, List.zip_nil_right, List.nil_append, List.cons_append, ↓reduceIte, reduceCtorEq, Int.reduceToNat, Nat.reduceEqDiff, Nat.reduceAdd, Nat.reduceLT, Nat.reduceLeDiff, Nat.reduceMul, Nat.reduceSub, Value.category, false_implies, true_and, and_true, Bool.false_eq_true, Option.some.injEq, exists_eq_left', Option.toList_some, Option.toList_none, ev_km, ev_k2, ev_k3, ev_k4, ev_k5, ev_l0, ev_l1, sh_1, sh_2, sh_3, sh_4, sh_5, at_X11_readsScore_44, ca_X11_118, ca_X11_149, ca_X11_153, ca_X11_168, ca_X11_183, cd_X11_readsScore_0, cd_X11_readsScore_44, fl_X11_62, ev_b_23, ev_b_9, no_0, no_1, no_lt, no_le, no_eq, no_lt0, no_ge0, no_gt0, no_le0, no_eq0, no_0eq, no_eqm, no_meq, no_m0, no_mlt, no_mge, no_mgt, no_mm, no_i01, no_i10, no_in, no_or, no_ifm, no_mul, nI_add, no_sub, pk_div, iI_if, nI_clamp, oI_n, oI_s, not_true_eq_false, not_false_eq_true, forall_const, true_implies, false_and, and_false, or_false, false_or, Classical.not_not, true_or, or_true, no_b, no_eq1, eq_self, and_self, sk_301, sk_302, sl_302, sp_301, n0, w0, re_10, re_n, mw_re, f1, z1, p1, n1, w1, z2, n2, w2, f3, y, nx_n z3, nW_n z3])
          | (with_reducible refine ev_gid ?_; simp (disch := first | omega | assumption) only [ev_run_c, ev_run_n, ev_fj, ev_stp, ev_lk, ev_fv, ev_as, ev_sz, ev_st1, ev_st2, ev_rm, ev_pk, ev_Jof, ev_go, lv_args, List.map_cons, List.map_nil, List.zip_cons_cons, List.zip_nil_left, List.zip_nil_right, List.nil_append, List.cons_append, ↓reduceIte, reduceCtorEq, Int.reduceToNat, Nat.reduceEqDiff, Nat.reduceAdd, Nat.reduceLT, Nat.reduceLeDiff, Nat.reduceMul, Nat.reduceSub, Value.category, false_implies, true_and, and_true, Bool.false_eq_true, Option.some.injEq, exists_eq_left', Option.toList_some, Option.toList_none, ev_km, ev_k2, ev_k3, ev_k4, ev_k5, ev_l0, ev_l1, sh_1, sh_2, sh_3, sh_4, sh_5, at_X11_readsScore_44, ca_X11_118, ca_X11_149, ca_X11_153, ca_X11_168, ca_X11_183, cd_X11_readsScore_0, cd_X11_readsScore_44, fl_X11_62, ev_b_23, ev_b_9, no_0, no_1, no_lt, no_le, no_eq, no_lt0, no_ge0, no_gt0, no_le0, no_eq0, no_0eq, no_eqm, no_meq, no_m0, no_mlt, no_mge, no_mgt, no_mm, no_i01, no_i10, no_in, no_or, no_ifm, no_mul, nI_add, no_sub, pk_div, iI_if, nI_clamp, oI_n, oI_s, not_true_eq_false, not_false_eq_true, forall_const, true_implies, false_and, and_false, or_false, false_or, Classical.not_not, true_or, or_true, no_b, no_eq1, eq_self, and_self, sk_301, sk_302, sl_302, sp_301, n0, w0, re_10, re_n, mw_re, f1, z1, p1, n1, w1, z2, n2, w2, f3, y, nx_n z3, nW_n z3])
          | (with_reducible refine And.intro (fun q => ?_) (fun q => ?_) <;> (try simp (disch := first | omega | assumption) only [no_0, no_1, no_lt, no_le, no_eq, no_lt0, no_ge0, no_gt0, no_le0, no_eq0, no_0eq, no_eqm, no_meq, no_m0, no_mlt, no_mge, no_mgt, no_mm, no_i01, no_i10, no_in, no_or, no_ifm, no_mul, nI_add, no_sub, pk_div, iI_if, nI_clamp, oI_n, oI_s, not_true_eq_false, not_false_eq_true, forall_const, true_implies, false_and, and_false, or_false, false_or, Classical.not_not, true_or, or_true, no_b, no_eq1, eq_self, and_self, sk_301, sk_302, sl_302, sp_301, n0, w0, re_10, re_n, mw_re, f1, z1, p1, n1, w1, z2, n2, w2, f3, y, nx_n z3, nW_n z3] at q))
          | (with_reducible refine ev_ci ht2 ?_)
          | with_reducible refine ev_ci (m_go hok (by first | with_reducible assumption | exact RB_mw (by with_reducible assumption)) ?_) ?_
          | with_reducible refine ev_ci (m_readPerson hok (by with_reducible assumption) (by with_reducible assumption) (by with_reducible assumption) ?_) ?_
          | with_reducible refine ev_ci (m_readNumber hok (by with_reducible assumption) ?_ (by with_reducible assumption) ?_ ?_) ?_
          | with_reducible refine ev_ci (m_X11_puts hok (by first | exact MR_re (by with_reducible assumption) | exact MR_re mw_R) ?_ ?_) ?_
          | omega
          | with_reducible assumption
          | with_reducible rfl
          | with_reducible refine lp_nx ?_ ?_ ?_ ?_
          | with_reducible refine lp_st ?_ ?_ ?_
          | with_reducible refine ls_c ?_ ?_
          | with_reducible refine vi_c ?_
          | with_reducible refine re_c ?_
          | with_reducible refine vz_c ?_
          | with_reducible refine rz_c ?_
          | exact trivial
          | with_reducible refine And.intro ?_ ?_
          | simp (disch := first | omega | assumption) only [ev_run_c, ev_run_n, ev_fj, ev_stp, ev_lk, ev_fv, ev_as, ev_sz, ev_st1, ev_st2, ev_rm, ev_pk, ev_Jof, ev_go, lv_args, List.map_cons, List.map_nil, List.zip_cons_cons, List.zip_nil_left, List.zip_nil_right, List.nil_append, List.cons_append, ↓reduceIte, reduceCtorEq, Int.reduceToNat, Nat.reduceEqDiff, Nat.reduceAdd, Nat.reduceLT, Nat.reduceLeDiff, Nat.reduceMul, Nat.reduceSub, Value.category, false_implies, true_and, and_true, Bool.false_eq_true, Option.some.injEq, exists_eq_left', Option.toList_some, Option.toList_none, ev_km, ev_k2, ev_k3, ev_k4, ev_k5, ev_l0, ev_l1, sh_1, sh_2, sh_3, sh_4, sh_5, at_X11_readsScore_44, ca_X11_118, ca_X11_149, ca_X11_153, ca_X11_168, ca_X11_183, cd_X11_readsScore_0, cd_X11_readsScore_44, fl_X11_62, ev_b_23, ev_b_9, no_0, no_1, no_lt, no_le, no_eq, no_lt0, no_ge0, no_gt0, no_le0, no_eq0, no_0eq, no_eqm, no_meq, no_m0, no_mlt, no_mge, no_mgt, no_mm, no_i01, no_i10, no_in, no_or, no_ifm, no_mul, nI_add, no_sub, pk_div, iI_if, nI_clamp, oI_n, oI_s, not_true_eq_false, not_false_eq_true, forall_const, true_implies, false_and, and_false, or_false, false_or, Classical.not_not, true_or, or_true, no_b, no_eq1, eq_self, and_self, sk_301, sk_302, sl_302, sp_301, n0, w0, re_10, re_n, mw_re, f1, z1, p1, n1, w1, z2, n2, w2, f3, y, nx_n z3, nW_n z3]
          | exact rfl
          | (split <;> omega))
      · have z3 : e3.1 = 0 := Classical.byContradiction z3
        have g3 := z3
        rw [← f3] at g3
        have s3 := nmc_0 (rN_0 g3).2.1
        have n3 : nx e3 (a + 1 + 1 + 1) = a + 1 + 1 + 1 + 1 := nx_0 z3
        have hv4 := NV_nx (B := B) (n := n) (e := e3) (a := a + 1 + 1 + 1) hv3
        rw [n3] at hv4
        generalize w3 : nW B n e3 (a + 1 + 1 + 1) v3 = v4 at hv4
        refine ⟨a + 1 + 1 + 1 + 1, v4, mw μ (up N (8 + 59 * (pv B n N (a + 1)) + (23 + tvl B n (a + 1 + 1))) (tvl B n (a + 1 + 1 + 1))), ?_, Fw_mw, hv4, fun _ => ⟨rfl, mw_R⟩⟩
        refine ev_tri hok (okM_X11_readsScore 0) (Nat.le_of_ble_eq_true rfl) 400 ?_
        rw [at_X11_readsScore_0]
        repeat' (first
          | (with_reducible refine ev_rid ?_; simp (disch := first | omega | assumption) only [ev_run_c, ev_run_n, ev_fj, ev_stp, ev_lk, ev_fv, ev_as, ev_sz, ev_st1, ev_st2, ev_rm, ev_pk, ev_Jof, ev_go, lv_args, List.map_cons, List.map_nil, List.zip_cons_cons, List.zip_nil_left, List.zip_nil_right, List.nil_append, List.cons_append, ↓reduceIte, reduceCtorEq, Int.reduceToNat, Nat.reduceEqDiff, Nat.reduceAdd, Nat.reduceLT, Nat.reduceLeDiff, Nat.reduceMul, Nat.reduceSub, Value.category, false_implies, true_and, and_true, Bool.false_eq_true, Option.some.injEq, exists_eq_left', Option.toList_some, Option.toList_none, ev_km, ev_k2, ev_k3, ev_k4, ev_k5, ev_l0, ev_l1, sh_1, sh_2, sh_3, sh_4, sh_5, at_X11_readsScore_44, ca_X11_118, ca_X11_149, ca_X11_153, ca_X11_168, ca_X11_183, cd_X11_readsScore_0, cd_X11_readsScore_44, fl_X11_62, ev_b_23, ev_b_9, no_0, no_1, no_lt, no_le, no_eq, no_lt0, no_ge0, no_gt0, no_le0, no_eq0, no_0eq, no_eqm, no_meq, no_m0, no_mlt, no_mge, no_mgt, no_mm, no_i01, no_i10, no_in, no_or, no_ifm, no_mul, nI_add, no_sub, pk_div, iI_if, nI_clamp, oI_n, oI_s, not_true_eq_false, not_false_eq_true, forall_const, true_implies, false_and, and_false, or_false, false_or, Classical.not_not, true_or, or_true, no_b, no_eq1, eq_self, and_self, sk_301, sk_302, sl_302, sp_301, n0, w0, re_10, re_n, mw_re, mw_mw, f1, z1, p1, n1, w1, z2, n2, w2, f3, z3, n3, w3])
          | (with_reducible refine ev_gid ?_; simp (disch := first | omega | assumption) only [ev_run_c, ev_run_n, ev_fj, ev_stp, ev_lk, ev_fv, ev_as, ev_sz, ev_st1, ev_st2, ev_rm, ev_pk, ev_Jof, ev_go, lv_args, List.map_cons, List.map_nil, List.zip_cons_cons, List.zip_nil_left, List.zip_nil_right, List.nil_append, List.cons_append, ↓reduceIte, reduceCtorEq, Int.reduceToNat, Nat.reduceEqDiff, Nat.reduceAdd, Nat.reduceLT, Nat.reduceLeDiff, Nat.reduceMul, Nat.reduceSub, Value.category, false_implies, true_and, and_true, Bool.false_eq_true, Option.some.injEq, exists_eq_left', Option.toList_some, Option.toList_none, ev_km, ev_k2, ev_k3, ev_k4, ev_k5, ev_l0, ev_l1, sh_1, sh_2, sh_3, sh_4, sh_5, at_X11_readsScore_44, ca_X11_118, ca_X11_149, ca_X11_153, ca_X11_168, ca_X11_183, cd_X11_readsScore_0, cd_X11_readsScore_44, fl_X11_62, ev_b_23, ev_b_9, no_0, no_1, no_lt, no_le, no_eq, no_lt0, no_ge0, no_gt0, no_le0, no_eq0, no_0eq, no_eqm, no_meq, no_m0, no_mlt, no_mge, no_mgt, no_mm, no_i01, no_i10, no_in, no_or, no_ifm, no_mul, nI_add, no_sub, pk_div, iI_if, nI_clamp, oI_n, oI_s, not_true_eq_false, not_false_eq_true, forall_const, true_implies, false_and, and_false, or_false, false_or, Classical.not_not, true_or, or_true, no_b, no_eq1, eq_self, and_self, sk_301, sk_302, sl_302, sp_301, n0, w0, re_10, re_n, mw_re, mw_mw, f1, z1, p1, n1, w1, z2, n2, w2, f3, z3, n3, w3])
          | (with_reducible refine And.intro (fun q => ?_) (fun q => ?_) <;> (try simp (disch := first | omega | assumption) only [no_0, no_1, no_lt, no_le, no_eq, no_lt0, no_ge0, no_gt0, no_le0, no_eq0, no_0eq, no_eqm, no_meq, no_m0, no_mlt, no_mge, no_mgt, no_mm, no_i01, no_i10, no_in, no_or, no_ifm, no_mul, nI_add, no_sub, pk_div, iI_if, nI_clamp, oI_n, oI_s, not_true_eq_false, not_false_eq_true, forall_const, true_implies, false_and, and_false, or_false, false_or, Classical.not_not, true_or, or_true, no_b, no_eq1, eq_self, and_self, sk_301, sk_302, sl_302, sp_301, n0, w0, re_10, re_n, mw_re, mw_mw, f1, z1, p1, n1, w1, z2, n2, w2, f3, z3, n3, w3] at q))
          | (with_reducible refine ev_ci ht2 ?_)
          | with_reducible refine ev_ci (m_go hok (by first | with_reducible assumption | exact RB_mw (by with_reducible assumption)) ?_) ?_
          | with_reducible refine ev_ci (m_readPerson hok (by with_reducible assumption) (by with_reducible assumption) (by with_reducible assumption) ?_) ?_
          | with_reducible refine ev_ci (m_readNumber hok (by with_reducible assumption) ?_ (by with_reducible assumption) ?_ ?_) ?_
          | with_reducible refine ev_ci (m_X11_puts hok (by first | exact MR_re (by with_reducible assumption) | exact MR_re mw_R) ?_ ?_) ?_
          | omega
          | with_reducible assumption
          | with_reducible rfl
          | with_reducible refine lp_nx ?_ ?_ ?_ ?_
          | with_reducible refine lp_st ?_ ?_ ?_
          | with_reducible refine ls_c ?_ ?_
          | with_reducible refine vi_c ?_
          | with_reducible refine re_c ?_
          | with_reducible refine vz_c ?_
          | with_reducible refine rz_c ?_
          | exact trivial
          | with_reducible refine And.intro ?_ ?_
          | simp (disch := first | omega | assumption) only [ev_run_c, ev_run_n, ev_fj, ev_stp, ev_lk, ev_fv, ev_as, ev_sz, ev_st1, ev_st2, ev_rm, ev_pk, ev_Jof, ev_go, lv_args, List.map_cons, List.map_nil, List.zip_cons_cons, List.zip_nil_left, List.zip_nil_right, List.nil_append, List.cons_append, ↓reduceIte, reduceCtorEq, Int.reduceToNat, Nat.reduceEqDiff, Nat.reduceAdd, Nat.reduceLT, Nat.reduceLeDiff, Nat.reduceMul, Nat.reduceSub, Value.category, false_implies, true_and, and_true, Bool.false_eq_true, Option.some.injEq, exists_eq_left', Option.toList_some, Option.toList_none, ev_km, ev_k2, ev_k3, ev_k4, ev_k5, ev_l0, ev_l1, sh_1, sh_2, sh_3, sh_4, sh_5, at_X11_readsScore_44, ca_X11_118, ca_X11_149, ca_X11_153, ca_X11_168, ca_X11_183, cd_X11_readsScore_0, cd_X11_readsScore_44, fl_X11_62, ev_b_23, ev_b_9, no_0, no_1, no_lt, no_le, no_eq, no_lt0, no_ge0, no_gt0, no_le0, no_eq0, no_0eq, no_eqm, no_meq, no_m0, no_mlt, no_mge, no_mgt, no_mm, no_i01, no_i10, no_in, no_or, no_ifm, no_mul, nI_add, no_sub, pk_div, iI_if, nI_clamp, oI_n, oI_s, not_true_eq_false, not_false_eq_true, forall_const, true_implies, false_and, and_false, or_false, false_or, Classical.not_not, true_or, or_true, no_b, no_eq1, eq_self, and_self, sk_301, sk_302, sl_302, sp_301, n0, w0, re_10, re_n, mw_re, mw_mw, f1, z1, p1, n1, w1, z2, n2, w2, f3, z3, n3, w3]
          | exact rfl
          | (split <;> omega))
set_option maxHeartbeats 2000000 in
theorem rx_talk (hok : ev_ok sh_S G) (hR : RB B n μ) (hN : MR N μ) (hI : INV N) {a : Nat} {v : Int32} (hv : NV B n a v) : RX G B n mi_X11_readsTalk a v μ (q_talk B n N (a + 1)) (nI9 B n N a 11) (aI9 B n N a 11) := by
  have hh := iv_h hI
  have hN1 : N 1 ≤ 10 := hh.2.1
  have n0 : nx (0, -1) a = a + 1 := rfl
  have hv1 := NV_nx (B := B) (n := n) (e := (0, -1)) (a := a) hv
  rw [n0] at hv1
  generalize w0 : nW B n (0, -1) a v = v1 at hv1
  obtain ⟨e1, f1⟩ : ∃ e, rN B n (0, -1) (a + 1) 0 (N 1) = e := ⟨_, rfl⟩
  have c1 : e1.1 < 5 := by rw [← f1]; exact rN_c (by decide)
  have hq : q_talk B n N (a + 1) = er e1 (scs N (tvl B n (a + 1)) (N 0) < 2) 4 (a + 1) B n := by rw [← f1]; rfl
  rw [hq]
  by_cases z1 : ¬ e1.1 = 0
  · have y : (e1.1 = 0) = False := eq_false z1
    try simp only [rN_n z1, rP_n z1, er_n z1]
    refine ⟨a + 1, v1, μ, ?_, Fw_rf, hv1, fun q => absurd q z1⟩
    refine ev_tri hok (okM_X11_readsTalk 0) (Nat.le_of_ble_eq_true rfl) 400 ?_
    rw [at_X11_readsTalk_0]
    repeat' (first
      | (with_reducible refine ev_rid ?_; simp (disch := first | omega | assumption) only [ev_run_c, ev_run_n, ev_fj, ev_stp, ev_lk, ev_fv, ev_as, ev_sz, ev_st1, ev_st2, ev_rm, ev_pk, ev_Jof, ev_go, lv_args, List.map_cons, List.map_nil, List.zip_cons_cons, List.zip_nil_left, List.zip_nil_right, List.nil_append, List.cons_append, ↓reduceIte, reduceCtorEq, Int.reduceToNat, Nat.reduceEqDiff, Nat.reduceAdd, Nat.reduceLT, Nat.reduceLeDiff, Nat.reduceMul, Nat.reduceSub, Value.category, false_implies, true_and, and_true, Bool.false_eq_true, Option.some.injEq, exists_eq_left', Option.toList_some, Option.toList_none, ev_km, ev_k2, ev_k3, ev_k4, ev_k5, ev_l0, ev_l1, sh_1, sh_2, sh_3, sh_4, sh_5, at_X11_readsTalk_30, at_X11_readsTalk_31, at_X11_readsTalk_45, at_X11_readsTalk_50, ca_X11_118, ca_X11_143, ca_X11_146, ca_X11_189, ca_X11_192, cd_X11_readsTalk_0, cd_X11_readsTalk_30, cd_X11_readsTalk_31, cd_X11_readsTalk_45, cd_X11_readsTalk_50, fl_X11_62, no_0, no_1, no_lt, no_le, no_eq, no_lt0, no_ge0, no_gt0, no_le0, no_eq0, no_0eq, no_eqm, no_meq, no_m0, no_mlt, no_mge, no_mgt, no_mm, no_i01, no_i10, no_in, no_or, no_ifm, no_mul, nI_add, no_sub, pk_div, iI_if, nI_clamp, oI_n, oI_s, not_true_eq_false, not_false_eq_true, forall_const, true_implies, false_and, and_false, or_false, false_or, Classical.not_not, true_or, or_true, no_b, no_eq1, eq_self, and_self, sk_301, sk_302, sl_302, sp_301, n0, w0, re_10, re_n, mw_re, f1, y, rN_n z1, rP_n z1, rT_n z1, er_n z1, nx_n z1, nW_n z1])
      | (with_reducible refine ev_gid ?_; simp (disch := first | omega | assumption) only [ev_run_c, ev_run_n, ev_fj, ev_stp, ev_lk, ev_fv, ev_as, ev_sz, ev_st1, ev_st2, ev_rm, ev_pk, ev_Jof, ev_go, lv_args, List.map_cons, List.map_nil, List.zip_cons_cons, List.zip_nil_left, List.zip_nil_right, List.nil_append, List.cons_append, ↓reduceIte, reduceCtorEq, Int.reduceToNat, Nat.reduceEqDiff, Nat.reduceAdd, Nat.reduceLT, Nat.reduceLeDiff, Nat.reduceMul, Nat.reduceSub, Value.category, false_implies, true_and, and_true, Bool.false_eq_true, Option.some.injEq, exists_eq_left', Option.toList_some, Option.toList_none, ev_km, ev_k2, ev_k3, ev_k4, ev_k5, ev_l0, ev_l1, sh_1, sh_2, sh_3, sh_4, sh_5, at_X11_readsTalk_30, at_X11_readsTalk_31, at_X11_readsTalk_45, at_X11_readsTalk_50, ca_X11_118, ca_X11_143, ca_X11_146, ca_X11_189, ca_X11_192, cd_X11_readsTalk_0, cd_X11_readsTalk_30, cd_X11_readsTalk_31, cd_X11_readsTalk_45, cd_X11_readsTalk_50, fl_X11_62, no_0, no_1, no_lt, no_le, no_eq, no_lt0, no_ge0, no_gt0, no_le0, no_eq0, no_0eq, no_eqm, no_meq, no_m0, no_mlt, no_mge, no_mgt, no_mm, no_i01, no_i10, no_in, no_or, no_ifm, no_mul, nI_add, no_sub, pk_div, iI_if, nI_clamp, oI_n, oI_s, not_true_eq_false, not_false_eq_true, forall_const, true_implies, false_and, and_false, or_false, false_or, Classical.not_not, true_or, or_true, no_b, no_eq1, eq_self, and_self, sk_301, sk_302, sl_302, sp_301, n0, w0, re_10, re_n, mw_re, f1, y, rN_n z1, rP_n z1, rT_n z1, er_n z1, nx_n z1, nW_n z1])
      | (with_reducible refine And.intro (fun q => ?_) (fun q => ?_) <;> (try simp (disch := first | omega | assumption) only [no_0, no_1, no_lt, no_le, no_eq, no_lt0, no_ge0, no_gt0, no_le0, no_eq0, no_0eq, no_eqm, no_meq, no_m0, no_mlt, no_mge, no_mgt, no_mm, no_i01, no_i10, no_in, no_or, no_ifm, no_mul, nI_add, no_sub, pk_div, iI_if, nI_clamp, oI_n, oI_s, not_true_eq_false, not_false_eq_true, forall_const, true_implies, false_and, and_false, or_false, false_or, Classical.not_not, true_or, or_true, no_b, no_eq1, eq_self, and_self, sk_301, sk_302, sl_302, sp_301, n0, w0, re_10, re_n, mw_re, f1, y, rN_n z1, rP_n z1, rT_n z1, er_n z1, nx_n z1, nW_n z1] at q))
      | with_reducible refine ev_ci (m_go hok (by first | with_reducible assumption | exact RB_mw (by with_reducible assumption)) ?_) ?_
      | with_reducible refine ev_ci (m_pancakeHere hok (by with_reducible assumption) ?_ (by with_reducible assumption) (by with_reducible assumption)) ?_
      | with_reducible refine ev_ci (m_X11_scores hok (by first | exact MR_re (by with_reducible assumption) | exact MR_re mw_R) (by with_reducible assumption) ?_) ?_
      | with_reducible refine ev_ci (m_limits1 hok ?_) ?_
      | with_reducible refine ev_ci (m_limits0 hok ?_) ?_
      | with_reducible refine ev_ci (m_X11_talks hok (by first | exact MR_re (by with_reducible assumption) | exact MR_re mw_R) (by with_reducible assumption) ?_ ?_) ?_
      | omega
      | with_reducible assumption
      | with_reducible rfl
      | with_reducible refine lp_nx ?_ ?_ ?_ ?_
      | with_reducible refine lp_st ?_ ?_ ?_
      | with_reducible refine ls_c ?_ ?_
      | with_reducible refine vi_c ?_
      | with_reducible refine re_c ?_
      | with_reducible refine vz_c ?_
      | with_reducible refine rz_c ?_
      | exact trivial
      | with_reducible refine And.intro ?_ ?_
      | simp (disch := first | omega | assumption) only [ev_run_c, ev_run_n, ev_fj, ev_stp, ev_lk, ev_fv, ev_as, ev_sz, ev_st1, ev_st2, ev_rm, ev_pk, ev_Jof, ev_go, lv_args, List.map_cons, List.map_nil, List.zip_cons_cons, List.zip_nil_left, List.zip_nil_right, List.nil_append, List.cons_append, ↓reduceIte, reduceCtorEq, Int.reduceToNat, Nat.reduceEqDiff, Nat.reduceAdd, Nat.reduceLT, Nat.reduceLeDiff, Nat.reduceMul, Nat.reduceSub, Value.category, false_implies, true_and, and_true, Bool.false_eq_true, Option.some.injEq, exists_eq_left', Option.toList_some, Option.toList_none, ev_km, ev_k2, ev_k3, ev_k4, ev_k5, ev_l0, ev_l1, sh_1, sh_2, sh_3, sh_4, sh_5, at_X11_readsTalk_30, at_X11_readsTalk_31, at_X11_readsTalk_45, at_X11_readsTalk_50, ca_X11_118, ca_X11_143, ca_X11_146, ca_X11_189, ca_X11_192, cd_X11_readsTalk_0, cd_X11_readsTalk_30, cd_X11_readsTalk_31, cd_X11_readsTalk_45, cd_X11_readsTalk_50, fl_X11_62, no_0, no_1, no_lt, no_le, no_eq, no_lt0, no_ge0, no_gt0, no_le0, no_eq0, no_0eq, no_eqm, no_meq, no_m0, no_mlt, no_mge, no_mgt, no_mm, no_i01, no_i10, no_in, no_or, no_ifm, no_mul, nI_add, no_sub, pk_div, iI_if, nI_clamp, oI_n, oI_s, not_true_eq_false, not_false_eq_true, forall_const, true_implies, false_and, and_false, or_false, false_or, Classical.not_not, true_or, or_true, no_b, no_eq1, eq_self, and_self, sk_301, sk_302, sl_302, sp_301, n0, w0, re_10, re_n, mw_re, f1, y, rN_n z1, rP_n z1, rT_n z1, er_n z1, nx_n z1, nW_n z1]
      | exact rfl
      | (split <;> omega))
  · have z1 : e1.1 = 0 := Classical.byContradiction z1
    have g1 := z1
    rw [← f1] at g1
    have s1 := nmc_0 (rN_0 g1).2.1
    have b1 : tvl B n (a + 1) < 10 := by omega
    have hx := scs_le N (tvl B n (a + 1)) (N 0)
    by_cases hc : scs N (tvl B n (a + 1)) (N 0) < 2
    · rw [er_True hc]
      obtain ⟨e9, f9⟩ : ∃ e, er e1 True 4 (a + 1) B n = e := ⟨_, rfl⟩
      have c9 : e9.1 < 5 := by rw [← f9]; exact er_c c1 (by decide)
      have z9 : ¬ e9.1 = 0 := by rw [← f9, er_T z1]; exact Nat.succ_ne_zero _
      have y : (e9.1 = 0) = False := eq_false z9
      rw [f9]
      refine ⟨a + 1, v1, μ, ?_, Fw_rf, hv1, fun q => absurd q z9⟩
      refine ev_tri hok (okM_X11_readsTalk 0) (Nat.le_of_ble_eq_true rfl) 400 ?_
      rw [at_X11_readsTalk_0]
      repeat' (first
        | (with_reducible refine ev_rid ?_; simp (disch := first | omega | assumption) only [ev_run_c, ev_run_n, ev_fj, ev_stp, ev_lk, ev_fv, ev_as, ev_sz, ev_st1, ev_st2, ev_rm, ev_pk, ev_Jof, ev_go, lv_args, List.map_cons, List.map_nil, List.zip_cons_cons, List.zip_nil_left, List.zip_nil_right, List.nil_append, List.cons_append, ↓reduceIte, reduceCtorEq, Int.reduceToNat, Nat.reduceEqDiff, Nat.reduceAdd, Nat.reduceLT, Nat.reduceLeDiff, Nat.reduceMul, Nat.reduceSub, Value.category, false_implies, true_and, and_true, Bool.false_eq_true, Option.some.injEq, exists_eq_left', Option.toList_some, Option.toList_none, ev_km, ev_k2, ev_k3, ev_k4, ev_k5, ev_l0, ev_l1, sh_1, sh_2, sh_3, sh_4, sh_5, at_X11_readsTalk_30, at_X11_readsTalk_31, at_X11_readsTalk_45, at_X11_readsTalk_50, ca_X11_118, ca_X11_143, ca_X11_146, ca_X11_189, ca_X11_192, cd_X11_readsTalk_0, cd_X11_readsTalk_30, cd_X11_readsTalk_31, cd_X11_readsTalk_45, cd_X11_readsTalk_50, fl_X11_62, no_0, no_1, no_lt, no_le, no_eq, no_lt0, no_ge0, no_gt0, no_le0, no_eq0, no_0eq, no_eqm, no_meq, no_m0, no_mlt, no_mge, no_mgt, no_mm, no_i01, no_i10, no_in, no_or, no_ifm, no_mul, nI_add, no_sub, pk_div, iI_if, nI_clamp, oI_n, oI_s, not_true_eq_false, not_false_eq_true, forall_const, true_implies, false_and, and_false, or_false, false_or, Classical.not_not, true_or, or_true, no_b, no_eq1, eq_self, and_self, sk_301, sk_302, sl_302, sp_301, n0, w0, re_10, re_n, mw_re, f1, z1, f9, y, nx_n z9, nW_n z9])
        | (with_reducible refine ev_gid ?_; simp (disch := first | omega | assumption) only [ev_run_c, ev_run_n, ev_fj, ev_stp, ev_lk, ev_fv, ev_as, ev_sz, ev_st1, ev_st2, ev_rm, ev_pk, ev_Jof, ev_go, lv_args, List.map_cons, List.map_nil, List.zip_cons_cons, List.zip_nil_left, List.zip_nil_right, List.nil_append, List.cons_append, ↓reduceIte, reduceCtorEq, Int.reduceToNat, Nat.reduceEqDiff, Nat.reduceAdd, Nat.reduceLT, Nat.reduceLeDiff, Nat.reduceMul, Nat.reduceSub, Value.category, false_implies, true_and, and_true, Bool.false_eq_true, Option.some.injEq, exists_eq_left', Option.toList_some, Option.toList_none, ev_km, ev_k2, ev_k3, ev_k4, ev_k5, ev_l0, ev_l1, sh_1, sh_2, sh_3, sh_4, sh_5, at_X11_readsTalk_30, at_X11_readsTalk_31, at_X11_readsTalk_45, at_X11_readsTalk_50, ca_X11_118, ca_X11_143, ca_X11_146, ca_X11_189, ca_X11_192, cd_X11_readsTalk_0, cd_X11_readsTalk_30, cd_X11_readsTalk_31, cd_X11_readsTalk_45, cd_X11_readsTalk_50, fl_X11_62, no_0, no_1, no_lt, no_le, no_eq, no_lt0, no_ge0, no_gt0, no_le0, no_eq0, no_0eq, no_eqm, no_meq, no_m0, no_mlt, no_mge, no_mgt, no_mm, no_i01, no_i10, no_in, no_or, no_ifm, no_mul, nI_add, no_sub, pk_div, iI_if, nI_clamp, oI_n, oI_s, not_true_eq_false, not_false_eq_true, forall_const, true_implies, false_and, and_false, or_false, false_or, Classical.not_not, true_or, or_true, no_b, no_eq1, eq_self, and_self, sk_301, sk_302, sl_302, sp_301, n0, w0, re_10, re_n, mw_re, f1, z1, f9, y, nx_n z9, nW_n z9])
        | (with_reducible refine And.intro (fun q => ?_) (fun q => ?_) <;> (try simp (disch := first | omega | assumption) only [no_0, no_1, no_lt, no_le, no_eq, no_lt0, no_ge0, no_gt0, no_le0, no_eq0, no_0eq, no_eqm, no_meq, no_m0, no_mlt, no_mge, no_mgt, no_mm, no_i01, no_i10, no_in, no_or, no_ifm, no_mul, nI_add, no_sub, pk_div, iI_if, nI_clamp, oI_n, oI_s, not_true_eq_false, not_false_eq_true, forall_const, true_implies, false_and, and_false, or_false, false_or, Classical.not_not, true_or, or_true, no_b, no_eq1, eq_self, and_self, sk_301, sk_302, sl_302, sp_301, n0, w0, re_10, re_n, mw_re, f1, z1, f9, y, nx_n z9, nW_n z9] at q))
        | with_reducible refine ev_ci (m_go hok (by first | with_reducible assumption | exact RB_mw (by with_reducible assumption)) ?_) ?_
        | with_reducible refine ev_ci (m_pancakeHere hok (by with_reducible assumption) ?_ (by with_reducible assumption) (by with_reducible assumption)) ?_
        | with_reducible refine ev_ci (m_X11_scores hok (by first | exact MR_re (by with_reducible assumption) | exact MR_re mw_R) (by with_reducible assumption) ?_) ?_
        | with_reducible refine ev_ci (m_limits1 hok ?_) ?_
        | with_reducible refine ev_ci (m_limits0 hok ?_) ?_
        | with_reducible refine ev_ci (m_X11_talks hok (by first | exact MR_re (by with_reducible assumption) | exact MR_re mw_R) (by with_reducible assumption) ?_ ?_) ?_
        | omega
        | with_reducible assumption
        | with_reducible rfl
        | with_reducible refine lp_nx ?_ ?_ ?_ ?_
        | with_reducible refine lp_st ?_ ?_ ?_
        | with_reducible refine ls_c ?_ ?_
        | with_reducible refine vi_c ?_
        | with_reducible refine re_c ?_
        | with_reducible refine vz_c ?_
        | with_reducible refine rz_c ?_
        | exact trivial
        | with_reducible refine And.intro ?_ ?_
        | simp (disch := first | omega | assumption) only [ev_run_c, ev_run_n, ev_fj, ev_stp, ev_lk, ev_fv, ev_as, ev_sz, ev_st1, ev_st2, ev_rm, ev_pk, ev_Jof, ev_go, lv_args, List.map_cons, List.map_nil, List.zip_cons_cons, List.zip_nil_left, List.zip_nil_right, List.nil_append, List.cons_append, ↓reduceIte, reduceCtorEq, Int.reduceToNat, Nat.reduceEqDiff, Nat.reduceAdd, Nat.reduceLT, Nat.reduceLeDiff, Nat.reduceMul, Nat.reduceSub, Value.category, false_implies, true_and, and_true, Bool.false_eq_true, Option.some.injEq, exists_eq_left', Option.toList_some, Option.toList_none, ev_km, ev_k2, ev_k3, ev_k4, ev_k5, ev_l0, ev_l1, sh_1, sh_2, sh_3, sh_4, sh_5, at_X11_readsTalk_30, at_X11_readsTalk_31, at_X11_readsTalk_45, at_X11_readsTalk_50, ca_X11_118, ca_X11_143, ca_X11_146, ca_X11_189, ca_X11_192, cd_X11_readsTalk_0, cd_X11_readsTalk_30, cd_X11_readsTalk_31, cd_X11_readsTalk_45, cd_X11_readsTalk_50, fl_X11_62, no_0, no_1, no_lt, no_le, no_eq, no_lt0, no_ge0, no_gt0, no_le0, no_eq0, no_0eq, no_eqm, no_meq, no_m0, no_mlt, no_mge, no_mgt, no_mm, no_i01, no_i10, no_in, no_or, no_ifm, no_mul, nI_add, no_sub, pk_div, iI_if, nI_clamp, oI_n, oI_s, not_true_eq_false, not_false_eq_true, forall_const, true_implies, false_and, and_false, or_false, false_or, Classical.not_not, true_or, or_true, no_b, no_eq1, eq_self, and_self, sk_301, sk_302, sl_302, sp_301, n0, w0, re_10, re_n, mw_re, f1, z1, f9, y, nx_n z9, nW_n z9]
        | exact rfl
        | (split <;> omega))
    · rw [er_f hc]
      have nn : nx e1 (a + 1) = a + 1 + 1 := nx_0 z1
      have hv9 := NV_nx (B := B) (n := n) (e := e1) (a := a + 1) hv1
      rw [nn] at hv9
      generalize w9 : nW B n e1 (a + 1) v1 = v9 at hv9
      refine ⟨a + 1 + 1, v9, mw μ (tlN N (tvl B n (a + 1))), ?_, Fw_mw, hv9, fun _ => ⟨rfl, mw_R⟩⟩
      refine ev_tri hok (okM_X11_readsTalk 0) (Nat.le_of_ble_eq_true rfl) 400 ?_
      rw [at_X11_readsTalk_0]
      repeat' (first
        | (with_reducible refine ev_rid ?_; simp (disch := first | omega | assumption) only [ev_run_c, ev_run_n, ev_fj, ev_stp, ev_lk, ev_fv, ev_as, ev_sz, ev_st1, ev_st2, ev_rm, ev_pk, ev_Jof, ev_go, lv_args, List.map_cons, List.map_nil, List.zip_cons_cons, List.zip_nil_left, List.zip_nil_right, List.nil_append, List.cons_append, ↓reduceIte, reduceCtorEq, Int.reduceToNat, Nat.reduceEqDiff, Nat.reduceAdd, Nat.reduceLT, Nat.reduceLeDiff, Nat.reduceMul, Nat.reduceSub, Value.category, false_implies, true_and, and_true, Bool.false_eq_true, Option.some.injEq, exists_eq_left', Option.toList_some, Option.toList_none, ev_km, ev_k2, ev_k3, ev_k4, ev_k5, ev_l0, ev_l1, sh_1, sh_2, sh_3, sh_4, sh_5, at_X11_readsTalk_30, at_X11_readsTalk_31, at_X11_readsTalk_45, at_X11_readsTalk_50, ca_X11_118, ca_X11_143, ca_X11_146, ca_X11_189, ca_X11_192, cd_X11_readsTalk_0, cd_X11_readsTalk_30, cd_X11_readsTalk_31, cd_X11_readsTalk_45, cd_X11_readsTalk_50, fl_X11_62, no_0, no_1, no_lt, no_le, no_eq, no_lt0, no_ge0, no_gt0, no_le0, no_eq0, no_0eq, no_eqm, no_meq, no_m0, no_mlt, no_mge, no_mgt, no_mm, no_i01, no_i10, no_in, no_or, no_ifm, no_mul, nI_add, no_sub, pk_div, iI_if, nI_clamp, oI_n, oI_s, not_true_eq_false, not_false_eq_true, forall_const, true_implies, false_and, and_false, or_false, false_or, Classical.not_not, true_or, or_true, no_b, no_eq1, eq_self, and_self, sk_301, sk_302, sl_302, sp_301, n0, w0, re_10, re_n, mw_re, mw_mw, f1, z1, nn, w9])
        | (with_reducible refine ev_gid ?_; simp (disch := first | omega | assumption) only [ev_run_c, ev_run_n, ev_fj, ev_stp, ev_lk, ev_fv, ev_as, ev_sz, ev_st1, ev_st2, ev_rm, ev_pk, ev_Jof, ev_go, lv_args, List.map_cons, List.map_nil, List.zip_cons_cons, List.zip_nil_left, List.zip_nil_right, List.nil_append, List.cons_append, ↓reduceIte, reduceCtorEq, Int.reduceToNat, Nat.reduceEqDiff, Nat.reduceAdd, Nat.reduceLT, Nat.reduceLeDiff, Nat.reduceMul, Nat.reduceSub, Value.category, false_implies, true_and, and_true, Bool.false_eq_true, Option.some.injEq, exists_eq_left', Option.toList_some, Option.toList_none, ev_km, ev_k2, ev_k3, ev_k4, ev_k5, ev_l0, ev_l1, sh_1, sh_2, sh_3, sh_4, sh_5, at_X11_readsTalk_30, at_X11_readsTalk_31, at_X11_readsTalk_45, at_X11_readsTalk_50, ca_X11_118, ca_X11_143, ca_X11_146, ca_X11_189, ca_X11_192, cd_X11_readsTalk_0, cd_X11_readsTalk_30, cd_X11_readsTalk_31, cd_X11_readsTalk_45, cd_X11_readsTalk_50, fl_X11_62, no_0, no_1, no_lt, no_le, no_eq, no_lt0, no_ge0, no_gt0, no_le0, no_eq0, no_0eq, no_eqm, no_meq, no_m0, no_mlt, no_mge, no_mgt, no_mm, no_i01, no_i10, no_in, no_or, no_ifm, no_mul, nI_add, no_sub, pk_div, iI_if, nI_clamp, oI_n, oI_s, not_true_eq_false, not_false_eq_true, forall_const, true_implies, false_and, and_false, or_false, false_or, Classical.not_not, true_or, or_true, no_b, no_eq1, eq_self, and_self, sk_301, sk_302, sl_302, sp_301, n0, w0, re_10, re_n, mw_re, mw_mw, f1, z1, nn, w9])
        | (with_reducible refine And.intro (fun q => ?_) (fun q => ?_) <;> (try simp (disch := first | omega | assumption) only [no_0, no_1, no_lt, no_le, no_eq, no_lt0, no_ge0, no_gt0, no_le0, no_eq0, no_0eq, no_eqm, no_meq, no_m0, no_mlt, no_mge, no_mgt, no_mm, no_i01, no_i10, no_in, no_or, no_ifm, no_mul, nI_add, no_sub, pk_div, iI_if, nI_clamp, oI_n, oI_s, not_true_eq_false, not_false_eq_true, forall_const, true_implies, false_and, and_false, or_false, false_or, Classical.not_not, true_or, or_true, no_b, no_eq1, eq_self, and_self, sk_301, sk_302, sl_302, sp_301, n0, w0, re_10, re_n, mw_re, mw_mw, f1, z1, nn, w9] at q))
        | with_reducible refine ev_ci (m_go hok (by first | with_reducible assumption | exact RB_mw (by with_reducible assumption)) ?_) ?_
        | with_reducible refine ev_ci (m_pancakeHere hok (by with_reducible assumption) ?_ (by with_reducible assumption) (by with_reducible assumption)) ?_
        | with_reducible refine ev_ci (m_X11_scores hok (by first | exact MR_re (by with_reducible assumption) | exact MR_re mw_R) (by with_reducible assumption) ?_) ?_
        | with_reducible refine ev_ci (m_limits1 hok ?_) ?_
        | with_reducible refine ev_ci (m_limits0 hok ?_) ?_
        | with_reducible refine ev_ci (m_X11_talks hok (by first | exact MR_re (by with_reducible assumption) | exact MR_re mw_R) (by with_reducible assumption) ?_ ?_) ?_
        | omega
        | with_reducible assumption
        | with_reducible rfl
        | with_reducible refine lp_nx ?_ ?_ ?_ ?_
        | with_reducible refine lp_st ?_ ?_ ?_
        | with_reducible refine ls_c ?_ ?_
        | with_reducible refine vi_c ?_
        | with_reducible refine re_c ?_
        | with_reducible refine vz_c ?_
        | with_reducible refine rz_c ?_
        | exact trivial
        | with_reducible refine And.intro ?_ ?_
        | simp (disch := first | omega | assumption) only [ev_run_c, ev_run_n, ev_fj, ev_stp, ev_lk, ev_fv, ev_as, ev_sz, ev_st1, ev_st2, ev_rm, ev_pk, ev_Jof, ev_go, lv_args, List.map_cons, List.map_nil, List.zip_cons_cons, List.zip_nil_left, List.zip_nil_right, List.nil_append, List.cons_append, ↓reduceIte, reduceCtorEq, Int.reduceToNat, Nat.reduceEqDiff, Nat.reduceAdd, Nat.reduceLT, Nat.reduceLeDiff, Nat.reduceMul, Nat.reduceSub, Value.category, false_implies, true_and, and_true, Bool.false_eq_true, Option.some.injEq, exists_eq_left', Option.toList_some, Option.toList_none, ev_km, ev_k2, ev_k3, ev_k4, ev_k5, ev_l0, ev_l1, sh_1, sh_2, sh_3, sh_4, sh_5, at_X11_readsTalk_30, at_X11_readsTalk_31, at_X11_readsTalk_45, at_X11_readsTalk_50, ca_X11_118, ca_X11_143, ca_X11_146, ca_X11_189, ca_X11_192, cd_X11_readsTalk_0, cd_X11_readsTalk_30, cd_X11_readsTalk_31, cd_X11_readsTalk_45, cd_X11_readsTalk_50, fl_X11_62, no_0, no_1, no_lt, no_le, no_eq, no_lt0, no_ge0, no_gt0, no_le0, no_eq0, no_0eq, no_eqm, no_meq, no_m0, no_mlt, no_mge, no_mgt, no_mm, no_i01, no_i10, no_in, no_or, no_ifm, no_mul, nI_add, no_sub, pk_div, iI_if, nI_clamp, oI_n, oI_s, not_true_eq_false, not_false_eq_true, forall_const, true_implies, false_and, and_false, or_false, false_or, Classical.not_not, true_or, or_true, no_b, no_eq1, eq_self, and_self, sk_301, sk_302, sl_302, sp_301, n0, w0, re_10, re_n, mw_re, mw_mw, f1, z1, nn, w9]
        | exact rfl
        | (split <;> omega))
set_option maxHeartbeats 2000000 in
theorem rx_together (hok : ev_ok sh_S G) (hR : RB B n μ) (hN : MR N μ) (hI : INV N) {a : Nat} {v : Int32} (hv : NV B n a v) : RX G B n mi_X11_readsTogether a v μ (q_together B n N (a + 1)) (nI9 B n N a 5) (aI9 B n N a 5) := by
  have hh := iv_h hI
  have hN1 : N 1 ≤ 10 := hh.2.1
  have n0 : nx (0, -1) a = a + 1 := rfl
  have hv1 := NV_nx (B := B) (n := n) (e := (0, -1)) (a := a) hv
  rw [n0] at hv1
  generalize w0 : nW B n (0, -1) a v = v1 at hv1
  obtain ⟨e1, f1⟩ : ∃ e, rP B n N (0, -1) (a + 1) = e := ⟨_, rfl⟩
  have c1 : e1.1 < 5 := by rw [← f1]; exact rP_c (by decide)
  have hq : q_together B n N (a + 1) = er (rP B n N e1 (a + 1 + 1)) ((pv B n N (a + 1)) = (pv B n N (a + 1 + 1)) ∨ N (8 + 59 * (pv B n N (a + 1)) + (43 + (pv B n N (a + 1 + 1)))) ≠ 0) 3 (a + 1 + 1) B n := by rw [← f1]; rfl
  rw [hq]
  by_cases z1 : ¬ e1.1 = 0
  · have y : (e1.1 = 0) = False := eq_false z1
    try simp only [rN_n z1, rP_n z1, er_n z1]
    refine ⟨a + 1, v1, μ, ?_, Fw_rf, hv1, fun q => absurd q z1⟩
    refine ev_tri hok (okM_X11_readsTogether 0) (Nat.le_of_ble_eq_true rfl) 400 ?_
    rw [at_X11_readsTogether_0]
    repeat' (first
      | (with_reducible refine ev_rid ?_; simp (disch := first | omega | assumption) only [ev_run_c, ev_run_n, ev_fj, ev_stp, ev_lk, ev_fv, ev_as, ev_sz, ev_st1, ev_st2, ev_rm, ev_pk, ev_Jof, ev_go, lv_args, List.map_cons, List.map_nil, List.zip_cons_cons, List.zip_nil_left, List.zip_nil_right, List.nil_append, List.cons_append, ↓reduceIte, reduceCtorEq, Int.reduceToNat, Nat.reduceEqDiff, Nat.reduceAdd, Nat.reduceLT, Nat.reduceLeDiff, Nat.reduceMul, Nat.reduceSub, Value.category, false_implies, true_and, and_true, Bool.false_eq_true, Option.some.injEq, exists_eq_left', Option.toList_some, Option.toList_none, ev_km, ev_k2, ev_k3, ev_k4, ev_k5, ev_l0, ev_l1, sh_1, sh_2, sh_3, sh_4, sh_5, at_X11_readsTogether_40, at_X11_readsTogether_44, at_X11_readsTogether_45, at_X11_readsTogether_75, ca_X11_118, ca_X11_121, ca_X11_133, ca_X11_137, ca_X11_149, ca_X11_168, cd_X11_readsTogether_0, cd_X11_readsTogether_40, cd_X11_readsTogether_44, cd_X11_readsTogether_45, cd_X11_readsTogether_75, fl_X11_62, ev_b_43, no_0, no_1, no_lt, no_le, no_eq, no_lt0, no_ge0, no_gt0, no_le0, no_eq0, no_0eq, no_eqm, no_meq, no_m0, no_mlt, no_mge, no_mgt, no_mm, no_i01, no_i10, no_in, no_or, no_ifm, no_mul, nI_add, no_sub, pk_div, iI_if, nI_clamp, oI_n, oI_s, not_true_eq_false, not_false_eq_true, forall_const, true_implies, false_and, and_false, or_false, false_or, Classical.not_not, true_or, or_true, no_b, no_eq1, eq_self, and_self, sk_301, sk_302, sl_302, sp_301, n0, w0, re_10, re_n, mw_re, f1, y, rN_n z1, rP_n z1, rT_n z1, er_n z1, nx_n z1, nW_n z1])
      | (with_reducible refine ev_gid ?_; simp (disch := first | omega | assumption) only [ev_run_c, ev_run_n, ev_fj, ev_stp, ev_lk, ev_fv, ev_as, ev_sz, ev_st1, ev_st2, ev_rm, ev_pk, ev_Jof, ev_go, lv_args, List.map_cons, List.map_nil, List.zip_cons_cons, List.zip_nil_left, List.zip_nil_right, List.nil_append, List.cons_append, ↓reduceIte, reduceCtorEq, Int.reduceToNat, Nat.reduceEqDiff, Nat.reduceAdd, Nat.reduceLT, Nat.reduceLeDiff, Nat.reduceMul, Nat.reduceSub, Value.category, false_implies, true_and, and_true, Bool.false_eq_true, Option.some.injEq, exists_eq_left', Option.toList_some, Option.toList_none, ev_km, ev_k2, ev_k3, ev_k4, ev_k5, ev_l0, ev_l1, sh_1, sh_2, sh_3, sh_4, sh_5, at_X11_readsTogether_40, at_X11_readsTogether_44, at_X11_readsTogether_45, at_X11_readsTogether_75, ca_X11_118, ca_X11_121, ca_X11_133, ca_X11_137, ca_X11_149, ca_X11_168, cd_X11_readsTogether_0, cd_X11_readsTogether_40, cd_X11_readsTogether_44, cd_X11_readsTogether_45, cd_X11_readsTogether_75, fl_X11_62, ev_b_43, no_0, no_1, no_lt, no_le, no_eq, no_lt0, no_ge0, no_gt0, no_le0, no_eq0, no_0eq, no_eqm, no_meq, no_m0, no_mlt, no_mge, no_mgt, no_mm, no_i01, no_i10, no_in, no_or, no_ifm, no_mul, nI_add, no_sub, pk_div, iI_if, nI_clamp, oI_n, oI_s, not_true_eq_false, not_false_eq_true, forall_const, true_implies, false_and, and_false, or_false, false_or, Classical.not_not, true_or, or_true, no_b, no_eq1, eq_self, and_self, sk_301, sk_302, sl_302, sp_301, n0, w0, re_10, re_n, mw_re, f1, y, rN_n z1, rP_n z1, rT_n z1, er_n z1, nx_n z1, nW_n z1])
      | (with_reducible refine And.intro (fun q => ?_) (fun q => ?_) <;> (try simp (disch := first | omega | assumption) only [no_0, no_1, no_lt, no_le, no_eq, no_lt0, no_ge0, no_gt0, no_le0, no_eq0, no_0eq, no_eqm, no_meq, no_m0, no_mlt, no_mge, no_mgt, no_mm, no_i01, no_i10, no_in, no_or, no_ifm, no_mul, nI_add, no_sub, pk_div, iI_if, nI_clamp, oI_n, oI_s, not_true_eq_false, not_false_eq_true, forall_const, true_implies, false_and, and_false, or_false, false_or, Classical.not_not, true_or, or_true, no_b, no_eq1, eq_self, and_self, sk_301, sk_302, sl_302, sp_301, n0, w0, re_10, re_n, mw_re, f1, y, rN_n z1, rP_n z1, rT_n z1, er_n z1, nx_n z1, nW_n z1] at q))
      | with_reducible refine ev_ci (m_go hok (by first | with_reducible assumption | exact RB_mw (by with_reducible assumption)) ?_) ?_
      | with_reducible refine ev_ci (m_readPerson hok (by with_reducible assumption) (by with_reducible assumption) (by with_reducible assumption) ?_) ?_
      | with_reducible refine ev_ci (m_personHere hok (by with_reducible assumption) (by with_reducible assumption) (by with_reducible assumption) ?_) ?_
      | with_reducible refine ev_ci (m_X11_of hok (by first | exact MR_re (by with_reducible assumption) | exact MR_re mw_R) ?_ ?_) ?_
      | with_reducible refine ev_ci (m_refuses1 hok ?_) ?_
      | with_reducible refine ev_ci (m_refuses0 hok ?_) ?_
      | with_reducible refine ev_ci (m_X11_puts hok (by first | exact MR_re (by with_reducible assumption) | exact MR_re mw_R) ?_ ?_) ?_
      | omega
      | with_reducible assumption
      | with_reducible rfl
      | with_reducible refine lp_nx ?_ ?_ ?_ ?_
      | with_reducible refine lp_st ?_ ?_ ?_
      | with_reducible refine ls_c ?_ ?_
      | with_reducible refine vi_c ?_
      | with_reducible refine re_c ?_
      | with_reducible refine vz_c ?_
      | with_reducible refine rz_c ?_
      | exact trivial
      | with_reducible refine And.intro ?_ ?_
      | simp (disch := first | omega | assumption) only [ev_run_c, ev_run_n, ev_fj, ev_stp, ev_lk, ev_fv, ev_as, ev_sz, ev_st1, ev_st2, ev_rm, ev_pk, ev_Jof, ev_go, lv_args, List.map_cons, List.map_nil, List.zip_cons_cons, List.zip_nil_left, List.zip_nil_right, List.nil_append, List.cons_append, ↓reduceIte, reduceCtorEq, Int.reduceToNat, Nat.reduceEqDiff, Nat.reduceAdd, Nat.reduceLT, Nat.reduceLeDiff, Nat.reduceMul, Nat.reduceSub, Value.category, false_implies, true_and, and_true, Bool.false_eq_true, Option.some.injEq, exists_eq_left', Option.toList_some, Option.toList_none, ev_km, ev_k2, ev_k3, ev_k4, ev_k5, ev_l0, ev_l1, sh_1, sh_2, sh_3, sh_4, sh_5, at_X11_readsTogether_40, at_X11_readsTogether_44, at_X11_readsTogether_45, at_X11_readsTogether_75, ca_X11_118, ca_X11_121, ca_X11_133, ca_X11_137, ca_X11_149, ca_X11_168, cd_X11_readsTogether_0, cd_X11_readsTogether_40, cd_X11_readsTogether_44, cd_X11_readsTogether_45, cd_X11_readsTogether_75, fl_X11_62, ev_b_43, no_0, no_1, no_lt, no_le, no_eq, no_lt0, no_ge0, no_gt0, no_le0, no_eq0, no_0eq, no_eqm, no_meq, no_m0, no_mlt, no_mge, no_mgt, no_mm, no_i01, no_i10, no_in, no_or, no_ifm, no_mul, nI_add, no_sub, pk_div, iI_if, nI_clamp, oI_n, oI_s, not_true_eq_false, not_false_eq_true, forall_const, true_implies, false_and, and_false, or_false, false_or, Classical.not_not, true_or, or_true, no_b, no_eq1, eq_self, and_self, sk_301, sk_302, sl_302, sp_301, n0, w0, re_10, re_n, mw_re, f1, y, rN_n z1, rP_n z1, rT_n z1, er_n z1, nx_n z1, nW_n z1]
      | exact rfl
      | (split <;> omega))
  · have z1 : e1.1 = 0 := Classical.byContradiction z1
    have g1 := z1
    rw [← f1] at g1
    have s1 := rP_0 g1
    have p1 := pz_0 g1
    have b1 : pv B n N (a + 1) < 16 := by omega
    have n1 : nx e1 (a + 1) = a + 1 + 1 := nx_0 z1
    have hv2 := NV_nx (B := B) (n := n) (e := e1) (a := a + 1) hv1
    rw [n1] at hv2
    generalize w1 : nW B n e1 (a + 1) v1 = v2 at hv2
    obtain ⟨e2, f2⟩ : ∃ e, rP B n N e1 (a + 1 + 1) = e := ⟨_, rfl⟩
    have c2 : e2.1 < 5 := by rw [← f2]; exact rP_c c1
    rw [f2]
    by_cases z2 : ¬ e2.1 = 0
    · have y : (e2.1 = 0) = False := eq_false z2
      try simp only [rN_n z2, rP_n z2, er_n z2]
      refine ⟨a + 1 + 1, v2, μ, ?_, Fw_rf, hv2, fun q => absurd q z2⟩
      refine ev_tri hok (okM_X11_readsTogether 0) (Nat.le_of_ble_eq_true rfl) 400 ?_
      rw [at_X11_readsTogether_0]
      repeat' (first
        | (with_reducible refine ev_rid ?_; simp (disch := first | omega | assumption) only [ev_run_c, ev_run_n, ev_fj, ev_stp, ev_lk, ev_fv, ev_as, ev_sz, ev_st1, ev_st2, ev_rm, ev_pk, ev_Jof, ev_go, lv_args, List.map_cons, List.map_nil, List.zip_cons_cons, List.zip_nil_left, List.zip_nil_right, List.nil_append, List.cons_append, ↓reduceIte, reduceCtorEq, Int.reduceToNat, Nat.reduceEqDiff, Nat.reduceAdd, Nat.reduceLT, Nat.reduceLeDiff, Nat.reduceMul, Nat.reduceSub, Value.category, false_implies, true_and, and_true, Bool.false_eq_true, Option.some.injEq, exists_eq_left', Option.toList_some, Option.toList_none, ev_km, ev_k2, ev_k3, ev_k4, ev_k5, ev_l0, ev_l1, sh_1, sh_2, sh_3, sh_4, sh_5, at_X11_readsTogether_40, at_X11_readsTogether_44, at_X11_readsTogether_45, at_X11_readsTogether_75, ca_X11_118, ca_X11_121, ca_X11_133, ca_X11_137, ca_X11_149, ca_X11_168, cd_X11_readsTogether_0, cd_X11_readsTogether_40, cd_X11_readsTogether_44, cd_X11_readsTogether_45, cd_X11_readsTogether_75, fl_X11_62, ev_b_43, no_0, no_1, no_lt, no_le, no_eq, no_lt0, no_ge0, no_gt0, no_le0, no_eq0, no_0eq, no_eqm, no_meq, no_m0, no_mlt, no_mge, no_mgt, no_mm, no_i01, no_i10, no_in, no_or, no_ifm, no_mul, nI_add, no_sub, pk_div, iI_if, nI_clamp, oI_n, oI_s, not_true_eq_false, not_false_eq_true, forall_const, true_implies, false_and, and_false, or_false, false_or, Classical.not_not, true_or, or_true, no_b, no_eq1, eq_self, and_self, sk_301, sk_302, sl_302, sp_301, n0, w0, re_10, re_n, mw_re, f1, z1, p1, n1, w1, f2, y, rN_n z2, rP_n z2, rT_n z2, er_n z2, nx_n z2, nW_n z2])
        | (with_reducible refine ev_gid ?_; simp (disch := first | omega | assumption) only [ev_run_c, ev_run_n, ev_fj, ev_stp, ev_lk, ev_fv, ev_as, ev_sz, ev_st1, ev_st2, ev_rm, ev_pk, ev_Jof, ev_go, lv_args, List.map_cons, List.map_nil, List.zip_cons_cons, List.zip_nil_left, List.zip_nil_right, List.nil_append, List.cons_append, ↓reduceIte, reduceCtorEq, Int.reduceToNat, Nat.reduceEqDiff, Nat.reduceAdd, Nat.reduceLT, Nat.reduceLeDiff, Nat.reduceMul, Nat.reduceSub, Value.category, false_implies, true_and, and_true, Bool.false_eq_true, Option.some.injEq, exists_eq_left', Option.toList_some, Option.toList_none, ev_km, ev_k2, ev_k3, ev_k4, ev_k5, ev_l0, ev_l1, sh_1, sh_2, sh_3, sh_4, sh_5, at_X11_readsTogether_40, at_X11_readsTogether_44, at_X11_readsTogether_45, at_X11_readsTogether_75, ca_X11_118, ca_X11_121, ca_X11_133, ca_X11_137, ca_X11_149, ca_X11_168, cd_X11_readsTogether_0, cd_X11_readsTogether_40, cd_X11_readsTogether_44, cd_X11_readsTogether_45, cd_X11_readsTogether_75, fl_X11_62, ev_b_43, no_0, no_1, no_lt, no_le, no_eq, no_lt0, no_ge0, no_gt0, no_le0, no_eq0, no_0eq, no_eqm, no_meq, no_m0, no_mlt, no_mge, no_mgt, no_mm, no_i01, no_i10, no_in, no_or, no_ifm, no_mul, nI_add, no_sub, pk_div, iI_if, nI_clamp, oI_n, oI_s, not_true_eq_false, not_false_eq_true, forall_const, true_implies, false_and, and_false, or_false, false_or, Classical.not_not, true_or, or_true, no_b, no_eq1, eq_self, and_self, sk_301, sk_302, sl_302, sp_301, n0, w0, re_10, re_n, mw_re, f1, z1, p1, n1, w1, f2, y, rN_n z2, rP_n z2, rT_n z2, er_n z2, nx_n z2, nW_n z2])
        | (with_reducible refine And.intro (fun q => ?_) (fun q => ?_) <;> (try simp (disch := first | omega | assumption) only [no_0, no_1, no_lt, no_le, no_eq, no_lt0, no_ge0, no_gt0, no_le0, no_eq0, no_0eq, no_eqm, no_meq, no_m0, no_mlt, no_mge, no_mgt, no_mm, no_i01, no_i10, no_in, no_or, no_ifm, no_mul, nI_add, no_sub, pk_div, iI_if, nI_clamp, oI_n, oI_s, not_true_eq_false, not_false_eq_true, forall_const, true_implies, false_and, and_false, or_false, false_or, Classical.not_not, true_or, or_true, no_b, no_eq1, eq_self, and_self, sk_301, sk_302, sl_302, sp_301, n0, w0, re_10, re_n, mw_re, f1, z1, p1, n1, w1, f2, y, rN_n z2, rP_n z2, rT_n z2, er_n z2, nx_n z2, nW_n z2] at q))
        | with_reducible refine ev_ci (m_go hok (by first | with_reducible assumption | exact RB_mw (by with_reducible assumption)) ?_) ?_
        | with_reducible refine ev_ci (m_readPerson hok (by with_reducible assumption) (by with_reducible assumption) (by with_reducible assumption) ?_) ?_
        | with_reducible refine ev_ci (m_personHere hok (by with_reducible assumption) (by with_reducible assumption) (by with_reducible assumption) ?_) ?_
        | with_reducible refine ev_ci (m_X11_of hok (by first | exact MR_re (by with_reducible assumption) | exact MR_re mw_R) ?_ ?_) ?_
        | with_reducible refine ev_ci (m_refuses1 hok ?_) ?_
        | with_reducible refine ev_ci (m_refuses0 hok ?_) ?_
        | with_reducible refine ev_ci (m_X11_puts hok (by first | exact MR_re (by with_reducible assumption) | exact MR_re mw_R) ?_ ?_) ?_
        | omega
        | with_reducible assumption
        | with_reducible rfl
        | with_reducible refine lp_nx ?_ ?_ ?_ ?_
        | with_reducible refine lp_st ?_ ?_ ?_
        | with_reducible refine ls_c ?_ ?_
        | with_reducible refine vi_c ?_
        | with_reducible refine re_c ?_
        | with_reducible refine vz_c ?_
        | with_reducible refine rz_c ?_
        | exact trivial
        | with_reducible refine And.intro ?_ ?_
        | simp (disch := first | omega | assumption) only [ev_run_c, ev_run_n, ev_fj, ev_stp, ev_lk, ev_fv, ev_as, ev_sz, ev_st1, ev_st2, ev_rm, ev_pk, ev_Jof, ev_go, lv_args, List.map_cons, List.map_nil, List.zip_cons_cons, List.zip_nil_left, List.zip_nil_right, List.nil_append, List.cons_append, ↓reduceIte, reduceCtorEq, Int.reduceToNat, Nat.reduceEqDiff, Nat.reduceAdd, Nat.reduceLT, Nat.reduceLeDiff, Nat.reduceMul, Nat.reduceSub, Value.category, false_implies, true_and, and_true, Bool.false_eq_true, Option.some.injEq, exists_eq_left', Option.toList_some, Option.toList_none, ev_km, ev_k2, ev_k3, ev_k4, ev_k5, ev_l0, ev_l1, sh_1, sh_2, sh_3, sh_4, sh_5, at_X11_readsTogether_40, at_X11_readsTogether_44, at_X11_readsTogether_45, at_X11_readsTogether_75, ca_X11_118, ca_X11_121, ca_X11_133, ca_X11_137, ca_X11_149, ca_X11_168, cd_X11_readsTogether_0, cd_X11_readsTogether_40, cd_X11_readsTogether_44, cd_X11_readsTogether_45, cd_X11_readsTogether_75, fl_X11_62, ev_b_43, no_0, no_1, no_lt, no_le, no_eq, no_lt0, no_ge0, no_gt0, no_le0, no_eq0, no_0eq, no_eqm, no_meq, no_m0, no_mlt, no_mge, no_mgt, no_mm, no_i01, no_i10, no_in, no_or, no_ifm, no_mul, nI_add, no_sub, pk_div, iI_if, nI_clamp, oI_n, oI_s, not_true_eq_false, not_false_eq_true, forall_const, true_implies, false_and, and_false, or_false, false_or, Classical.not_not, true_or, or_true, no_b, no_eq1, eq_self, and_self, sk_301, sk_302, sl_302, sp_301, n0, w0, re_10, re_n, mw_re, f1, z1, p1, n1, w1, f2, y, rN_n z2, rP_n z2, rT_n z2, er_n z2, nx_n z2, nW_n z2]
        | exact rfl
        | (split <;> omega))
    · have z2 : e2.1 = 0 := Classical.byContradiction z2
      have g2 := z2
      rw [← f2] at g2
      have s2 := rP_0 g2
      have p2 := pz_0 g2
      have b2 : pv B n N (a + 1 + 1) < 16 := by omega
      have hb := iv_w hI (pv B n N (a + 1)) (pv B n N (a + 1 + 1)) (by omega) (by omega)
      by_cases hc : (pv B n N (a + 1)) = (pv B n N (a + 1 + 1)) ∨ N (8 + 59 * (pv B n N (a + 1)) + (43 + (pv B n N (a + 1 + 1)))) ≠ 0
      · rw [er_True hc]
        obtain ⟨e9, f9⟩ : ∃ e, er e2 True 3 (a + 1 + 1) B n = e := ⟨_, rfl⟩
        have c9 : e9.1 < 5 := by rw [← f9]; exact er_c c2 (by decide)
        have z9 : ¬ e9.1 = 0 := by rw [← f9, er_T z2]; exact Nat.succ_ne_zero _
        have y : (e9.1 = 0) = False := eq_false z9
        rw [f9]
        refine ⟨a + 1 + 1, v2, μ, ?_, Fw_rf, hv2, fun q => absurd q z9⟩
        refine ev_tri hok (okM_X11_readsTogether 0) (Nat.le_of_ble_eq_true rfl) 400 ?_
        rw [at_X11_readsTogether_0]
        repeat' (first
          | (with_reducible refine ev_rid ?_; simp (disch := first | omega | assumption) only [ev_run_c, ev_run_n, ev_fj, ev_stp, ev_lk, ev_fv, ev_as, ev_sz, ev_st1, ev_st2, ev_rm, ev_pk, ev_Jof, ev_go, lv_args, List.map_cons, List.map_nil, List.zip_cons_cons, List.zip_nil_left, List.zip_nil_right, List.nil_append, List.cons_append, ↓reduceIte, reduceCtorEq, Int.reduceToNat, Nat.reduceEqDiff, Nat.reduceAdd, Nat.reduceLT, Nat.reduceLeDiff, Nat.reduceMul, Nat.reduceSub, Value.category, false_implies, true_and, and_true, Bool.false_eq_true, Option.some.injEq, exists_eq_left', Option.toList_some, Option.toList_none, ev_km, ev_k2, ev_k3, ev_k4, ev_k5, ev_l0, ev_l1, sh_1, sh_2, sh_3, sh_4, sh_5, at_X11_readsTogether_40, at_X11_readsTogether_44, at_X11_readsTogether_45, at_X11_readsTogether_75, ca_X11_118, ca_X11_121, ca_X11_133, ca_X11_137, ca_X11_149, ca_X11_168, cd_X11_readsTogether_0, cd_X11_readsTogether_40, cd_X11_readsTogether_44, cd_X11_readsTogether_45, cd_X11_readsTogether_75, fl_X11_62, ev_b_43, no_0, no_1, no_lt, no_le, no_eq, no_lt0, no_ge0, no_gt0, no_le0, no_eq0, no_0eq, no_eqm, no_meq, no_m0, no_mlt, no_mge, no_mgt, no_mm, no_i01, no_i10, no_in, no_or, no_ifm, no_mul, nI_add, no_sub, pk_div, iI_if, nI_clamp, oI_n, oI_s, not_true_eq_false, not_false_eq_true, forall_const, true_implies, false_and, and_false, or_false, false_or, Classical.not_not, true_or, or_true, no_b, no_eq1, eq_self, and_self, sk_301, sk_302, sl_302, sp_301, n0, w0, re_10, re_n, mw_re, f1, z1, p1, n1, w1, f2, z2, p2, f9, y, nx_n z9, nW_n z9])
          | (with_reducible refine ev_gid ?_; simp (disch := first | omega | assumption) only [ev_run_c, ev_run_n, ev_fj, ev_stp, ev_lk, ev_fv, ev_as, ev_sz, ev_st1, ev_st2, ev_rm, ev_pk, ev_Jof, ev_go, lv_args, List.map_cons, List.map_nil, List.zip_cons_cons, List.zip_nil_left, List.zip_nil_right, List.nil_append, List.cons_append, ↓reduceIte, reduceCtorEq, Int.reduceToNat, Nat.reduceEqDiff, Nat.reduceAdd, Nat.reduceLT, Nat.reduceLeDiff, Nat.reduceMul, Nat.reduceSub, Value.category, false_implies, true_and, and_true, Bool.false_eq_true, Option.some.injEq, exists_eq_left', Option.toList_some, Option.toList_none, ev_km, ev_k2, ev_k3, ev_k4, ev_k5, ev_l0, ev_l1, sh_1, sh_2, sh_3, sh_4, sh_5, at_X11_readsTogether_40, at_X11_readsTogether_44, at_X11_readsTogether_45, at_X11_readsTogether_75, ca_X11_118, ca_X11_121, ca_X11_133, ca_X11_137, ca_X11_149, ca_X11_168, cd_X11_readsTogether_0, cd_X11_readsTogether_40, cd_X11_readsTogether_44, cd_X11_readsTogether_45, cd_X11_readsTogether_75, fl_X11_62, ev_b_43, no_0, no_1, no_lt, no_le, no_eq, no_lt0, no_ge0, no_gt0, no_le0, no_eq0, no_0eq, no_eqm, no_meq, no_m0, no_mlt, no_mge, no_mgt, no_mm, no_i01, no_i10, no_in, no_or, no_ifm, no_mul, nI_add, no_sub, pk_div, iI_if, nI_clamp, oI_n, oI_s, not_true_eq_false, not_false_eq_true, forall_const, true_implies, false_and, and_false, or_false, false_or, Classical.not_not, true_or, or_true, no_b, no_eq1, eq_self, and_self, sk_301, sk_302, sl_302, sp_301, n0, w0, re_10, re_n, mw_re, f1, z1, p1, n1, w1, f2, z2, p2, f9, y, nx_n z9, nW_n z9])
          | (with_reducible refine And.intro (fun q => ?_) (fun q => ?_) <;> (try simp (disch := first | omega | assumption) only [no_0, no_1, no_lt, no_le, no_eq, no_lt0, no_ge0, no_gt0, no_le0, no_eq0, no_0eq, no_eqm, no_meq, no_m0, no_mlt, no_mge, no_mgt, no_mm, no_i01, no_i10, no_in, no_or, no_ifm, no_mul, nI_add, no_sub, pk_div, iI_if, nI_clamp, oI_n, oI_s, not_true_eq_false, not_false_eq_true, forall_const, true_implies, false_and, and_false, or_false, false_or, Classical.not_not, true_or, or_true, no_b, no_eq1, eq_self, and_self, sk_301, sk_302, sl_302, sp_301, n0, w0, re_10, re_n, mw_re, f1, z1, p1, n1, w1, f2, z2, p2, f9, y, nx_n z9, nW_n z9] at q))
          | with_reducible refine ev_ci (m_go hok (by first | with_reducible assumption | exact RB_mw (by with_reducible assumption)) ?_) ?_
          | with_reducible refine ev_ci (m_readPerson hok (by with_reducible assumption) (by with_reducible assumption) (by with_reducible assumption) ?_) ?_
          | with_reducible refine ev_ci (m_personHere hok (by with_reducible assumption) (by with_reducible assumption) (by with_reducible assumption) ?_) ?_
          | with_reducible refine ev_ci (m_X11_of hok (by first | exact MR_re (by with_reducible assumption) | exact MR_re mw_R) ?_ ?_) ?_
          | with_reducible refine ev_ci (m_refuses1 hok ?_) ?_
          | with_reducible refine ev_ci (m_refuses0 hok ?_) ?_
          | with_reducible refine ev_ci (m_X11_puts hok (by first | exact MR_re (by with_reducible assumption) | exact MR_re mw_R) ?_ ?_) ?_
          | omega
          | with_reducible assumption
          | with_reducible rfl
          | with_reducible refine lp_nx ?_ ?_ ?_ ?_
          | with_reducible refine lp_st ?_ ?_ ?_
          | with_reducible refine ls_c ?_ ?_
          | with_reducible refine vi_c ?_
          | with_reducible refine re_c ?_
          | with_reducible refine vz_c ?_
          | with_reducible refine rz_c ?_
          | exact trivial
          | with_reducible refine And.intro ?_ ?_
          | simp (disch := first | omega | assumption) only [ev_run_c, ev_run_n, ev_fj, ev_stp, ev_lk, ev_fv, ev_as, ev_sz, ev_st1, ev_st2, ev_rm, ev_pk, ev_Jof, ev_go, lv_args, List.map_cons, List.map_nil, List.zip_cons_cons, List.zip_nil_left, List.zip_nil_right, List.nil_append, List.cons_append, ↓reduceIte, reduceCtorEq, Int.reduceToNat, Nat.reduceEqDiff, Nat.reduceAdd, Nat.reduceLT, Nat.reduceLeDiff, Nat.reduceMul, Nat.reduceSub, Value.category, false_implies, true_and, and_true, Bool.false_eq_true, Option.some.injEq, exists_eq_left', Option.toList_some, Option.toList_none, ev_km, ev_k2, ev_k3, ev_k4, ev_k5, ev_l0, ev_l1, sh_1, sh_2, sh_3, sh_4, sh_5, at_X11_readsTogether_40, at_X11_readsTogether_44, at_X11_readsTogether_45, at_X11_readsTogether_75, ca_X11_118, ca_X11_121, ca_X11_133, ca_X11_137, ca_X11_149, ca_X11_168, cd_X11_readsTogether_0, cd_X11_readsTogether_40, cd_X11_readsTogether_44, cd_X11_readsTogether_45, cd_X11_readsTogether_75, fl_X11_62, ev_b_43, no_0, no_1, no_lt, no_le, no_eq, no_lt0, no_ge0, no_gt0, no_le0, no_eq0, no_0eq, no_eqm, no_meq, no_m0, no_mlt, no_mge, no_mgt, no_mm, no_i01, no_i10, no_in, no_or, no_ifm, no_mul, nI_add, no_sub, pk_div, iI_if, nI_clamp, oI_n, oI_s, not_true_eq_false, not_false_eq_true, forall_const, true_implies, false_and, and_false, or_false, false_or, Classical.not_not, true_or, or_true, no_b, no_eq1, eq_self, and_self, sk_301, sk_302, sl_302, sp_301, n0, w0, re_10, re_n, mw_re, f1, z1, p1, n1, w1, f2, z2, p2, f9, y, nx_n z9, nW_n z9]
          | exact rfl
          | (split <;> omega))
      · rw [er_f hc]
        have h1 : ¬ (pv B n N (a + 1)) = (pv B n N (a + 1 + 1)) := fun q => hc (Or.inl q)
        have h2 : N (8 + 59 * (pv B n N (a + 1)) + (43 + (pv B n N (a + 1 + 1)))) = 0 := Classical.byContradiction (fun q => hc (Or.inr q))
        have h3 : up (up N (8 + 59 * (pv B n N (a + 1)) + (43 + (pv B n N (a + 1 + 1)))) 1) (8 + 59 * (pv B n N (a + 1 + 1)) + (43 + (pv B n N (a + 1)))) 1 = jcN N (pv B n N (a + 1)) (pv B n N (a + 1 + 1)) := rfl
        have nn : nx e2 (a + 1 + 1) = a + 1 + 1 + 1 := nx_0 z2
        have hv9 := NV_nx (B := B) (n := n) (e := e2) (a := a + 1 + 1) hv2
        rw [nn] at hv9
        generalize w9 : nW B n e2 (a + 1 + 1) v2 = v9 at hv9
        refine ⟨a + 1 + 1 + 1, v9, mw μ (jcN N (pv B n N (a + 1)) (pv B n N (a + 1 + 1))), ?_, Fw_mw, hv9, fun _ => ⟨rfl, mw_R⟩⟩
        refine ev_tri hok (okM_X11_readsTogether 0) (Nat.le_of_ble_eq_true rfl) 400 ?_
        rw [at_X11_readsTogether_0]
        repeat' (first
          | (with_reducible refine ev_rid ?_; simp (disch := first | omega | assumption) only [ev_run_c, ev_run_n, ev_fj, ev_stp, ev_lk, ev_fv, ev_as, ev_sz, ev_st1, ev_st2, ev_rm, ev_pk, ev_Jof, ev_go, lv_args, List.map_cons, List.map_nil, List.zip_cons_cons, List.zip_nil_left, List.zip_nil_right, List.nil_append, List.cons_append, ↓reduceIte, reduceCtorEq, Int.reduceToNat, Nat.reduceEqDiff, Nat.reduceAdd, Nat.reduceLT, Nat.reduceLeDiff, Nat.reduceMul, Nat.reduceSub, Value.category, false_implies, true_and, and_true, Bool.false_eq_true, Option.some.injEq, exists_eq_left', Option.toList_some, Option.toList_none, ev_km, ev_k2, ev_k3, ev_k4, ev_k5, ev_l0, ev_l1, sh_1, sh_2, sh_3, sh_4, sh_5, at_X11_readsTogether_40, at_X11_readsTogether_44, at_X11_readsTogether_45, at_X11_readsTogether_75, ca_X11_118, ca_X11_121, ca_X11_133, ca_X11_137, ca_X11_149, ca_X11_168, cd_X11_readsTogether_0, cd_X11_readsTogether_40, cd_X11_readsTogether_44, cd_X11_readsTogether_45, cd_X11_readsTogether_75, fl_X11_62, ev_b_43, no_0, no_1, no_lt, no_le, no_eq, no_lt0, no_ge0, no_gt0, no_le0, no_eq0, no_0eq, no_eqm, no_meq, no_m0, no_mlt, no_mge, no_mgt, no_mm, no_i01, no_i10, no_in, no_or, no_ifm, no_mul, nI_add, no_sub, pk_div, iI_if, nI_clamp, oI_n, oI_s, not_true_eq_false, not_false_eq_true, forall_const, true_implies, false_and, and_false, or_false, false_or, Classical.not_not, true_or, or_true, no_b, no_eq1, eq_self, and_self, sk_301, sk_302, sl_302, sp_301, n0, w0, re_10, re_n, mw_re, mw_mw, f1, z1, p1, n1, w1, f2, z2, p2, h2, h3, nn, w9])
          | (with_reducible refine ev_gid ?_; simp (disch := first | omega | assumption) only [ev_run_c, ev_run_n, ev_fj, ev_stp, ev_lk, ev_fv, ev_as, ev_sz, ev_st1, ev_st2, ev_rm, ev_pk, ev_Jof, ev_go, lv_args, List.map_cons, List.map_nil, List.zip_cons_cons, List.zip_nil_left, List.zip_nil_right, List.nil_append, List.cons_append, ↓reduceIte, reduceCtorEq, Int.reduceToNat, Nat.reduceEqDiff, Nat.reduceAdd, Nat.reduceLT, Nat.reduceLeDiff, Nat.reduceMul, Nat.reduceSub, Value.category, false_implies, true_and, and_true, Bool.false_eq_true, Option.some.injEq, exists_eq_left', Option.toList_some, Option.toList_none, ev_km, ev_k2, ev_k3, ev_k4, ev_k5, ev_l0, ev_l1, sh_1, sh_2, sh_3, sh_4, sh_5, at_X11_readsTogether_40, at_X11_readsTogether_44, at_X11_readsTogether_45, at_X11_readsTogether_75, ca_X11_118, ca_X11_121, ca_X11_133, ca_X11_137, ca_X11_149, ca_X11_168, cd_X11_readsTogether_0, cd_X11_readsTogether_40, cd_X11_readsTogether_44, cd_X11_readsTogether_45, cd_X11_readsTogether_75, fl_X11_62, ev_b_43, no_0, no_1, no_lt, no_le, no_eq, no_lt0, no_ge0, no_gt0, no_le0, no_eq0, no_0eq, no_eqm, no_meq, no_m0, no_mlt, no_mge, no_mgt, no_mm, no_i01, no_i10, no_in, no_or, no_ifm, no_mul, nI_add, no_sub, pk_div, iI_if, nI_clamp, oI_n, oI_s, not_true_eq_false, not_false_eq_true, forall_const, true_implies, false_and, and_false, or_false, false_or, Classical.not_not, true_or, or_true, no_b, no_eq1, eq_self, and_self, sk_301, sk_302, sl_302, sp_301, n0, w0, re_10, re_n, mw_re, mw_mw, f1, z1, p1, n1, w1, f2, z2, p2, h2, h3, nn, w9])
          | (with_reducible refine And.intro (fun q => ?_) (fun q => ?_) <;> (try simp (disch := first | omega | assumption) only [no_0, no_1, no_lt, no_le, no_eq, no_lt0, no_ge0, no_gt0, no_le0, no_eq0, no_0eq, no_eqm, no_meq, no_m0, no_mlt, no_mge, no_mgt, no_mm, no_i01, no_i10, no_in, no_or, no_ifm, no_mul, nI_add, no_sub, pk_div, iI_if, nI_clamp, oI_n, oI_s, not_true_eq_false, not_false_eq_true, forall_const, true_implies, false_and, and_false, or_false, false_or, Classical.not_not, true_or, or_true, no_b, no_eq1, eq_self, and_self, sk_301, sk_302, sl_302, sp_301, n0, w0, re_10, re_n, mw_re, mw_mw, f1, z1, p1, n1, w1, f2, z2, p2, h2, h3, nn, w9] at q))
          | with_reducible refine ev_ci (m_go hok (by first | with_reducible assumption | exact RB_mw (by with_reducible assumption)) ?_) ?_
          | with_reducible refine ev_ci (m_readPerson hok (by with_reducible assumption) (by with_reducible assumption) (by with_reducible assumption) ?_) ?_
          | with_reducible refine ev_ci (m_personHere hok (by with_reducible assumption) (by with_reducible assumption) (by with_reducible assumption) ?_) ?_
          | with_reducible refine ev_ci (m_X11_of hok (by first | exact MR_re (by with_reducible assumption) | exact MR_re mw_R) ?_ ?_) ?_
          | with_reducible refine ev_ci (m_refuses1 hok ?_) ?_
          | with_reducible refine ev_ci (m_refuses0 hok ?_) ?_
          | with_reducible refine ev_ci (m_X11_puts hok (by first | exact MR_re (by with_reducible assumption) | exact MR_re mw_R) ?_ ?_) ?_
          | omega
          | with_reducible assumption
          | with_reducible rfl
          | with_reducible refine lp_nx ?_ ?_ ?_ ?_
          | with_reducible refine lp_st ?_ ?_ ?_
          | with_reducible refine ls_c ?_ ?_
          | with_reducible refine vi_c ?_
          | with_reducible refine re_c ?_
          | with_reducible refine vz_c ?_
          | with_reducible refine rz_c ?_
          | exact trivial
          | with_reducible refine And.intro ?_ ?_
          | simp (disch := first | omega | assumption) only [ev_run_c, ev_run_n, ev_fj, ev_stp, ev_lk, ev_fv, ev_as, ev_sz, ev_st1, ev_st2, ev_rm, ev_pk, ev_Jof, ev_go, lv_args, List.map_cons, List.map_nil, List.zip_cons_cons, List.zip_nil_left, List.zip_nil_right, List.nil_append, List.cons_append, ↓reduceIte, reduceCtorEq, Int.reduceToNat, Nat.reduceEqDiff, Nat.reduceAdd, Nat.reduceLT, Nat.reduceLeDiff, Nat.reduceMul, Nat.reduceSub, Value.category, false_implies, true_and, and_true, Bool.false_eq_true, Option.some.injEq, exists_eq_left', Option.toList_some, Option.toList_none, ev_km, ev_k2, ev_k3, ev_k4, ev_k5, ev_l0, ev_l1, sh_1, sh_2, sh_3, sh_4, sh_5, at_X11_readsTogether_40, at_X11_readsTogether_44, at_X11_readsTogether_45, at_X11_readsTogether_75, ca_X11_118, ca_X11_121, ca_X11_133, ca_X11_137, ca_X11_149, ca_X11_168, cd_X11_readsTogether_0, cd_X11_readsTogether_40, cd_X11_readsTogether_44, cd_X11_readsTogether_45, cd_X11_readsTogether_75, fl_X11_62, ev_b_43, no_0, no_1, no_lt, no_le, no_eq, no_lt0, no_ge0, no_gt0, no_le0, no_eq0, no_0eq, no_eqm, no_meq, no_m0, no_mlt, no_mge, no_mgt, no_mm, no_i01, no_i10, no_in, no_or, no_ifm, no_mul, nI_add, no_sub, pk_div, iI_if, nI_clamp, oI_n, oI_s, not_true_eq_false, not_false_eq_true, forall_const, true_implies, false_and, and_false, or_false, false_or, Classical.not_not, true_or, or_true, no_b, no_eq1, eq_self, and_self, sk_301, sk_302, sl_302, sp_301, n0, w0, re_10, re_n, mw_re, mw_mw, f1, z1, p1, n1, w1, f2, z2, p2, h2, h3, nn, w9]
          | exact rfl
          | (split <;> omega))
end RItB
