/-! ===== the reference's parser: items, more (by program, wip/whole/genri.py) ===== -/
section RItC
variable {G : ev_G} {N : Nat → Nat} {B : Nat → Nat} {n : Nat} {μ μ' : ev_M}
set_option maxHeartbeats 2000000 in
theorem rx_swap (hok : ev_ok sh_S G) (hR : RB B n μ) (hN : MR N μ) (hI : INV N) {a : Nat} {v : Int32} (hv : NV B n a v) : RX G B n mi_X11_readsSwap a v μ (q_swap B n N (a + 1)) (nI9 B n N a 14) (aI9 B n N a 14) := by
  have hh := iv_h hI
  have hN1 : N 1 ≤ 10 := hh.2.1
  have n0 : nx (0, -1) a = a + 1 := rfl
  have hv1 := NV_nx (B := B) (n := n) (e := (0, -1)) (a := a) hv
  rw [n0] at hv1
  generalize w0 : nW B n (0, -1) a v = v1 at hv1
  obtain ⟨e1, f1⟩ : ∃ e, rN B n (0, -1) (a + 1) 0 (N 1) = e := ⟨_, rfl⟩
  have c1 : e1.1 < 5 := by rw [← f1]; exact rN_c (by decide)
  have hq : q_swap B n N (a + 1) = er (rN B n e1 (a + 1 + 1) 0 (N 1)) ((tvl B n (a + 1)) = (tvl B n (a + 1 + 1))) 3 (a + 1 + 1) B n := by rw [← f1]; rfl
  rw [hq]
  by_cases z1 : ¬ e1.1 = 0
  · have y : (e1.1 = 0) = False := eq_false z1
    try simp only [rN_n z1, rP_n z1, er_n z1]
    refine ⟨a + 1, v1, μ, ?_, Fw_rf, hv1, fun q => absurd q z1⟩
    refine ev_tri hok (okM_X11_readsSwap 0) (Nat.le_of_ble_eq_true rfl) 400 ?_
    rw [at_X11_readsSwap_0]
    repeat' (first
      | (with_reducible refine ev_rid ?_; simp (disch := first | omega | assumption) only [ev_run_c, ev_run_n, ev_fj, ev_stp, ev_lk, ev_fv, ev_as, ev_sz, ev_st1, ev_st2, ev_rm, ev_pk, ev_Jof, ev_go, lv_args, List.map_cons, List.map_nil, List.zip_cons_cons, List.zip_nil_left, List.zip_nil_right, List.nil_append, List.cons_append, ↓reduceIte, reduceCtorEq, Int.reduceToNat, Nat.reduceEqDiff, Nat.reduceAdd, Nat.reduceLT, Nat.reduceLeDiff, Nat.reduceMul, Nat.reduceSub, Value.category, false_implies, true_and, and_true, Bool.false_eq_true, Option.some.injEq, exists_eq_left', Option.toList_some, Option.toList_none, ev_km, ev_k2, ev_k3, ev_k4, ev_k5, ev_l0, ev_l1, sh_1, sh_2, sh_3, sh_4, sh_5, at_X11_readsSwap_24, at_X11_readsSwap_25, at_X11_readsSwap_61, ca_X11_118, ca_X11_133, ca_X11_143, ca_X11_159, ca_X11_165, ca_X11_195, cd_X11_readsSwap_0, cd_X11_readsSwap_24, cd_X11_readsSwap_25, cd_X11_readsSwap_61, fl_X11_62, no_0, no_1, no_lt, no_le, no_eq, no_lt0, no_ge0, no_gt0, no_le0, no_eq0, no_0eq, no_eqm, no_meq, no_m0, no_mlt, no_mge, no_mgt, no_mm, no_i01, no_i10, no_in, no_or, no_ifm, no_mul, nI_add, no_sub, pk_div, iI_if, nI_clamp, oI_n, oI_s, not_true_eq_false, not_false_eq_true, forall_const, true_implies, false_and, and_false, or_false, false_or, Classical.not_not, true_or, or_true, no_b, no_eq1, eq_self, and_self, sk_301, sk_302, sl_302, sp_301, n0, w0, re_10, re_n, mw_re, f1, y, rN_n z1, rP_n z1, rT_n z1, er_n z1, nx_n z1, nW_n z1])
      | (with_reducible refine ev_gid ?_; simp (disch := first | omega | assumption) only [ev_run_c, ev_run_n, ev_fj, ev_stp, ev_lk, ev_fv, ev_as, ev_sz, ev_st1, ev_st2, ev_rm, ev_pk, ev_Jof, ev_go, lv_args, List.map_cons, List.map_nil, List.zip_cons_cons, List.zip_nil_left, List.zip_nil_right, List.nil_append, List.cons_append, ↓reduceIte, reduceCtorEq, Int.reduceToNat, Nat.reduceEqDiff, Nat.reduceAdd, Nat.reduceLT, Nat.reduceLeDiff, Nat.reduceMul, Nat.reduceSub, Value.category, false_implies, true_and, and_true, Bool.false_eq_true, Option.some.injEq, exists_eq_left', Option.toList_some, Option.toList_none, ev_km, ev_k2, ev_k3, ev_k4, ev_k5, ev_l0, ev_l1, sh_1, sh_2, sh_3, sh_4, sh_5, at_X11_readsSwap_24, at_X11_readsSwap_25, at_X11_readsSwap_61, ca_X11_118, ca_X11_133, ca_X11_143, ca_X11_159, ca_X11_165, ca_X11_195, cd_X11_readsSwap_0, cd_X11_readsSwap_24, cd_X11_readsSwap_25, cd_X11_readsSwap_61, fl_X11_62, no_0, no_1, no_lt, no_le, no_eq, no_lt0, no_ge0, no_gt0, no_le0, no_eq0, no_0eq, no_eqm, no_meq, no_m0, no_mlt, no_mge, no_mgt, no_mm, no_i01, no_i10, no_in, no_or, no_ifm, no_mul, nI_add, no_sub, pk_div, iI_if, nI_clamp, oI_n, oI_s, not_true_eq_false, not_false_eq_true, forall_const, true_implies, false_and, and_false, or_false, false_or, Classical.not_not, true_or, or_true, no_b, no_eq1, eq_self, and_self, sk_301, sk_302, sl_302, sp_301, n0, w0, re_10, re_n, mw_re, f1, y, rN_n z1, rP_n z1, rT_n z1, er_n z1, nx_n z1, nW_n z1])
      | (with_reducible refine And.intro (fun q => ?_) (fun q => ?_) <;> (try simp (disch := first | omega | assumption) only [no_0, no_1, no_lt, no_le, no_eq, no_lt0, no_ge0, no_gt0, no_le0, no_eq0, no_0eq, no_eqm, no_meq, no_m0, no_mlt, no_mge, no_mgt, no_mm, no_i01, no_i10, no_in, no_or, no_ifm, no_mul, nI_add, no_sub, pk_div, iI_if, nI_clamp, oI_n, oI_s, not_true_eq_false, not_false_eq_true, forall_const, true_implies, false_and, and_false, or_false, false_or, Classical.not_not, true_or, or_true, no_b, no_eq1, eq_self, and_self, sk_301, sk_302, sl_302, sp_301, n0, w0, re_10, re_n, mw_re, f1, y, rN_n z1, rP_n z1, rT_n z1, er_n z1, nx_n z1, nW_n z1] at q))
      | with_reducible refine ev_ci (m_go hok (by first | with_reducible assumption | exact RB_mw (by with_reducible assumption)) ?_) ?_
      | with_reducible refine ev_ci (m_readPancake hok (by with_reducible assumption) (by with_reducible assumption) ?_ (by with_reducible assumption) (by with_reducible assumption)) ?_
      | with_reducible refine ev_ci (m_pancakeHere hok (by with_reducible assumption) ?_ (by with_reducible assumption) (by with_reducible assumption)) ?_
      | with_reducible refine ev_ci (m_refuses1 hok ?_) ?_
      | with_reducible refine ev_ci (m_refuses0 hok ?_) ?_
      | with_reducible refine ev_ci (m_X11_ofCake hok (by first | exact MR_re (by with_reducible assumption) | exact MR_re mw_R) ?_ ?_) ?_
      | with_reducible refine ev_ci (m_X11_putsCake hok (by first | exact MR_re (by with_reducible assumption) | exact MR_re mw_R) ?_ ?_) ?_
      | omega
      | with_reducible assumption
      | with_reducible rfl
      | with_reducible refine lp_nx ?_ ?_ ?_ ?_
      | with_reducible refine lp_st ?_ ?_ ?_
      | with_reducible refine ls_c ?_ ?_
      | with_reducible refine vi_c ?_
      | with_reducible refine re_c ?_
      | with_reducible refine vz_c ?_
      | with_reducible refine rz_c ?_
      | exact trivial
      | with_reducible refine And.intro ?_ ?_
      | simp (disch := first | omega | assumption) only [ev_run_c, ev_run_n, ev_fj, ev_stp, ev_lk, ev_fv, ev_as, ev_sz, ev_st1, ev_st2, ev_rm, ev_pk, ev_Jof, ev_go, lv_args, List.map_cons, List.map_nil, List.zip_cons_cons, List.zip_nil_left, List.zip_nil_right, List.nil_append, List.cons_append, ↓reduceIte, reduceCtorEq, Int.reduceToNat, Nat.reduceEqDiff, Nat.reduceAdd, Nat.reduceLT, Nat.reduceLeDiff, Nat.reduceMul, Nat.reduceSub, Value.category, false_implies, true_and, and_true, Bool.false_eq_true, Option.some.injEq, exists_eq_left', Option.toList_some, Option.toList_none, ev_km, ev_k2, ev_k3, ev_k4, ev_k5, ev_l0, ev_l1, sh_1, sh_2, sh_3, sh_4, sh_5, at_X11_readsSwap_24, at_X11_readsSwap_25, at_X11_readsSwap_61, ca_X11_118, ca_X11_133, ca_X11_143, ca_X11_159, ca_X11_165, ca_X11_195, cd_X11_readsSwap_0, cd_X11_readsSwap_24, cd_X11_readsSwap_25, cd_X11_readsSwap_61, fl_X11_62, no_0, no_1, no_lt, no_le, no_eq, no_lt0, no_ge0, no_gt0, no_le0, no_eq0, no_0eq, no_eqm, no_meq, no_m0, no_mlt, no_mge, no_mgt, no_mm, no_i01, no_i10, no_in, no_or, no_ifm, no_mul, nI_add, no_sub, pk_div, iI_if, nI_clamp, oI_n, oI_s, not_true_eq_false, not_false_eq_true, forall_const, true_implies, false_and, and_false, or_false, false_or, Classical.not_not, true_or, or_true, no_b, no_eq1, eq_self, and_self, sk_301, sk_302, sl_302, sp_301, n0, w0, re_10, re_n, mw_re, f1, y, rN_n z1, rP_n z1, rT_n z1, er_n z1, nx_n z1, nW_n z1]
      | exact rfl
      | (split <;> omega))
  · have z1 : e1.1 = 0 := Classical.byContradiction z1
    have g1 := z1
    rw [← f1] at g1
    have s1 := nmc_0 (rN_0 g1).2.1
    have b1 : tvl B n (a + 1) < 10 := by omega
    have n1 : nx e1 (a + 1) = a + 1 + 1 := nx_0 z1
    have hv2 := NV_nx (B := B) (n := n) (e := e1) (a := a + 1) hv1
    rw [n1] at hv2
    generalize w1 : nW B n e1 (a + 1) v1 = v2 at hv2
    obtain ⟨e2, f2⟩ : ∃ e, rN B n e1 (a + 1 + 1) 0 (N 1) = e := ⟨_, rfl⟩
    have c2 : e2.1 < 5 := by rw [← f2]; exact rN_c c1
    rw [f2]
    by_cases z2 : ¬ e2.1 = 0
    · have y : (e2.1 = 0) = False := eq_false z2
      try simp only [rN_n z2, rP_n z2, er_n z2]
      refine ⟨a + 1 + 1, v2, μ, ?_, Fw_rf, hv2, fun q => absurd q z2⟩
      refine ev_tri hok (okM_X11_readsSwap 0) (Nat.le_of_ble_eq_true rfl) 400 ?_
      rw [at_X11_readsSwap_0]
      repeat' (first
        | (with_reducible refine ev_rid ?_; simp (disch := first | omega | assumption) only [ev_run_c, ev_run_n, ev_fj, ev_stp, ev_lk, ev_fv, ev_as, ev_sz, ev_st1, ev_st2, ev_rm, ev_pk, ev_Jof, ev_go, lv_args, List.map_cons, List.map_nil, List.zip_cons_cons, List.zip_nil_left, List.zip_nil_right, List.nil_append, List.cons_append, ↓reduceIte, reduceCtorEq, Int.reduceToNat, Nat.reduceEqDiff, Nat.reduceAdd, Nat.reduceLT, Nat.reduceLeDiff, Nat.reduceMul, Nat.reduceSub, Value.category, false_implies, true_and, and_true, Bool.false_eq_true, Option.some.injEq, exists_eq_left', Option.toList_some, Option.toList_none, ev_km, ev_k2, ev_k3, ev_k4, ev_k5, ev_l0, ev_l1, sh_1, sh_2, sh_3, sh_4, sh_5, at_X11_readsSwap_24, at_X11_readsSwap_25, at_X11_readsSwap_61, ca_X11_118, ca_X11_133, ca_X11_143, ca_X11_159, ca_X11_165, ca_X11_195, cd_X11_readsSwap_0, cd_X11_readsSwap_24, cd_X11_readsSwap_25, cd_X11_readsSwap_61, fl_X11_62, no_0, no_1, no_lt, no_le, no_eq, no_lt0, no_ge0, no_gt0, no_le0, no_eq0, no_0eq, no_eqm, no_meq, no_m0, no_mlt, no_mge, no_mgt, no_mm, no_i01, no_i10, no_in, no_or, no_ifm, no_mul, nI_add, no_sub, pk_div, iI_if, nI_clamp, oI_n, oI_s, not_true_eq_false, not_false_eq_true, forall_const, true_implies, false_and, and_false, or_false, false_or, Classical.not_not, true_or, or_true, no_b, no_eq1, eq_self, and_self, sk_301, sk_302, sl_302, sp_301, n0, w0, re_10, re_n, mw_re, f1, z1, n1, w1, f2, y, rN_n z2, rP_n z2, rT_n z2, er_n z2, nx_n z2, nW_n z2])
        | (with_reducible refine ev_gid ?_; simp (disch := first | omega | assumption) only [ev_run_c, ev_run_n, ev_fj, ev_stp, ev_lk, ev_fv, ev_as, ev_sz, ev_st1, ev_st2, ev_rm, ev_pk, ev_Jof, ev_go, lv_args, List.map_cons, List.map_nil, List.zip_cons_cons, List.zip_nil_left, List.zip_nil_right, List.nil_append, List.cons_append, ↓reduceIte, reduceCtorEq, Int.reduceToNat, Nat.reduceEqDiff, Nat.reduceAdd, Nat.reduceLT, Nat.reduceLeDiff, Nat.reduceMul, Nat.reduceSub, Value.category, false_implies, true_and, and_true, Bool.false_eq_true, Option.some.injEq, exists_eq_left', Option.toList_some, Option.toList_none, ev_km, ev_k2, ev_k3, ev_k4, ev_k5, ev_l0, ev_l1, sh_1, sh_2, sh_3, sh_4, sh_5, at_X11_readsSwap_24, at_X11_readsSwap_25, at_X11_readsSwap_61, ca_X11_118, ca_X11_133, ca_X11_143, ca_X11_159, ca_X11_165, ca_X11_195, cd_X11_readsSwap_0, cd_X11_readsSwap_24, cd_X11_readsSwap_25, cd_X11_readsSwap_61, fl_X11_62, no_0, no_1, no_lt, no_le, no_eq, no_lt0, no_ge0, no_gt0, no_le0, no_eq0, no_0eq, no_eqm, no_meq, no_m0, no_mlt, no_mge, no_mgt, no_mm, no_i01, no_i10, no_in, no_or, no_ifm, no_mul, nI_add, no_sub, pk_div, iI_if, nI_clamp, oI_n, oI_s, not_true_eq_false, not_false_eq_true, forall_const, true_implies, false_and, and_false, or_false, false_or, Classical.not_not, true_or, or_true, no_b, no_eq1, eq_self, and_self, sk_301, sk_302, sl_302, sp_301, n0, w0, re_10, re_n, mw_re, f1, z1, n1, w1, f2, y, rN_n z2, rP_n z2, rT_n z2, er_n z2, nx_n z2, nW_n z2])
        | (with_reducible refine And.intro (fun q => ?_) (fun q => ?_) <;> (try simp (disch := first | omega | assumption) only [no_0, no_1, no_lt, no_le, no_eq, no_lt0, no_ge0, no_gt0, no_le0, no_eq0, no_0eq, no_eqm, no_meq, no_m0, no_mlt, no_mge, no_mgt, no_mm, no_i01, no_i10, no_in, no_or, no_ifm, no_mul, nI_add, no_sub, pk_div, iI_if, nI_clamp, oI_n, oI_s, not_true_eq_false, not_false_eq_true, forall_const, true_implies, false_and, and_false, or_false, false_or, Classical.not_not, true_or, or_true, no_b, no_eq1, eq_self, and_self, sk_301, sk_302, sl_302, sp_301, n0, w0, re_10, re_n, mw_re, f1, z1, n1, w1, f2, y, rN_n z2, rP_n z2, rT_n z2, er_n z2, nx_n z2, nW_n z2] at q))
        | with_reducible refine ev_ci (m_go hok (by first | with_reducible assumption | exact RB_mw (by with_reducible assumption)) ?_) ?_
        | with_reducible refine ev_ci (m_readPancake hok (by with_reducible assumption) (by with_reducible assumption) ?_ (by with_reducible assumption) (by with_reducible assumption)) ?_
        | with_reducible refine ev_ci (m_pancakeHere hok (by with_reducible assumption) ?_ (by with_reducible assumption) (by with_reducible assumption)) ?_
        | with_reducible refine ev_ci (m_refuses1 hok ?_) ?_
        | with_reducible refine ev_ci (m_refuses0 hok ?_) ?_
        | with_reducible refine ev_ci (m_X11_ofCake hok (by first | exact MR_re (by with_reducible assumption) | exact MR_re mw_R) ?_ ?_) ?_
        | with_reducible refine ev_ci (m_X11_putsCake hok (by first | exact MR_re (by with_reducible assumption) | exact MR_re mw_R) ?_ ?_) ?_
        | omega
        | with_reducible assumption
        | with_reducible rfl
        | with_reducible refine lp_nx ?_ ?_ ?_ ?_
        | with_reducible refine lp_st ?_ ?_ ?_
        | with_reducible refine ls_c ?_ ?_
        | with_reducible refine vi_c ?_
        | with_reducible refine re_c ?_
        | with_reducible refine vz_c ?_
        | with_reducible refine rz_c ?_
        | exact trivial
        | with_reducible refine And.intro ?_ ?_
        | simp (disch := first | omega | assumption) only [ev_run_c, ev_run_n, ev_fj, ev_stp, ev_lk, ev_fv, ev_as, ev_sz, ev_st1, ev_st2, ev_rm, ev_pk, ev_Jof, ev_go, lv_args, List.map_cons, List.map_nil, List.zip_cons_cons, List.zip_nil_left, List.zip_nil_right, List.nil_append, List.cons_append, ↓reduceIte, reduceCtorEq, Int.reduceToNat, Nat.reduceEqDiff, Nat.reduceAdd, Nat.reduceLT, Nat.reduceLeDiff, Nat.reduceMul, Nat.reduceSub, Value.category, false_implies, true_and, and_true, Bool.false_eq_true, Option.some.injEq, exists_eq_left', Option.toList_some, Option.toList_none, ev_km, ev_k2, ev_k3, ev_k4, ev_k5, ev_l0, ev_l1, sh_1, sh_2, sh_3, sh_4, sh_5, at_X11_readsSwap_24, at_X11_readsSwap_25, at_X11_readsSwap_61, ca_X11_118, ca_X11_133, ca_X11_143, ca_X11_159, ca_X11_165, ca_X11_195, cd_X11_readsSwap_0, cd_X11_readsSwap_24, cd_X11_readsSwap_25, cd_X11_readsSwap_61, fl_X11_62, no_0, no_1, no_lt, no_le, no_eq, no_lt0, no_ge0, no_gt0, no_le0, no_eq0, no_0eq, no_eqm, no_meq, no_m0, no_mlt, no_mge, no_mgt, no_mm, no_i01, no_i10, no_in, no_or, no_ifm, no_mul, nI_add, no_sub, pk_div, iI_if, nI_clamp, oI_n, oI_s, not_true_eq_false, not_false_eq_true, forall_const, true_implies, false_and, and_false, or_false, false_or, Classical.not_not, true_or, or_true, no_b, no_eq1, eq_self, and_self, sk_301, sk_302, sl_302, sp_301, n0, w0, re_10, re_n, mw_re, f1, z1, n1, w1, f2, y, rN_n z2, rP_n z2, rT_n z2, er_n z2, nx_n z2, nW_n z2]
        | exact rfl
        | (split <;> omega))
    · have z2 : e2.1 = 0 := Classical.byContradiction z2
      have g2 := z2
      rw [← f2] at g2
      have s2 := nmc_0 (rN_0 g2).2.1
      have b2 : tvl B n (a + 1 + 1) < 10 := by omega
      by_cases hc : (tvl B n (a + 1)) = (tvl B n (a + 1 + 1))
      · rw [er_True hc]
        obtain ⟨e9, f9⟩ : ∃ e, er e2 True 3 (a + 1 + 1) B n = e := ⟨_, rfl⟩
        have c9 : e9.1 < 5 := by rw [← f9]; exact er_c c2 (by decide)
        have z9 : ¬ e9.1 = 0 := by rw [← f9, er_T z2]; exact Nat.succ_ne_zero _
        have y : (e9.1 = 0) = False := eq_false z9
        rw [f9]
        refine ⟨a + 1 + 1, v2, μ, ?_, Fw_rf, hv2, fun q => absurd q z9⟩
        refine ev_tri hok (okM_X11_readsSwap 0) (Nat.le_of_ble_eq_true rfl) 400 ?_
        rw [at_X11_readsSwap_0]
        repeat' (first
          | (with_reducible refine ev_rid ?_; simp (disch := first | omega | assumption) only [ev_run_c, ev_run_n, ev_fj, ev_stp, ev_lk, ev_fv, ev_as, ev_sz, ev_st1, ev_st2, ev_rm, ev_pk, ev_Jof, ev_go, lv_args, List.map_cons, List.map_nil, List.zip_cons_cons, List.zip_nil_left, List.zip_nil_right, List.nil_append, List.cons_append, ↓reduceIte, reduceCtorEq, Int.reduceToNat, Nat.reduceEqDiff, Nat.reduceAdd, Nat.reduceLT, Nat.reduceLeDiff, Nat.reduceMul, Nat.reduceSub, Value.category, false_implies, true_and, and_true, Bool.false_eq_true, Option.some.injEq, exists_eq_left', Option.toList_some, Option.toList_none, ev_km, ev_k2, ev_k3, ev_k4, ev_k5, ev_l0, ev_l1, sh_1, sh_2, sh_3, sh_4, sh_5, at_X11_readsSwap_24, at_X11_readsSwap_25, at_X11_readsSwap_61, ca_X11_118, ca_X11_133, ca_X11_143, ca_X11_159, ca_X11_165, ca_X11_195, cd_X11_readsSwap_0, cd_X11_readsSwap_24, cd_X11_readsSwap_25, cd_X11_readsSwap_61, fl_X11_62, no_0, no_1, no_lt, no_le, no_eq, no_lt0, no_ge0, no_gt0, no_le0, no_eq0, no_0eq, no_eqm, no_meq, no_m0, no_mlt, no_mge, no_mgt, no_mm, no_i01, no_i10, no_in, no_or, no_ifm, no_mul, nI_add, no_sub, pk_div, iI_if, nI_clamp, oI_n, oI_s, not_true_eq_false, not_false_eq_true, forall_const, true_implies, false_and, and_false, or_false, false_or, Classical.not_not, true_or, or_true, no_b, no_eq1, eq_self, and_self, sk_301, sk_302, sl_302, sp_301, n0, w0, re_10, re_n, mw_re, f1, z1, n1, w1, f2, z2, f9, y, nx_n z9, nW_n z9])
          | (with_reducible refine ev_gid ?_; simp (disch := first | omega | assumption) only [ev_run_c, ev_run_n, ev_fj, ev_stp, ev_lk, ev_fv, ev_as, ev_sz, ev_st1, ev_st2, ev_rm, ev_pk, ev_Jof, ev_go, lv_args, List.map_cons, List.map_nil, List.zip_cons_cons, List.zip_nil_left, List.zip_nil_right, List.nil_append, List.cons_append, ↓reduceIte, reduceCtorEq, Int.reduceToNat, Nat.reduceEqDiff, Nat.reduceAdd, Nat.reduceLT, Nat.reduceLeDiff, Nat.reduceMul, Nat.reduceSub, Value.category, false_implies, true_and, and_true, Bool.false_eq_true, Option.some.injEq, exists_eq_left', Option.toList_some, Option.toList_none, ev_km, ev_k2, ev_k3, ev_k4, ev_k5, ev_l0, ev_l1, sh_1, sh_2, sh_3, sh_4, sh_5, at_X11_readsSwap_24, at_X11_readsSwap_25, at_X11_readsSwap_61, ca_X11_118, ca_X11_133, ca_X11_143, ca_X11_159, ca_X11_165, ca_X11_195, cd_X11_readsSwap_0, cd_X11_readsSwap_24, cd_X11_readsSwap_25, cd_X11_readsSwap_61, fl_X11_62, no_0, no_1, no_lt, no_le, no_eq, no_lt0, no_ge0, no_gt0, no_le0, no_eq0, no_0eq, no_eqm, no_meq, no_m0, no_mlt, no_mge, no_mgt, no_mm, no_i01, no_i10, no_in, no_or, no_ifm, no_mul, nI_add, no_sub, pk_div, iI_if, nI_clamp, oI_n, oI_s, not_true_eq_false, not_false_eq_true, forall_const, true_implies, false_and, and_false, or_false, false_or, Classical.not_not, true_or, or_true, no_b, no_eq1, eq_self, and_self, sk_301, sk_302, sl_302, sp_301, n0, w0, re_10, re_n, mw_re, f1, z1, n1, w1, f2, z2, f9, y, nx_n z9, nW_n z9])
          | (with_reducible refine And.intro (fun q => ?_) (fun q => ?_) <;> (try simp (disch := first | omega | assumption) only [no_0, no_1, no_lt, no_le, no_eq, no_lt0, no_ge0, no_gt0, no_le0, no_eq0, no_0eq, no_eqm, no_meq, no_m0, no_mlt, no_mge, no_mgt, no_mm, no_i01, no_i10, no_in, no_or, no_ifm, no_mul, nI_add, no_sub, pk_div, iI_if, nI_clamp, oI_n, oI_s, not_true_eq_false, not_false_eq_true, forall_const, true_implies, false_and, and_false, or_false, false_or, Classical.not_not, true_or, or_true, no_b, no_eq1, eq_self, and_self, sk_301, sk_302, sl_302, sp_301, n0, w0, re_10, re_n, mw_re, f1, z1, n1, w1, f2, z2, f9, y, nx_n z9, nW_n z9] at q))
          | with_reducible refine ev_ci (m_go hok (by first | with_reducible assumption | exact RB_mw (by with_reducible assumption)) ?_) ?_
          | with_reducible refine ev_ci (m_readPancake hok (by with_reducible assumption) (by with_reducible assumption) ?_ (by with_reducible assumption) (by with_reducible assumption)) ?_
          | with_reducible refine ev_ci (m_pancakeHere hok (by with_reducible assumption) ?_ (by with_reducible assumption) (by with_reducible assumption)) ?_
          | with_reducible refine ev_ci (m_refuses1 hok ?_) ?_
          | with_reducible refine ev_ci (m_refuses0 hok ?_) ?_
          | with_reducible refine ev_ci (m_X11_ofCake hok (by first | exact MR_re (by with_reducible assumption) | exact MR_re mw_R) ?_ ?_) ?_
          | with_reducible refine ev_ci (m_X11_putsCake hok (by first | exact MR_re (by with_reducible assumption) | exact MR_re mw_R) ?_ ?_) ?_
          | omega
          | with_reducible assumption
          | with_reducible rfl
          | with_reducible refine lp_nx ?_ ?_ ?_ ?_
          | with_reducible refine lp_st ?_ ?_ ?_
          | with_reducible refine ls_c ?_ ?_
          | with_reducible refine vi_c ?_
          | with_reducible refine re_c ?_
          | with_reducible refine vz_c ?_
          | with_reducible refine rz_c ?_
          | exact trivial
          | with_reducible refine And.intro ?_ ?_
          | simp (disch := first | omega | assumption) only [ev_run_c, ev_run_n, ev_fj, ev_stp, ev_lk, ev_fv, ev_as, ev_sz, ev_st1, ev_st2, ev_rm, ev_pk, ev_Jof, ev_go, lv_args, List.map_cons, List.map_nil, List.zip_cons_cons, List.zip_nil_left, List.zip_nil_right, List.nil_append, List.cons_append, ↓reduceIte, reduceCtorEq, Int.reduceToNat, Nat.reduceEqDiff, Nat.reduceAdd, Nat.reduceLT, Nat.reduceLeDiff, Nat.reduceMul, Nat.reduceSub, Value.category, false_implies, true_and, and_true, Bool.false_eq_true, Option.some.injEq, exists_eq_left', Option.toList_some, Option.toList_none, ev_km, ev_k2, ev_k3, ev_k4, ev_k5, ev_l0, ev_l1, sh_1, sh_2, sh_3, sh_4, sh_5, at_X11_readsSwap_24, at_X11_readsSwap_25, at_X11_readsSwap_61, ca_X11_118, ca_X11_133, ca_X11_143, ca_X11_159, ca_X11_165, ca_X11_195, cd_X11_readsSwap_0, cd_X11_readsSwap_24, cd_X11_readsSwap_25, cd_X11_readsSwap_61, fl_X11_62, no_0, no_1, no_lt, no_le, no_eq, no_lt0, no_ge0, no_gt0, no_le0, no_eq0, no_0eq, no_eqm, no_meq, no_m0, no_mlt, no_mge, no_mgt, no_mm, no_i01, no_i10, no_in, no_or, no_ifm, no_mul, nI_add, no_sub, pk_div, iI_if, nI_clamp, oI_n, oI_s, not_true_eq_false, not_false_eq_true, forall_const, true_implies, false_and, and_false, or_false, false_or, Classical.not_not, true_or, or_true, no_b, no_eq1, eq_self, and_self, sk_301, sk_302, sl_302, sp_301, n0, w0, re_10, re_n, mw_re, f1, z1, n1, w1, f2, z2, f9, y, nx_n z9, nW_n z9]
          | exact rfl
          | (split <;> omega))
      · rw [er_f hc]
        have h3 : up (up N (952 + 9 * (tvl B n (a + 1)) + 0) (N (952 + 9 * (tvl B n (a + 1 + 1)) + 0))) (952 + 9 * (tvl B n (a + 1 + 1)) + 0) (N (952 + 9 * (tvl B n (a + 1)) + 0)) = swN N (tvl B n (a + 1)) (tvl B n (a + 1 + 1)) := rfl
        have nn : nx e2 (a + 1 + 1) = a + 1 + 1 + 1 := nx_0 z2
        have hv9 := NV_nx (B := B) (n := n) (e := e2) (a := a + 1 + 1) hv2
        rw [nn] at hv9
        generalize w9 : nW B n e2 (a + 1 + 1) v2 = v9 at hv9
        refine ⟨a + 1 + 1 + 1, v9, mw μ (swN N (tvl B n (a + 1)) (tvl B n (a + 1 + 1))), ?_, Fw_mw, hv9, fun _ => ⟨rfl, mw_R⟩⟩
        refine ev_tri hok (okM_X11_readsSwap 0) (Nat.le_of_ble_eq_true rfl) 400 ?_
        rw [at_X11_readsSwap_0]
        repeat' (first
          | (with_reducible refine ev_rid ?_; simp (disch := first | omega | assumption) only [ev_run_c, ev_run_n, ev_fj, ev_stp, ev_lk, ev_fv, ev_as, ev_sz, ev_st1, ev_st2, ev_rm, ev_pk, ev_Jof, ev_go, lv_args, List.map_cons, List.map_nil, List.zip_cons_cons, List.zip_nil_left, List.zip_nil_right, List.nil_append, List.cons_append, ↓reduceIte, reduceCtorEq, Int.reduceToNat, Nat.reduceEqDiff, Nat.reduceAdd, Nat.reduceLT, Nat.reduceLeDiff, Nat.reduceMul, Nat.reduceSub, Value.category, false_implies, true_and, and_true, Bool.false_eq_true, Option.some.injEq, exists_eq_left', Option.toList_some, Option.toList_none, ev_km, ev_k2, ev_k3, ev_k4, ev_k5, ev_l0, ev_l1, sh_1, sh_2, sh_3, sh_4, sh_5, at_X11_readsSwap_24, at_X11_readsSwap_25, at_X11_readsSwap_61, ca_X11_118, ca_X11_133, ca_X11_143, ca_X11_159, ca_X11_165, ca_X11_195, cd_X11_readsSwap_0, cd_X11_readsSwap_24, cd_X11_readsSwap_25, cd_X11_readsSwap_61, fl_X11_62, no_0, no_1, no_lt, no_le, no_eq, no_lt0, no_ge0, no_gt0, no_le0, no_eq0, no_0eq, no_eqm, no_meq, no_m0, no_mlt, no_mge, no_mgt, no_mm, no_i01, no_i10, no_in, no_or, no_ifm, no_mul, nI_add, no_sub, pk_div, iI_if, nI_clamp, oI_n, oI_s, not_true_eq_false, not_false_eq_true, forall_const, true_implies, false_and, and_false, or_false, false_or, Classical.not_not, true_or, or_true, no_b, no_eq1, eq_self, and_self, sk_301, sk_302, sl_302, sp_301, n0, w0, re_10, re_n, mw_re, mw_mw, f1, z1, n1, w1, f2, z2, h3, nn, w9])
          | (with_reducible refine ev_gid ?_; simp (disch := first | omega | assumption) only [ev_run_c, ev_run_n, ev_fj, ev_stp, ev_lk, ev_fv, ev_as, ev_sz, ev_st1, ev_st2, ev_rm, ev_pk, ev_Jof, ev_go, lv_args, List.map_cons, List.map_nil, List.zip_cons_cons, List.zip_nil_left, List.zip_nil_right, List.nil_append, List.cons_append, ↓reduceIte, reduceCtorEq, Int.reduceToNat, Nat.reduceEqDiff, Nat.reduceAdd, Nat.reduceLT, Nat.reduceLeDiff, Nat.reduceMul, Nat.reduceSub, Value.category, false_implies, true_and, and_true, Bool.false_eq_true, Option.some.injEq, exists_eq_left', Option.toList_some, Option.toList_none, ev_km, ev_k2, ev_k3, ev_k4, ev_k5, ev_l0, ev_l1, sh_1, sh_2, sh_3, sh_4, sh_5, at_X11_readsSwap_24, at_X11_readsSwap_25, at_X11_readsSwap_61, ca_X11_118, ca_X11_133, ca_X11_143, ca_X11_159, ca_X11_165, ca_X11_195, cd_X11_readsSwap_0, cd_X11_readsSwap_24, cd_X11_readsSwap_25, cd_X11_readsSwap_61, fl_X11_62, no_0, no_1, no_lt, no_le, no_eq, no_lt0, no_ge0, no_gt0, no_le0, no_eq0, no_0eq, no_eqm, no_meq, no_m0, no_mlt, no_mge, no_mgt, no_mm, no_i01, no_i10, no_in, no_or, no_ifm, no_mul, nI_add, no_sub, pk_div, iI_if, nI_clamp, oI_n, oI_s, not_true_eq_false, not_false_eq_true, forall_const, true_implies, false_and, and_false, or_false, false_or, Classical.not_not, true_or, or_true, no_b, no_eq1, eq_self, and_self, sk_301, sk_302, sl_302, sp_301, n0, w0, re_10, re_n, mw_re, mw_mw, f1, z1, n1, w1, f2, z2, h3, nn, w9])
          | (with_reducible refine And.intro (fun q => ?_) (fun q => ?_) <;> (try simp (disch := first | omega | assumption) only [no_0, no_1, no_lt, no_le, no_eq, no_lt0, no_ge0, no_gt0, no_le0, no_eq0, no_0eq, no_eqm, no_meq, no_m0, no_mlt, no_mge, no_mgt, no_mm, no_i01, no_i10, no_in, no_or, no_ifm, no_mul, nI_add, no_sub, pk_div, iI_if, nI_clamp, oI_n, oI_s, not_true_eq_false, not_false_eq_true, forall_const, true_implies, false_and, and_false, or_false, false_or, Classical.not_not, true_or, or_true, no_b, no_eq1, eq_self, and_self, sk_301, sk_302, sl_302, sp_301, n0, w0, re_10, re_n, mw_re, mw_mw, f1, z1, n1, w1, f2, z2, h3, nn, w9] at q))
          | with_reducible refine ev_ci (m_go hok (by first | with_reducible assumption | exact RB_mw (by with_reducible assumption)) ?_) ?_
          | with_reducible refine ev_ci (m_readPancake hok (by with_reducible assumption) (by with_reducible assumption) ?_ (by with_reducible assumption) (by with_reducible assumption)) ?_
          | with_reducible refine ev_ci (m_pancakeHere hok (by with_reducible assumption) ?_ (by with_reducible assumption) (by with_reducible assumption)) ?_
          | with_reducible refine ev_ci (m_refuses1 hok ?_) ?_
          | with_reducible refine ev_ci (m_refuses0 hok ?_) ?_
          | with_reducible refine ev_ci (m_X11_ofCake hok (by first | exact MR_re (by with_reducible assumption) | exact MR_re mw_R) ?_ ?_) ?_
          | with_reducible refine ev_ci (m_X11_putsCake hok (by first | exact MR_re (by with_reducible assumption) | exact MR_re mw_R) ?_ ?_) ?_
          | omega
          | with_reducible assumption
          | with_reducible rfl
          | with_reducible refine lp_nx ?_ ?_ ?_ ?_
          | with_reducible refine lp_st ?_ ?_ ?_
          | with_reducible refine ls_c ?_ ?_
          | with_reducible refine vi_c ?_
          | with_reducible refine re_c ?_
          | with_reducible refine vz_c ?_
          | with_reducible refine rz_c ?_
          | exact trivial
          | with_reducible refine And.intro ?_ ?_
          | simp (disch := first | omega | assumption) only [ev_run_c, ev_run_n, ev_fj, ev_stp, ev_lk, ev_fv, ev_as, ev_sz, ev_st1, ev_st2, ev_rm, ev_pk, ev_Jof, ev_go, lv_args, List.map_cons, List.map_nil, List.zip_cons_cons, List.zip_nil_left, List.zip_nil_right, List.nil_append, List.cons_append, ↓reduceIte, reduceCtorEq, Int.reduceToNat, Nat.reduceEqDiff, Nat.reduceAdd, Nat.reduceLT, Nat.reduceLeDiff, Nat.reduceMul, Nat.reduceSub, Value.category, false_implies, true_and, and_true, Bool.false_eq_true, Option.some.injEq, exists_eq_left', Option.toList_some, Option.toList_none, ev_km, ev_k2, ev_k3, ev_k4, ev_k5, ev_l0, ev_l1, sh_1, sh_2, sh_3, sh_4, sh_5, at_X11_readsSwap_24, at_X11_readsSwap_25, at_X11_readsSwap_61, ca_X11_118, ca_X11_133, ca_X11_143, ca_X11_159, ca_X11_165, ca_X11_195, cd_X11_readsSwap_0, cd_X11_readsSwap_24, cd_X11_readsSwap_25, cd_X11_readsSwap_61, fl_X11_62, no_0, no_1, no_lt, no_le, no_eq, no_lt0, no_ge0, no_gt0, no_le0, no_eq0, no_0eq, no_eqm, no_meq, no_m0, no_mlt, no_mge, no_mgt, no_mm, no_i01, no_i10, no_in, no_or, no_ifm, no_mul, nI_add, no_sub, pk_div, iI_if, nI_clamp, oI_n, oI_s, not_true_eq_false, not_false_eq_true, forall_const, true_implies, false_and, and_false, or_false, false_or, Classical.not_not, true_or, or_true, no_b, no_eq1, eq_self, and_self, sk_301, sk_302, sl_302, sp_301, n0, w0, re_10, re_n, mw_re, mw_mw, f1, z1, n1, w1, f2, z2, h3, nn, w9]
          | exact rfl
          | (split <;> omega))
theorem ms_re {e : Nat × Int32} {a : Nat} {v : Int32} {N' g : Nat → Nat} : ms (re B n e a v μ) N' g = re B n e a v (ms μ N' g) := by
  refine Prod.ext (funext fun b => funext fun j => ?_) rfl
  show (if b = 302 ∧ j < 1042 then nI (N' j) else if b = 308 ∧ j < 10 then nI (g j) else (re B n e a v μ).1 b j) = (re B n e a v (ms μ N' g)).1 b j
  by_cases h : b = 301
  · rw [if_neg (by omega), if_neg (by omega)]
    subst h
    show (q6 _ _ _ _ _ μ).1 301 j = (q6 _ _ _ _ _ (ms μ N' g)).1 301 j
    rw [q6_at, q6_at]
    have e9 : (ms μ N' g).1 301 j = μ.1 301 j := ms_1 (by omega) (by omega)
    rw [e9]
  · rw [re_n h, re_n h]
    rfl
set_option maxHeartbeats 1000000 in
theorem rx_fill (hok : ev_ok sh_S G) (hR : RB B n μ) (hN : MR N μ) (hI : INV N) {a : Nat} {v : Int32} (hv : NV B n a v) : RX G B n mi_X11_readsFill a v μ (0, -1) (nI9 B n N a 8) (aI9 B n N a 8) := by
  have n0 : nx (0, -1) a = a + 1 := rfl
  have hv1 := NV_nx (B := B) (n := n) (e := (0, -1)) (a := a) hv
  rw [n0] at hv1
  generalize w0 : nW B n (0, -1) a v = v1 at hv1
  have hf := m_X11_fills (μ := re B n (0, -1) a v μ) hok (MR_re hN) hI
  have e1 : ms (re B n (0, -1) a v μ) (flN N) (flG N) = re B n (0, -1) a v (ms μ (flN N) (flG N)) := ms_re
  rw [e1] at hf
  have hF : Fw μ (ms μ (flN N) (flG N)) := ⟨fun a k h1 h2 => ms_1 h1 h2, rfl⟩
  have hR2 := RB_fw hR hF
  refine ⟨a + 1, v1, ms μ (flN N) (flG N), ?_, hF, hv1, fun _ => ⟨rfl, ms_R⟩⟩
  refine ev_tri hok (okM_X11_readsFill 0) (Nat.le_of_ble_eq_true rfl) 400 ?_
  rw [at_X11_readsFill_0]
  repeat' (first
    | (with_reducible refine ev_rid ?_; simp (disch := first | omega | assumption) only [ev_run_c, ev_run_n, ev_fj, ev_stp, ev_lk, ev_fv, ev_as, ev_sz, ev_st1, ev_st2, ev_rm, ev_pk, ev_Jof, ev_go, lv_args, List.map_cons, List.map_nil, List.zip_cons_cons, List.zip_nil_left, List.zip_nil_right, List.nil_append, List.cons_append, ↓reduceIte, reduceCtorEq, Int.reduceToNat, Nat.reduceEqDiff, Nat.reduceAdd, Nat.reduceLT, Nat.reduceLeDiff, Nat.reduceMul, Nat.reduceSub, Value.category, false_implies, true_and, and_true, Bool.false_eq_true, Option.some.injEq, exists_eq_left', Option.toList_some, Option.toList_none, ev_km, ev_k2, ev_k3, ev_k4, ev_k5, ev_l0, ev_l1, sh_1, sh_2, sh_3, sh_4, sh_5, ca_X11_118, ca_X11_177, cd_X11_readsFill_0, no_0, no_1, no_lt, no_le, no_eq, no_lt0, no_ge0, no_gt0, no_le0, no_eq0, no_0eq, no_eqm, no_meq, no_m0, no_mlt, no_mge, no_mgt, no_mm, no_i01, no_i10, no_in, no_or, no_ifm, no_mul, nI_add, no_sub, pk_div, iI_if, nI_clamp, oI_n, oI_s, not_true_eq_false, not_false_eq_true, forall_const, true_implies, false_and, and_false, or_false, false_or, Classical.not_not, true_or, or_true, no_b, no_eq1, eq_self, and_self, sk_301, sk_302, sl_302, sp_301, n0, w0, re_10])
    | (with_reducible refine ev_gid ?_; simp (disch := first | omega | assumption) only [ev_run_c, ev_run_n, ev_fj, ev_stp, ev_lk, ev_fv, ev_as, ev_sz, ev_st1, ev_st2, ev_rm, ev_pk, ev_Jof, ev_go, lv_args, List.map_cons, List.map_nil, List.zip_cons_cons, List.zip_nil_left, List.zip_nil_right, List.nil_append, List.cons_append, ↓reduceIte, reduceCtorEq, Int.reduceToNat, Nat.reduceEqDiff, Nat.reduceAdd, Nat.reduceLT, Nat.reduceLeDiff, Nat.reduceMul, Nat.reduceSub, Value.category, false_implies, true_and, and_true, Bool.false_eq_true, Option.some.injEq, exists_eq_left', Option.toList_some, Option.toList_none, ev_km, ev_k2, ev_k3, ev_k4, ev_k5, ev_l0, ev_l1, sh_1, sh_2, sh_3, sh_4, sh_5, ca_X11_118, ca_X11_177, cd_X11_readsFill_0, no_0, no_1, no_lt, no_le, no_eq, no_lt0, no_ge0, no_gt0, no_le0, no_eq0, no_0eq, no_eqm, no_meq, no_m0, no_mlt, no_mge, no_mgt, no_mm, no_i01, no_i10, no_in, no_or, no_ifm, no_mul, nI_add, no_sub, pk_div, iI_if, nI_clamp, oI_n, oI_s, not_true_eq_false, not_false_eq_true, forall_const, true_implies, false_and, and_false, or_false, false_or, Classical.not_not, true_or, or_true, no_b, no_eq1, eq_self, and_self, sk_301, sk_302, sl_302, sp_301, n0, w0, re_10])
    | (with_reducible refine And.intro (fun q => ?_) (fun q => ?_) <;> (try simp (disch := first | omega | assumption) only [no_0, no_1, no_lt, no_le, no_eq, no_lt0, no_ge0, no_gt0, no_le0, no_eq0, no_0eq, no_eqm, no_meq, no_m0, no_mlt, no_mge, no_mgt, no_mm, no_i01, no_i10, no_in, no_or, no_ifm, no_mul, nI_add, no_sub, pk_div, iI_if, nI_clamp, oI_n, oI_s, not_true_eq_false, not_false_eq_true, forall_const, true_implies, false_and, and_false, or_false, false_or, Classical.not_not, true_or, or_true, no_b, no_eq1, eq_self, and_self, sk_301, sk_302, sl_302, sp_301, n0, w0, re_10] at q))
    | (with_reducible refine ev_ci hf ?_)
    | with_reducible refine ev_ci (m_X11_fills hok (by first | with_reducible assumption | exact mw_R | exact ms_R) (by with_reducible assumption)) ?_
    | with_reducible refine ev_ci (m_go hok (by first | with_reducible assumption | exact RB_mw (by with_reducible assumption)) ?_) ?_
    | omega
    | with_reducible assumption
    | with_reducible rfl
    | with_reducible refine lp_nx ?_ ?_ ?_ ?_
    | with_reducible refine lp_st ?_ ?_ ?_
    | with_reducible refine ls_c ?_ ?_
    | with_reducible refine vi_c ?_
    | with_reducible refine re_c ?_
    | with_reducible refine vz_c ?_
    | with_reducible refine rz_c ?_
    | exact trivial
    | with_reducible refine And.intro ?_ ?_
    | simp (disch := first | omega | assumption) only [ev_run_c, ev_run_n, ev_fj, ev_stp, ev_lk, ev_fv, ev_as, ev_sz, ev_st1, ev_st2, ev_rm, ev_pk, ev_Jof, ev_go, lv_args, List.map_cons, List.map_nil, List.zip_cons_cons, List.zip_nil_left, List.zip_nil_right, List.nil_append, List.cons_append, ↓reduceIte, reduceCtorEq, Int.reduceToNat, Nat.reduceEqDiff, Nat.reduceAdd, Nat.reduceLT, Nat.reduceLeDiff, Nat.reduceMul, Nat.reduceSub, Value.category, false_implies, true_and, and_true, Bool.false_eq_true, Option.some.injEq, exists_eq_left', Option.toList_some, Option.toList_none, ev_km, ev_k2, ev_k3, ev_k4, ev_k5, ev_l0, ev_l1, sh_1, sh_2, sh_3, sh_4, sh_5, ca_X11_118, ca_X11_177, cd_X11_readsFill_0, no_0, no_1, no_lt, no_le, no_eq, no_lt0, no_ge0, no_gt0, no_le0, no_eq0, no_0eq, no_eqm, no_meq, no_m0, no_mlt, no_mge, no_mgt, no_mm, no_i01, no_i10, no_in, no_or, no_ifm, no_mul, nI_add, no_sub, pk_div, iI_if, nI_clamp, oI_n, oI_s, not_true_eq_false, not_false_eq_true, forall_const, true_implies, false_and, and_false, or_false, false_or, Classical.not_not, true_or, or_true, no_b, no_eq1, eq_self, and_self, sk_301, sk_302, sl_302, sp_301, n0, w0, re_10]
    | exact rfl
    | (split <;> omega))

end RItC
