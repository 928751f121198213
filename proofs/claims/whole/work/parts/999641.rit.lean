/-! ===== the reference's parser: items with loops ===== -/
section RItD
variable {G : ev_G} {N : Nat → Nat} {B : Nat → Nat} {n : Nat} {μ μ' : ev_M}
set_option maxHeartbeats 2000000 in
theorem rx_clear (hok : ev_ok sh_S G) (hR : RB B n μ) (hN : MR N μ) (hI : INV N) {a : Nat} {v : Int32} (hv : NV B n a v) : RX G B n mi_X11_readsClear a v μ (q_clear B n N (a + 1)) (nI9 B n N a 15) (aI9 B n N a 15) := by
  have hh := iv_h hI
  have hN1 : N 1 ≤ 10 := hh.2.1
  have n0 : nx (0, -1) a = a + 1 := rfl
  have hv1 := NV_nx (B := B) (n := n) (e := (0, -1)) (a := a) hv
  rw [n0] at hv1
  generalize w0 : nW B n (0, -1) a v = v1 at hv1
  obtain ⟨e1, f1⟩ : ∃ e, rN B n (0, -1) (a + 1) 0 (N 1) = e := ⟨_, rfl⟩
  have c1 : e1.1 < 5 := by rw [← f1]; exact rN_c (by decide)
  have hq : q_clear B n N (a + 1) = e1 := by rw [← f1]; rfl
  rw [hq]
  by_cases z1 : ¬ e1.1 = 0
  · have y : (e1.1 = 0) = False := eq_false z1
    refine ⟨a + 1, v1, μ, ?_, Fw_rf, hv1, fun q => absurd q z1⟩
    refine ev_tri hok (okM_X11_readsClear 0) (Nat.le_of_ble_eq_true rfl) 400 ?_
    rw [at_X11_readsClear_0]
    repeat' (first
      | (with_reducible refine ev_rid ?_; simp (disch := first | omega | assumption) only [ev_run_c, ev_run_n, ev_fj, ev_stp, ev_lk, ev_fv, ev_as, ev_sz, ev_st1, ev_st2, ev_rm, ev_pk, ev_Jof, ev_go, lv_args, List.map_cons, List.map_nil, List.zip_cons_cons, List.zip_nil_left, List.zip_nil_right, List.nil_append, List.cons_append, ↓reduceIte, reduceCtorEq, Int.reduceToNat, Nat.reduceEqDiff, Nat.reduceAdd, Nat.reduceLT, Nat.reduceLeDiff, Nat.reduceMul, Nat.reduceSub, Value.category, false_implies, true_and, and_true, Bool.false_eq_true, Option.some.injEq, exists_eq_left', Option.toList_some, Option.toList_none, ev_km, ev_k2, ev_k3, ev_k4, ev_k5, ev_l0, ev_l1, sh_1, sh_2, sh_3, sh_4, sh_5, at_X11_readsClear_41, at_X11_readsClear_9, ca_X11_118, ca_X11_143, ca_X11_186, ca_X11_195, cd_X11_readsClear_0, cd_X11_readsClear_41, cd_X11_readsClear_9, fl_X11_62, ev_b_6, no_0, no_1, no_lt, no_le, no_eq, no_lt0, no_ge0, no_gt0, no_le0, no_eq0, no_0eq, no_eqm, no_meq, no_m0, no_mlt, no_mge, no_mgt, no_mm, no_i01, no_i10, no_in, no_or, no_ifm, no_mul, nI_add, no_sub, pk_div, iI_if, nI_clamp, oI_n, oI_s, not_true_eq_false, not_false_eq_true, forall_const, true_implies, false_and, and_false, or_false, false_or, Classical.not_not, true_or, or_true, no_b, no_eq1, eq_self, and_self, sk_301, sk_302, sl_302, sp_301, n0, w0, re_10, re_n, mw_re, f1, y, nx_n z1, nW_n z1])
      | (with_reducible refine ev_gid ?_; simp (disch := first | omega | assumption) only [ev_run_c, ev_run_n, ev_fj, ev_stp, ev_lk, ev_fv, ev_as, ev_sz, ev_st1, ev_st2, ev_rm, ev_pk, ev_Jof, ev_go, lv_args, List.map_cons, List.map_nil, List.zip_cons_cons, List.zip_nil_left, List.zip_nil_right, List.nil_append, List.cons_append, ↓reduceIte, reduceCtorEq, Int.reduceToNat, Nat.reduceEqDiff, Nat.reduceAdd, Nat.reduceLT, Nat.reduceLeDiff, Nat.reduceMul, Nat.reduceSub, Value.category, false_implies, true_and, and_true, Bool.false_eq_true, Option.some.injEq, exists_eq_left', Option.toList_some, Option.toList_none, ev_km, ev_k2, ev_k3, ev_k4, ev_k5, ev_l0, ev_l1, sh_1, sh_2, sh_3, sh_4, sh_5, at_X11_readsClear_41, at_X11_readsClear_9, ca_X11_118, ca_X11_143, ca_X11_186, ca_X11_195, cd_X11_readsClear_0, cd_X11_readsClear_41, cd_X11_readsClear_9, fl_X11_62, ev_b_6, no_0, no_1, no_lt, no_le, no_eq, no_lt0, no_ge0, no_gt0, no_le0, no_eq0, no_0eq, no_eqm, no_meq, no_m0, no_mlt, no_mge, no_mgt, no_mm, no_i01, no_i10, no_in, no_or, no_ifm, no_mul, nI_add, no_sub, pk_div, iI_if, nI_clamp, oI_n, oI_s, not_true_eq_false, not_false_eq_true, forall_const, true_implies, false_and, and_false, or_false, false_or, Classical.not_not, true_or, or_true, no_b, no_eq1, eq_self, and_self, sk_301, sk_302, sl_302, sp_301, n0, w0, re_10, re_n, mw_re, f1, y, nx_n z1, nW_n z1])
      | (with_reducible refine And.intro (fun q => ?_) (fun q => ?_) <;> (try simp (disch := first | omega | assumption) only [no_0, no_1, no_lt, no_le, no_eq, no_lt0, no_ge0, no_gt0, no_le0, no_eq0, no_0eq, no_eqm, no_meq, no_m0, no_mlt, no_mge, no_mgt, no_mm, no_i01, no_i10, no_in, no_or, no_ifm, no_mul, nI_add, no_sub, pk_div, iI_if, nI_clamp, oI_n, oI_s, not_true_eq_false, not_false_eq_true, forall_const, true_implies, false_and, and_false, or_false, false_or, Classical.not_not, true_or, or_true, no_b, no_eq1, eq_self, and_self, sk_301, sk_302, sl_302, sp_301, n0, w0, re_10, re_n, mw_re, f1, y, nx_n z1, nW_n z1] at q))
      | with_reducible refine ev_ci (m_go hok (by first | with_reducible assumption | exact RB_mw (by with_reducible assumption)) ?_) ?_
      | with_reducible refine ev_ci (m_pancakeHere hok (by with_reducible assumption) ?_ (by with_reducible assumption) (by with_reducible assumption)) ?_
      | with_reducible refine ev_ci (m_X11_ofCake hok (by first | exact MR_re (by with_reducible assumption) | exact MR_re mw_R) ?_ ?_) ?_
      | with_reducible refine ev_ci (m_X11_leaves hok (by first | exact MR_re (by with_reducible assumption) | exact MR_re mw_R) (by with_reducible assumption) ?_ ?_ ?_) ?_
      | omega
      | with_reducible assumption
      | with_reducible rfl
      | with_reducible refine lp_nx ?_ ?_ ?_ ?_
      | with_reducible refine lp_st ?_ ?_ ?_
      | with_reducible refine ls_c ?_ ?_
      | with_reducible refine vi_c ?_
      | with_reducible refine re_c ?_
      | with_reducible refine vz_c ?_
      | with_reducible refine rz_c ?_
      | exact trivial
      | with_reducible refine And.intro ?_ ?_
      | simp (disch := first | omega | assumption) only [ev_run_c, ev_run_n, ev_fj, ev_stp, ev_lk, ev_fv, ev_as, ev_sz, ev_st1, ev_st2, ev_rm, ev_pk, ev_Jof, ev_go, lv_args, List.map_cons, List.map_nil, List.zip_cons_cons, List.zip_nil_left, List.zip_nil_right, List.nil_append, List.cons_append, ↓reduceIte, reduceCtorEq, Int.reduceToNat, Nat.reduceEqDiff, Nat.reduceAdd, Nat.reduceLT, Nat.reduceLeDiff, Nat.reduceMul, Nat.reduceSub, Value.category, false_implies, true_and, and_true, Bool.false_eq_true, Option.some.injEq, exists_eq_left', Option.toList_some, Option.toList_none, ev_km, ev_k2, ev_k3, ev_k4, ev_k5, ev_l0, ev_l1, sh_1, sh_2, sh_3, sh_4, sh_5, at_X11_readsClear_41, at_X11_readsClear_9, ca_X11_118, ca_X11_143, ca_X11_186, ca_X11_195, cd_X11_readsClear_0, cd_X11_readsClear_41, cd_X11_readsClear_9, fl_X11_62, ev_b_6, no_0, no_1, no_lt, no_le, no_eq, no_lt0, no_ge0, no_gt0, no_le0, no_eq0, no_0eq, no_eqm, no_meq, no_m0, no_mlt, no_mge, no_mgt, no_mm, no_i01, no_i10, no_in, no_or, no_ifm, no_mul, nI_add, no_sub, pk_div, iI_if, nI_clamp, oI_n, oI_s, not_true_eq_false, not_false_eq_true, forall_const, true_implies, false_and, and_false, or_false, false_or, Classical.not_not, true_or, or_true, no_b, no_eq1, eq_self, and_self, sk_301, sk_302, sl_302, sp_301, n0, w0, re_10, re_n, mw_re, f1, y, nx_n z1, nW_n z1]
      | exact rfl
      | (split <;> omega))
  · have z1 : e1.1 = 0 := Classical.byContradiction z1
    have g1 := z1
    rw [← f1] at g1
    have s1 := nmc_0 (rN_0 g1).2.1
    have b1 : tvl B n (a + 1) < 10 := by omega
    have nn : nx e1 (a + 1) = a + 1 + 1 := nx_0 z1
    have hv9 := NV_nx (B := B) (n := n) (e := e1) (a := a + 1) hv1
    rw [nn] at hv9
    generalize w9 : nW B n e1 (a + 1) v1 = v9 at hv9
    generalize hQ : tvl B n (a + 1) = q at b1
    have hr9 : nI9 B n N a 15 = rclN N q := by rw [← hQ]; rfl
    rw [hr9]
    refine ⟨a + 1 + 1, v9, mw μ (rclN N q), ?_, Fw_mw, hv9, fun _ => ⟨rfl, mw_R⟩⟩
    have hb := (iv_q hI q b1).2.2
    refine ev_tri1 hok (okM_X11_readsClear 0) (Nat.le_of_ble_eq_true rfl) 9 [0, 1] (N (952 + 9 * q + 5)) 400 (fun k => [.ref 301, .int (nI q)]) (fun k => re B n e1 (a + 1) v1 (mw μ (rcl N q k))) (fun _ => True) ?_ ?_
    · intro k hk _
      rw [at_X11_readsClear_9]
      obtain ⟨r1, r2, r3⟩ := rcl_ok hI b1 hk
      rcases Nat.lt_or_ge k (N (952 + 9 * q + 5)) with hkn | hkn
      · have r4 := iv_st r1 q 0 b1 (by omega)
        have r4 : rcl N q k (952 + 9 * q + 6) < rcl N q k 0 := r4
        have r0 := iv_h r1
        have r5 : sP (rcl N q k) q (rcl N q k (952 + 9 * q + 6)) < rcl N q k (952 + 9 * q + 5) := sd_iff.mpr ⟨0, by omega, rfl⟩
        have r6 : rcl N q k (952 + 9 * q + 6) < 16 := by omega
        have hl := m_X11_leaves (μ := re B n e1 (a + 1) v1 (mw μ (rcl N q k))) hok (MR_re mw_R) r1 r6 b1 r5
        have hc5 := m_X11_ofCake (μ := re B n e1 (a + 1) v1 (mw μ (rcl N q k))) hok (MR_re (N := rcl N q k) mw_R) (i := q) (w := 5) b1 (by omega)
        have hc6 := m_X11_ofCake (μ := re B n e1 (a + 1) v1 (mw μ (rcl N q k))) hok (MR_re (N := rcl N q k) mw_R) (i := q) (w := 6) b1 (by omega)
        rw [r3] at hc5
        have e9 : lvN (rcl N q k) (rcl N q k (952 + 9 * q + 6)) q = rcl N q (k + 1) := rfl
        rw [e9] at hl
        repeat' (first
          | (with_reducible refine ev_rid ?_; simp (disch := first | omega | assumption) only [ev_run_c, ev_run_n, ev_fj, ev_stp, ev_lk, ev_fv, ev_as, ev_sz, ev_st1, ev_st2, ev_rm, ev_pk, ev_Jof, ev_go, lv_args, List.map_cons, List.map_nil, List.zip_cons_cons, List.zip_nil_left, List.zip_nil_right, List.nil_append, List.cons_append, ↓reduceIte, reduceCtorEq, Int.reduceToNat, Nat.reduceEqDiff, Nat.reduceAdd, Nat.reduceLT, Nat.reduceLeDiff, Nat.reduceMul, Nat.reduceSub, Value.category, false_implies, true_and, and_true, Bool.false_eq_true, Option.some.injEq, exists_eq_left', Option.toList_some, Option.toList_none, ev_km, ev_k2, ev_k3, ev_k4, ev_k5, ev_l0, ev_l1, sh_1, sh_2, sh_3, sh_4, sh_5, at_X11_readsClear_41, at_X11_readsClear_9, ca_X11_118, ca_X11_143, ca_X11_186, ca_X11_195, cd_X11_readsClear_0, cd_X11_readsClear_41, cd_X11_readsClear_9, fl_X11_62, ev_b_6, no_0, no_1, no_lt, no_le, no_eq, no_lt0, no_ge0, no_gt0, no_le0, no_eq0, no_0eq, no_eqm, no_meq, no_m0, no_mlt, no_mge, no_mgt, no_mm, no_i01, no_i10, no_in, no_or, no_ifm, no_mul, nI_add, no_sub, pk_div, iI_if, nI_clamp, oI_n, oI_s, not_true_eq_false, not_false_eq_true, forall_const, true_implies, false_and, and_false, or_false, false_or, Classical.not_not, true_or, or_true, no_b, no_eq1, eq_self, and_self, sk_301, sk_302, sl_302, sp_301, re_10, z1, mw_re, mw_mw])
          | (with_reducible refine ev_gid ?_; simp (disch := first | omega | assumption) only [ev_run_c, ev_run_n, ev_fj, ev_stp, ev_lk, ev_fv, ev_as, ev_sz, ev_st1, ev_st2, ev_rm, ev_pk, ev_Jof, ev_go, lv_args, List.map_cons, List.map_nil, List.zip_cons_cons, List.zip_nil_left, List.zip_nil_right, List.nil_append, List.cons_append, ↓reduceIte, reduceCtorEq, Int.reduceToNat, Nat.reduceEqDiff, Nat.reduceAdd, Nat.reduceLT, Nat.reduceLeDiff, Nat.reduceMul, Nat.reduceSub, Value.category, false_implies, true_and, and_true, Bool.false_eq_true, Option.some.injEq, exists_eq_left', Option.toList_some, Option.toList_none, ev_km, ev_k2, ev_k3, ev_k4, ev_k5, ev_l0, ev_l1, sh_1, sh_2, sh_3, sh_4, sh_5, at_X11_readsClear_41, at_X11_readsClear_9, ca_X11_118, ca_X11_143, ca_X11_186, ca_X11_195, cd_X11_readsClear_0, cd_X11_readsClear_41, cd_X11_readsClear_9, fl_X11_62, ev_b_6, no_0, no_1, no_lt, no_le, no_eq, no_lt0, no_ge0, no_gt0, no_le0, no_eq0, no_0eq, no_eqm, no_meq, no_m0, no_mlt, no_mge, no_mgt, no_mm, no_i01, no_i10, no_in, no_or, no_ifm, no_mul, nI_add, no_sub, pk_div, iI_if, nI_clamp, oI_n, oI_s, not_true_eq_false, not_false_eq_true, forall_const, true_implies, false_and, and_false, or_false, false_or, Classical.not_not, true_or, or_true, no_b, no_eq1, eq_self, and_self, sk_301, sk_302, sl_302, sp_301, re_10, z1, mw_re, mw_mw])
          | (with_reducible refine And.intro (fun q => ?_) (fun q => ?_) <;> (try simp (disch := first | omega | assumption) only [no_0, no_1, no_lt, no_le, no_eq, no_lt0, no_ge0, no_gt0, no_le0, no_eq0, no_0eq, no_eqm, no_meq, no_m0, no_mlt, no_mge, no_mgt, no_mm, no_i01, no_i10, no_in, no_or, no_ifm, no_mul, nI_add, no_sub, pk_div, iI_if, nI_clamp, oI_n, oI_s, not_true_eq_false, not_false_eq_true, forall_const, true_implies, false_and, and_false, or_false, false_or, Classical.not_not, true_or, or_true, no_b, no_eq1, eq_self, and_self, sk_301, sk_302, sl_302, sp_301, re_10, z1, mw_re, mw_mw] at q))
          | (with_reducible refine ev_ci hc5 ?_)
          | (with_reducible refine ev_ci hc6 ?_)
          | (with_reducible refine ev_ci hl ?_)
          | with_reducible refine ev_ci (m_go hok (by first | with_reducible assumption | exact RB_mw (by with_reducible assumption)) ?_) ?_
          | with_reducible refine ev_ci (m_pancakeHere hok (by with_reducible assumption) ?_ (by with_reducible assumption) (by with_reducible assumption)) ?_
          | with_reducible refine ev_ci (m_X11_ofCake hok (by first | exact MR_re (by with_reducible assumption) | exact MR_re mw_R) ?_ ?_) ?_
          | with_reducible refine ev_ci (m_X11_leaves hok (by first | exact MR_re (by with_reducible assumption) | exact MR_re mw_R) (by with_reducible assumption) ?_ ?_ ?_) ?_
          | omega
          | with_reducible assumption
          | with_reducible rfl
          | with_reducible refine lp_nx ?_ ?_ ?_ ?_
          | with_reducible refine lp_st ?_ ?_ ?_
          | with_reducible refine ls_c ?_ ?_
          | with_reducible refine vi_c ?_
          | with_reducible refine re_c ?_
          | with_reducible refine vz_c ?_
          | with_reducible refine rz_c ?_
          | exact trivial
          | with_reducible refine And.intro ?_ ?_
          | simp (disch := first | omega | assumption) only [ev_run_c, ev_run_n, ev_fj, ev_stp, ev_lk, ev_fv, ev_as, ev_sz, ev_st1, ev_st2, ev_rm, ev_pk, ev_Jof, ev_go, lv_args, List.map_cons, List.map_nil, List.zip_cons_cons, List.zip_nil_left, List.zip_nil_right, List.nil_append, List.cons_append, ↓reduceIte, reduceCtorEq, Int.reduceToNat, Nat.reduceEqDiff, Nat.reduceAdd, Nat.reduceLT, Nat.reduceLeDiff, Nat.reduceMul, Nat.reduceSub, Value.category, false_implies, true_and, and_true, Bool.false_eq_true, Option.some.injEq, exists_eq_left', Option.toList_some, Option.toList_none, ev_km, ev_k2, ev_k3, ev_k4, ev_k5, ev_l0, ev_l1, sh_1, sh_2, sh_3, sh_4, sh_5, at_X11_readsClear_41, at_X11_readsClear_9, ca_X11_118, ca_X11_143, ca_X11_186, ca_X11_195, cd_X11_readsClear_0, cd_X11_readsClear_41, cd_X11_readsClear_9, fl_X11_62, ev_b_6, no_0, no_1, no_lt, no_le, no_eq, no_lt0, no_ge0, no_gt0, no_le0, no_eq0, no_0eq, no_eqm, no_meq, no_m0, no_mlt, no_mge, no_mgt, no_mm, no_i01, no_i10, no_in, no_or, no_ifm, no_mul, nI_add, no_sub, pk_div, iI_if, nI_clamp, oI_n, oI_s, not_true_eq_false, not_false_eq_true, forall_const, true_implies, false_and, and_false, or_false, false_or, Classical.not_not, true_or, or_true, no_b, no_eq1, eq_self, and_self, sk_301, sk_302, sl_302, sp_301, re_10, z1, mw_re, mw_mw]
          | exact rfl
          | (split <;> omega))
      · have hkn : k = N (952 + 9 * q + 5) := by omega
        subst hkn
        have hc5 := m_X11_ofCake (μ := re B n e1 (a + 1) v1 (mw μ (rcl N q (N (952 + 9 * q + 5))))) hok (MR_re (N := rcl N q (N (952 + 9 * q + 5))) mw_R) (i := q) (w := 5) b1 (by omega)
        rw [r3, Nat.sub_self] at hc5
        have e9 : rclN N q = rcl N q (N (952 + 9 * q + 5)) := rfl
        rw [e9]
        have hR2 : RB B n (mw μ (rcl N q (N (952 + 9 * q + 5)))) := RB_mw hR
        repeat' (first
          | (with_reducible refine ev_rid ?_; simp (disch := first | omega | assumption) only [ev_run_c, ev_run_n, ev_fj, ev_stp, ev_lk, ev_fv, ev_as, ev_sz, ev_st1, ev_st2, ev_rm, ev_pk, ev_Jof, ev_go, lv_args, List.map_cons, List.map_nil, List.zip_cons_cons, List.zip_nil_left, List.zip_nil_right, List.nil_append, List.cons_append, ↓reduceIte, reduceCtorEq, Int.reduceToNat, Nat.reduceEqDiff, Nat.reduceAdd, Nat.reduceLT, Nat.reduceLeDiff, Nat.reduceMul, Nat.reduceSub, Value.category, false_implies, true_and, and_true, Bool.false_eq_true, Option.some.injEq, exists_eq_left', Option.toList_some, Option.toList_none, ev_km, ev_k2, ev_k3, ev_k4, ev_k5, ev_l0, ev_l1, sh_1, sh_2, sh_3, sh_4, sh_5, at_X11_readsClear_41, at_X11_readsClear_9, ca_X11_118, ca_X11_143, ca_X11_186, ca_X11_195, cd_X11_readsClear_0, cd_X11_readsClear_41, cd_X11_readsClear_9, fl_X11_62, ev_b_6, no_0, no_1, no_lt, no_le, no_eq, no_lt0, no_ge0, no_gt0, no_le0, no_eq0, no_0eq, no_eqm, no_meq, no_m0, no_mlt, no_mge, no_mgt, no_mm, no_i01, no_i10, no_in, no_or, no_ifm, no_mul, nI_add, no_sub, pk_div, iI_if, nI_clamp, oI_n, oI_s, not_true_eq_false, not_false_eq_true, forall_const, true_implies, false_and, and_false, or_false, false_or, Classical.not_not, true_or, or_true, no_b, no_eq1, eq_self, and_self, sk_301, sk_302, sl_302, sp_301, re_10, z1, nn, w9])
          | (with_reducible refine ev_gid ?_; simp (disch := first | omega | assumption) only [ev_run_c, ev_run_n, ev_fj, ev_stp, ev_lk, ev_fv, ev_as, ev_sz, ev_st1, ev_st2, ev_rm, ev_pk, ev_Jof, ev_go, lv_args, List.map_cons, List.map_nil, List.zip_cons_cons, List.zip_nil_left, List.zip_nil_right, List.nil_append, List.cons_append, ↓reduceIte, reduceCtorEq, Int.reduceToNat, Nat.reduceEqDiff, Nat.reduceAdd, Nat.reduceLT, Nat.reduceLeDiff, Nat.reduceMul, Nat.reduceSub, Value.category, false_implies, true_and, and_true, Bool.false_eq_true, Option.some.injEq, exists_eq_left', Option.toList_some, Option.toList_none, ev_km, ev_k2, ev_k3, ev_k4, ev_k5, ev_l0, ev_l1, sh_1, sh_2, sh_3, sh_4, sh_5, at_X11_readsClear_41, at_X11_readsClear_9, ca_X11_118, ca_X11_143, ca_X11_186, ca_X11_195, cd_X11_readsClear_0, cd_X11_readsClear_41, cd_X11_readsClear_9, fl_X11_62, ev_b_6, no_0, no_1, no_lt, no_le, no_eq, no_lt0, no_ge0, no_gt0, no_le0, no_eq0, no_0eq, no_eqm, no_meq, no_m0, no_mlt, no_mge, no_mgt, no_mm, no_i01, no_i10, no_in, no_or, no_ifm, no_mul, nI_add, no_sub, pk_div, iI_if, nI_clamp, oI_n, oI_s, not_true_eq_false, not_false_eq_true, forall_const, true_implies, false_and, and_false, or_false, false_or, Classical.not_not, true_or, or_true, no_b, no_eq1, eq_self, and_self, sk_301, sk_302, sl_302, sp_301, re_10, z1, nn, w9])
          | (with_reducible refine And.intro (fun q => ?_) (fun q => ?_) <;> (try simp (disch := first | omega | assumption) only [no_0, no_1, no_lt, no_le, no_eq, no_lt0, no_ge0, no_gt0, no_le0, no_eq0, no_0eq, no_eqm, no_meq, no_m0, no_mlt, no_mge, no_mgt, no_mm, no_i01, no_i10, no_in, no_or, no_ifm, no_mul, nI_add, no_sub, pk_div, iI_if, nI_clamp, oI_n, oI_s, not_true_eq_false, not_false_eq_true, forall_const, true_implies, false_and, and_false, or_false, false_or, Classical.not_not, true_or, or_true, no_b, no_eq1, eq_self, and_self, sk_301, sk_302, sl_302, sp_301, re_10, z1, nn, w9] at q))
          | (with_reducible refine ev_ci hc5 ?_)
          | with_reducible refine ev_ci (m_go hok (by first | with_reducible assumption | exact RB_mw (by with_reducible assumption)) ?_) ?_
          | with_reducible refine ev_ci (m_pancakeHere hok (by with_reducible assumption) ?_ (by with_reducible assumption) (by with_reducible assumption)) ?_
          | with_reducible refine ev_ci (m_X11_ofCake hok (by first | exact MR_re (by with_reducible assumption) | exact MR_re mw_R) ?_ ?_) ?_
          | with_reducible refine ev_ci (m_X11_leaves hok (by first | exact MR_re (by with_reducible assumption) | exact MR_re mw_R) (by with_reducible assumption) ?_ ?_ ?_) ?_
          | omega
          | with_reducible assumption
          | with_reducible rfl
          | with_reducible refine lp_nx ?_ ?_ ?_ ?_
          | with_reducible refine lp_st ?_ ?_ ?_
          | with_reducible refine ls_c ?_ ?_
          | with_reducible refine vi_c ?_
          | with_reducible refine re_c ?_
          | with_reducible refine vz_c ?_
          | with_reducible refine rz_c ?_
          | exact trivial
          | with_reducible refine And.intro ?_ ?_
          | simp (disch := first | omega | assumption) only [ev_run_c, ev_run_n, ev_fj, ev_stp, ev_lk, ev_fv, ev_as, ev_sz, ev_st1, ev_st2, ev_rm, ev_pk, ev_Jof, ev_go, lv_args, List.map_cons, List.map_nil, List.zip_cons_cons, List.zip_nil_left, List.zip_nil_right, List.nil_append, List.cons_append, ↓reduceIte, reduceCtorEq, Int.reduceToNat, Nat.reduceEqDiff, Nat.reduceAdd, Nat.reduceLT, Nat.reduceLeDiff, Nat.reduceMul, Nat.reduceSub, Value.category, false_implies, true_and, and_true, Bool.false_eq_true, Option.some.injEq, exists_eq_left', Option.toList_some, Option.toList_none, ev_km, ev_k2, ev_k3, ev_k4, ev_k5, ev_l0, ev_l1, sh_1, sh_2, sh_3, sh_4, sh_5, at_X11_readsClear_41, at_X11_readsClear_9, ca_X11_118, ca_X11_143, ca_X11_186, ca_X11_195, cd_X11_readsClear_0, cd_X11_readsClear_41, cd_X11_readsClear_9, fl_X11_62, ev_b_6, no_0, no_1, no_lt, no_le, no_eq, no_lt0, no_ge0, no_gt0, no_le0, no_eq0, no_0eq, no_eqm, no_meq, no_m0, no_mlt, no_mge, no_mgt, no_mm, no_i01, no_i10, no_in, no_or, no_ifm, no_mul, nI_add, no_sub, pk_div, iI_if, nI_clamp, oI_n, oI_s, not_true_eq_false, not_false_eq_true, forall_const, true_implies, false_and, and_false, or_false, false_or, Classical.not_not, true_or, or_true, no_b, no_eq1, eq_self, and_self, sk_301, sk_302, sl_302, sp_301, re_10, z1, nn, w9]
          | exact rfl
          | (split <;> omega))
    · rw [at_X11_readsClear_0]
      have e9 : mw μ (rcl N q 0) = μ := mw_self hN
      repeat' (first
        | (with_reducible refine ev_rid ?_; simp (disch := first | omega | assumption) only [ev_run_c, ev_run_n, ev_fj, ev_stp, ev_lk, ev_fv, ev_as, ev_sz, ev_st1, ev_st2, ev_rm, ev_pk, ev_Jof, ev_go, lv_args, List.map_cons, List.map_nil, List.zip_cons_cons, List.zip_nil_left, List.zip_nil_right, List.nil_append, List.cons_append, ↓reduceIte, reduceCtorEq, Int.reduceToNat, Nat.reduceEqDiff, Nat.reduceAdd, Nat.reduceLT, Nat.reduceLeDiff, Nat.reduceMul, Nat.reduceSub, Value.category, false_implies, true_and, and_true, Bool.false_eq_true, Option.some.injEq, exists_eq_left', Option.toList_some, Option.toList_none, ev_km, ev_k2, ev_k3, ev_k4, ev_k5, ev_l0, ev_l1, sh_1, sh_2, sh_3, sh_4, sh_5, at_X11_readsClear_41, at_X11_readsClear_9, ca_X11_118, ca_X11_143, ca_X11_186, ca_X11_195, cd_X11_readsClear_0, cd_X11_readsClear_41, cd_X11_readsClear_9, fl_X11_62, ev_b_6, no_0, no_1, no_lt, no_le, no_eq, no_lt0, no_ge0, no_gt0, no_le0, no_eq0, no_0eq, no_eqm, no_meq, no_m0, no_mlt, no_mge, no_mgt, no_mm, no_i01, no_i10, no_in, no_or, no_ifm, no_mul, nI_add, no_sub, pk_div, iI_if, nI_clamp, oI_n, oI_s, not_true_eq_false, not_false_eq_true, forall_const, true_implies, false_and, and_false, or_false, false_or, Classical.not_not, true_or, or_true, no_b, no_eq1, eq_self, and_self, sk_301, sk_302, sl_302, sp_301, n0, w0, re_10, f1, z1, hQ, e9])
        | (with_reducible refine ev_gid ?_; simp (disch := first | omega | assumption) only [ev_run_c, ev_run_n, ev_fj, ev_stp, ev_lk, ev_fv, ev_as, ev_sz, ev_st1, ev_st2, ev_rm, ev_pk, ev_Jof, ev_go, lv_args, List.map_cons, List.map_nil, List.zip_cons_cons, List.zip_nil_left, List.zip_nil_right, List.nil_append, List.cons_append, ↓reduceIte, reduceCtorEq, Int.reduceToNat, Nat.reduceEqDiff, Nat.reduceAdd, Nat.reduceLT, Nat.reduceLeDiff, Nat.reduceMul, Nat.reduceSub, Value.category, false_implies, true_and, and_true, Bool.false_eq_true, Option.some.injEq, exists_eq_left', Option.toList_some, Option.toList_none, ev_km, ev_k2, ev_k3, ev_k4, ev_k5, ev_l0, ev_l1, sh_1, sh_2, sh_3, sh_4, sh_5, at_X11_readsClear_41, at_X11_readsClear_9, ca_X11_118, ca_X11_143, ca_X11_186, ca_X11_195, cd_X11_readsClear_0, cd_X11_readsClear_41, cd_X11_readsClear_9, fl_X11_62, ev_b_6, no_0, no_1, no_lt, no_le, no_eq, no_lt0, no_ge0, no_gt0, no_le0, no_eq0, no_0eq, no_eqm, no_meq, no_m0, no_mlt, no_mge, no_mgt, no_mm, no_i01, no_i10, no_in, no_or, no_ifm, no_mul, nI_add, no_sub, pk_div, iI_if, nI_clamp, oI_n, oI_s, not_true_eq_false, not_false_eq_true, forall_const, true_implies, false_and, and_false, or_false, false_or, Classical.not_not, true_or, or_true, no_b, no_eq1, eq_self, and_self, sk_301, sk_302, sl_302, sp_301, n0, w0, re_10, f1, z1, hQ, e9])
        | (with_reducible refine And.intro (fun q => ?_) (fun q => ?_) <;> (try simp (disch := first | omega | assumption) only [no_0, no_1, no_lt, no_le, no_eq, no_lt0, no_ge0, no_gt0, no_le0, no_eq0, no_0eq, no_eqm, no_meq, no_m0, no_mlt, no_mge, no_mgt, no_mm, no_i01, no_i10, no_in, no_or, no_ifm, no_mul, nI_add, no_sub, pk_div, iI_if, nI_clamp, oI_n, oI_s, not_true_eq_false, not_false_eq_true, forall_const, true_implies, false_and, and_false, or_false, false_or, Classical.not_not, true_or, or_true, no_b, no_eq1, eq_self, and_self, sk_301, sk_302, sl_302, sp_301, n0, w0, re_10, f1, z1, hQ, e9] at q))
        | with_reducible refine ev_ci (m_go hok (by first | with_reducible assumption | exact RB_mw (by with_reducible assumption)) ?_) ?_
        | with_reducible refine ev_ci (m_pancakeHere hok (by with_reducible assumption) ?_ (by with_reducible assumption) (by with_reducible assumption)) ?_
        | with_reducible refine ev_ci (m_X11_ofCake hok (by first | exact MR_re (by with_reducible assumption) | exact MR_re mw_R) ?_ ?_) ?_
        | with_reducible refine ev_ci (m_X11_leaves hok (by first | exact MR_re (by with_reducible assumption) | exact MR_re mw_R) (by with_reducible assumption) ?_ ?_ ?_) ?_
        | omega
        | with_reducible assumption
        | with_reducible rfl
        | with_reducible refine lp_nx ?_ ?_ ?_ ?_
        | with_reducible refine lp_st ?_ ?_ ?_
        | with_reducible refine ls_c ?_ ?_
        | with_reducible refine vi_c ?_
        | with_reducible refine re_c ?_
        | with_reducible refine vz_c ?_
        | with_reducible refine rz_c ?_
        | exact trivial
        | with_reducible refine And.intro ?_ ?_
        | simp (disch := first | omega | assumption) only [ev_run_c, ev_run_n, ev_fj, ev_stp, ev_lk, ev_fv, ev_as, ev_sz, ev_st1, ev_st2, ev_rm, ev_pk, ev_Jof, ev_go, lv_args, List.map_cons, List.map_nil, List.zip_cons_cons, List.zip_nil_left, List.zip_nil_right, List.nil_append, List.cons_append, ↓reduceIte, reduceCtorEq, Int.reduceToNat, Nat.reduceEqDiff, Nat.reduceAdd, Nat.reduceLT, Nat.reduceLeDiff, Nat.reduceMul, Nat.reduceSub, Value.category, false_implies, true_and, and_true, Bool.false_eq_true, Option.some.injEq, exists_eq_left', Option.toList_some, Option.toList_none, ev_km, ev_k2, ev_k3, ev_k4, ev_k5, ev_l0, ev_l1, sh_1, sh_2, sh_3, sh_4, sh_5, at_X11_readsClear_41, at_X11_readsClear_9, ca_X11_118, ca_X11_143, ca_X11_186, ca_X11_195, cd_X11_readsClear_0, cd_X11_readsClear_41, cd_X11_readsClear_9, fl_X11_62, ev_b_6, no_0, no_1, no_lt, no_le, no_eq, no_lt0, no_ge0, no_gt0, no_le0, no_eq0, no_0eq, no_eqm, no_meq, no_m0, no_mlt, no_mge, no_mgt, no_mm, no_i01, no_i10, no_in, no_or, no_ifm, no_mul, nI_add, no_sub, pk_div, iI_if, nI_clamp, oI_n, oI_s, not_true_eq_false, not_false_eq_true, forall_const, true_implies, false_and, and_false, or_false, false_or, Classical.not_not, true_or, or_true, no_b, no_eq1, eq_self, and_self, sk_301, sk_302, sl_302, sp_301, n0, w0, re_10, f1, z1, hQ, e9]
        | exact rfl
        | (split <;> omega))
set_option maxHeartbeats 2000000 in
theorem rx_even (hok : ev_ok sh_S G) (hR : RB B n μ) (hN : MR N μ) (hI : INV N) {a : Nat} {v : Int32} (hv : NV B n a v) : RX G B n mi_X11_readsEven a v μ (q_even B n N (a + 1)) (nI9 B n N a 16) (aI9 B n N a 16) := by
  have hh := iv_h hI
  have hN1 : N 1 ≤ 10 := hh.2.1
  have hN0 : μ.1 302 0 = nI (N 0) := hN 0 (by omega)
  have n0 : nx (0, -1) a = a + 1 := rfl
  have hv1 := NV_nx (B := B) (n := n) (e := (0, -1)) (a := a) hv
  rw [n0] at hv1
  generalize w0 : nW B n (0, -1) a v = v1 at hv1
  obtain ⟨e1, f1⟩ : ∃ e, rN B n (0, -1) (a + 1) 0 (N 1) = e := ⟨_, rfl⟩
  have c1 : e1.1 < 5 := by rw [← f1]; exact rN_c (by decide)
  have hq : q_even B n N (a + 1) = er e1 (scs N (tvl B n (a + 1)) (N 0) < 2) 4 (a + 1) B n := by rw [← f1]; rfl
  rw [hq]
  by_cases z1 : ¬ e1.1 = 0
  · have y : (e1.1 = 0) = False := eq_false z1
    rw [er_n z1]
    refine ⟨a + 1, v1, μ, ?_, Fw_rf, hv1, fun q => absurd q z1⟩
    refine ev_tri hok (okM_X11_readsEven 0) (Nat.le_of_ble_eq_true rfl) 400 ?_
    rw [at_X11_readsEven_0]
    repeat' (first
      | (with_reducible refine ev_rid ?_; simp (disch := first | omega | assumption) only [ev_run_c, ev_run_n, ev_fj, ev_stp, ev_lk, ev_fv, ev_as, ev_sz, ev_st1, ev_st2, ev_rm, ev_pk, ev_Jof, ev_go, lv_args, List.map_cons, List.map_nil, List.zip_cons_cons, List.zip_nil_left, List.zip_nil_right, List.nil_append, List.cons_append, ↓reduceIte, reduceCtorEq, Int.reduceToNat, Nat.reduceEqDiff, Nat.reduceAdd, Nat.reduceLT, Nat.reduceLeDiff, Nat.reduceMul, Nat.reduceSub, Value.category, false_implies, true_and, and_true, Bool.false_eq_true, Option.some.injEq, exists_eq_left', Option.toList_some, Option.toList_none, ev_km, ev_k2, ev_k3, ev_k4, ev_k5, ev_l0, ev_l1, sh_1, sh_2, sh_3, sh_4, sh_5, at_X11_readsEven_30, at_X11_readsEven_31, at_X11_readsEven_45, at_X11_readsEven_50, at_X11_readsEven_53, at_X11_readsEven_89, at_X11_readsEven_95, ca_X11_118, ca_X11_143, ca_X11_146, ca_X11_149, ca_X11_189, ca_X11_198, ca_X11_201, cd_X11_readsEven_0, cd_X11_readsEven_30, cd_X11_readsEven_31, cd_X11_readsEven_45, cd_X11_readsEven_50, cd_X11_readsEven_53, cd_X11_readsEven_89, cd_X11_readsEven_95, fl_X11_62, fl_X11_9, ev_b_23, no_0, no_1, no_lt, no_le, no_eq, no_lt0, no_ge0, no_gt0, no_le0, no_eq0, no_0eq, no_eqm, no_meq, no_m0, no_mlt, no_mge, no_mgt, no_mm, no_i01, no_i10, no_in, no_or, no_ifm, no_mul, nI_add, no_sub, pk_div, iI_if, nI_clamp, oI_n, oI_s, not_true_eq_false, not_false_eq_true, forall_const, true_implies, false_and, and_false, or_false, false_or, Classical.not_not, true_or, or_true, no_b, no_eq1, eq_self, and_self, sk_301, sk_302, sl_302, sp_301, n0, w0, re_10, re_n, hN0, f1, y, nx_n z1, nW_n z1])
      | (with_reducible refine ev_gid ?_; simp (disch := first | omega | assumption) only [ev_run_c, ev_run_n, ev_fj, ev_stp, ev_lk, ev_fv, ev_as, ev_sz, ev_st1, ev_st2, ev_rm, ev_pk, ev_Jof, ev_go, lv_args, List.map_cons, List.map_nil, List.zip_cons_cons, List.zip_nil_left, List.zip_nil_right, List.nil_append, List.cons_append, ↓reduceIte, reduceCtorEq, Int.reduceToNat, Nat.reduceEqDiff, Nat.reduceAdd, Nat.reduceLT, Nat.reduceLeDiff, Nat.reduceMul, Nat.reduceSub, Value.category, false_implies, true_and, and_true, Bool.false_eq_true, Option.some.injEq, exists_eq_left', Option.toList_some, Option.toList_none, ev_km, ev_k2, ev_k3, ev_k4, ev_k5, ev_l0, ev_l1, sh_1, sh_2, sh_3, sh_4, sh_5, at_X11_readsEven_30, at_X11_readsEven_31, at_X11_readsEven_45, at_X11_readsEven_50, at_X11_readsEven_53, at_X11_readsEven_89, at_X11_readsEven_95, ca_X11_118, ca_X11_143, ca_X11_146, ca_X11_149, ca_X11_189, ca_X11_198, ca_X11_201, cd_X11_readsEven_0, cd_X11_readsEven_30, cd_X11_readsEven_31, cd_X11_readsEven_45, cd_X11_readsEven_50, cd_X11_readsEven_53, cd_X11_readsEven_89, cd_X11_readsEven_95, fl_X11_62, fl_X11_9, ev_b_23, no_0, no_1, no_lt, no_le, no_eq, no_lt0, no_ge0, no_gt0, no_le0, no_eq0, no_0eq, no_eqm, no_meq, no_m0, no_mlt, no_mge, no_mgt, no_mm, no_i01, no_i10, no_in, no_or, no_ifm, no_mul, nI_add, no_sub, pk_div, iI_if, nI_clamp, oI_n, oI_s, not_true_eq_false, not_false_eq_true, forall_const, true_implies, false_and, and_false, or_false, false_or, Classical.not_not, true_or, or_true, no_b, no_eq1, eq_self, and_self, sk_301, sk_302, sl_302, sp_301, n0, w0, re_10, re_n, hN0, f1, y, nx_n z1, nW_n z1])
      | (with_reducible refine And.intro (fun q => ?_) (fun q => ?_) <;> (try simp (disch := first | omega | assumption) only [no_0, no_1, no_lt, no_le, no_eq, no_lt0, no_ge0, no_gt0, no_le0, no_eq0, no_0eq, no_eqm, no_meq, no_m0, no_mlt, no_mge, no_mgt, no_mm, no_i01, no_i10, no_in, no_or, no_ifm, no_mul, nI_add, no_sub, pk_div, iI_if, nI_clamp, oI_n, oI_s, not_true_eq_false, not_false_eq_true, forall_const, true_implies, false_and, and_false, or_false, false_or, Classical.not_not, true_or, or_true, no_b, no_eq1, eq_self, and_self, sk_301, sk_302, sl_302, sp_301, n0, w0, re_10, re_n, hN0, f1, y, nx_n z1, nW_n z1] at q))
      | with_reducible refine ev_ci (m_go hok (by first | with_reducible assumption | exact RB_mw (by with_reducible assumption)) ?_) ?_
      | with_reducible refine ev_ci (m_pancakeHere hok (by with_reducible assumption) ?_ (by with_reducible assumption) (by with_reducible assumption)) ?_
      | with_reducible refine ev_ci (m_X11_scores hok (by first | exact MR_re (by with_reducible assumption) | exact MR_re mw_R) (by with_reducible assumption) ?_) ?_
      | with_reducible refine ev_ci (m_limits1 hok ?_) ?_
      | with_reducible refine ev_ci (m_limits0 hok ?_) ?_
      | with_reducible refine ev_ci (m_X11_middle hok (by first | exact MR_re (by with_reducible assumption) | exact MR_re mw_R) (by with_reducible assumption) ?_ ?_) ?_
      | with_reducible refine ev_ci (m_X11_isScored hok (by first | exact MR_re (by with_reducible assumption) | exact MR_re mw_R) (by with_reducible assumption) ?_ ?_) ?_
      | with_reducible refine ev_ci (m_X11_puts hok (by first | exact MR_re (by with_reducible assumption) | exact MR_re mw_R) ?_ ?_) ?_
      | omega
      | with_reducible assumption
      | with_reducible rfl
      | with_reducible refine lp_nx ?_ ?_ ?_ ?_
      | with_reducible refine lp_st ?_ ?_ ?_
      | with_reducible refine ls_c ?_ ?_
      | with_reducible refine vi_c ?_
      | with_reducible refine re_c ?_
      | with_reducible refine vz_c ?_
      | with_reducible refine rz_c ?_
      | exact trivial
      | with_reducible refine And.intro ?_ ?_
      | simp (disch := first | omega | assumption) only [ev_run_c, ev_run_n, ev_fj, ev_stp, ev_lk, ev_fv, ev_as, ev_sz, ev_st1, ev_st2, ev_rm, ev_pk, ev_Jof, ev_go, lv_args, List.map_cons, List.map_nil, List.zip_cons_cons, List.zip_nil_left, List.zip_nil_right, List.nil_append, List.cons_append, ↓reduceIte, reduceCtorEq, Int.reduceToNat, Nat.reduceEqDiff, Nat.reduceAdd, Nat.reduceLT, Nat.reduceLeDiff, Nat.reduceMul, Nat.reduceSub, Value.category, false_implies, true_and, and_true, Bool.false_eq_true, Option.some.injEq, exists_eq_left', Option.toList_some, Option.toList_none, ev_km, ev_k2, ev_k3, ev_k4, ev_k5, ev_l0, ev_l1, sh_1, sh_2, sh_3, sh_4, sh_5, at_X11_readsEven_30, at_X11_readsEven_31, at_X11_readsEven_45, at_X11_readsEven_50, at_X11_readsEven_53, at_X11_readsEven_89, at_X11_readsEven_95, ca_X11_118, ca_X11_143, ca_X11_146, ca_X11_149, ca_X11_189, ca_X11_198, ca_X11_201, cd_X11_readsEven_0, cd_X11_readsEven_30, cd_X11_readsEven_31, cd_X11_readsEven_45, cd_X11_readsEven_50, cd_X11_readsEven_53, cd_X11_readsEven_89, cd_X11_readsEven_95, fl_X11_62, fl_X11_9, ev_b_23, no_0, no_1, no_lt, no_le, no_eq, no_lt0, no_ge0, no_gt0, no_le0, no_eq0, no_0eq, no_eqm, no_meq, no_m0, no_mlt, no_mge, no_mgt, no_mm, no_i01, no_i10, no_in, no_or, no_ifm, no_mul, nI_add, no_sub, pk_div, iI_if, nI_clamp, oI_n, oI_s, not_true_eq_false, not_false_eq_true, forall_const, true_implies, false_and, and_false, or_false, false_or, Classical.not_not, true_or, or_true, no_b, no_eq1, eq_self, and_self, sk_301, sk_302, sl_302, sp_301, n0, w0, re_10, re_n, hN0, f1, y, nx_n z1, nW_n z1]
      | exact rfl
      | (split <;> omega))
  · have z1 : e1.1 = 0 := Classical.byContradiction z1
    have g1 := z1
    rw [← f1] at g1
    have s1 := nmc_0 (rN_0 g1).2.1
    have b1 : tvl B n (a + 1) < 10 := by omega
    generalize hQ : tvl B n (a + 1) = q at b1
    have hx := scs_le N q (N 0)
    have hsc := m_X11_scores (μ := re B n e1 (a + 1) v1 μ) hok (MR_re hN) hI b1
    by_cases hc : scs N q (N 0) < 2
    · rw [er_True hc]
      obtain ⟨e9, f9⟩ : ∃ e, er e1 True 4 (a + 1) B n = e := ⟨_, rfl⟩
      have c9 : e9.1 < 5 := by rw [← f9]; exact er_c c1 (by decide)
      have z9 : ¬ e9.1 = 0 := by rw [← f9, er_T z1]; exact Nat.succ_ne_zero _
      have y : (e9.1 = 0) = False := eq_false z9
      rw [f9]
      refine ⟨a + 1, v1, μ, ?_, Fw_rf, hv1, fun q => absurd q z9⟩
      refine ev_tri hok (okM_X11_readsEven 0) (Nat.le_of_ble_eq_true rfl) 400 ?_
      rw [at_X11_readsEven_0]
      repeat' (first
        | (with_reducible refine ev_rid ?_; simp (disch := first | omega | assumption) only [ev_run_c, ev_run_n, ev_fj, ev_stp, ev_lk, ev_fv, ev_as, ev_sz, ev_st1, ev_st2, ev_rm, ev_pk, ev_Jof, ev_go, lv_args, List.map_cons, List.map_nil, List.zip_cons_cons, List.zip_nil_left, List.zip_nil_right, List.nil_append, List.cons_append, ↓reduceIte, reduceCtorEq, Int.reduceToNat, Nat.reduceEqDiff, Nat.reduceAdd, Nat.reduceLT, Nat.reduceLeDiff, Nat.reduceMul, Nat.reduceSub, Value.category, false_implies, true_and, and_true, Bool.false_eq_true, Option.some.injEq, exists_eq_left', Option.toList_some, Option.toList_none, ev_km, ev_k2, ev_k3, ev_k4, ev_k5, ev_l0, ev_l1, sh_1, sh_2, sh_3, sh_4, sh_5, at_X11_readsEven_30, at_X11_readsEven_31, at_X11_readsEven_45, at_X11_readsEven_50, at_X11_readsEven_53, at_X11_readsEven_89, at_X11_readsEven_95, ca_X11_118, ca_X11_143, ca_X11_146, ca_X11_149, ca_X11_189, ca_X11_198, ca_X11_201, cd_X11_readsEven_0, cd_X11_readsEven_30, cd_X11_readsEven_31, cd_X11_readsEven_45, cd_X11_readsEven_50, cd_X11_readsEven_53, cd_X11_readsEven_89, cd_X11_readsEven_95, fl_X11_62, fl_X11_9, ev_b_23, no_0, no_1, no_lt, no_le, no_eq, no_lt0, no_ge0, no_gt0, no_le0, no_eq0, no_0eq, no_eqm, no_meq, no_m0, no_mlt, no_mge, no_mgt, no_mm, no_i01, no_i10, no_in, no_or, no_ifm, no_mul, nI_add, no_sub, pk_div, iI_if, nI_clamp, oI_n, oI_s, not_true_eq_false, not_false_eq_true, forall_const, true_implies, false_and, and_false, or_false, false_or, Classical.not_not, true_or, or_true, no_b, no_eq1, eq_self, and_self, sk_301, sk_302, sl_302, sp_301, n0, w0, re_10, re_n, hN0, f1, z1, hQ, f9, y, nx_n z9, nW_n z9])
        | (with_reducible refine ev_gid ?_; simp (disch := first | omega | assumption) only [ev_run_c, ev_run_n, ev_fj, ev_stp, ev_lk, ev_fv, ev_as, ev_sz, ev_st1, ev_st2, ev_rm, ev_pk, ev_Jof, ev_go, lv_args, List.map_cons, List.map_nil, List.zip_cons_cons, List.zip_nil_left, List.zip_nil_right, List.nil_append, List.cons_append, ↓reduceIte, reduceCtorEq, Int.reduceToNat, Nat.reduceEqDiff, Nat.reduceAdd, Nat.reduceLT, Nat.reduceLeDiff, Nat.reduceMul, Nat.reduceSub, Value.category, false_implies, true_and, and_true, Bool.false_eq_true, Option.some.injEq, exists_eq_left', Option.toList_some, Option.toList_none, ev_km, ev_k2, ev_k3, ev_k4, ev_k5, ev_l0, ev_l1, sh_1, sh_2, sh_3, sh_4, sh_5, at_X11_readsEven_30, at_X11_readsEven_31, at_X11_readsEven_45, at_X11_readsEven_50, at_X11_readsEven_53, at_X11_readsEven_89, at_X11_readsEven_95, ca_X11_118, ca_X11_143, ca_X11_146, ca_X11_149, ca_X11_189, ca_X11_198, ca_X11_201, cd_X11_readsEven_0, cd_X11_readsEven_30, cd_X11_readsEven_31, cd_X11_readsEven_45, cd_X11_readsEven_50, cd_X11_readsEven_53, cd_X11_readsEven_89, cd_X11_readsEven_95, fl_X11_62, fl_X11_9, ev_b_23, no_0, no_1, no_lt, no_le, no_eq, no_lt0, no_ge0, no_gt0, no_le0, no_eq0, no_0eq, no_eqm, no_meq, no_m0, no_mlt, no_mge, no_mgt, no_mm, no_i01, no_i10, no_in, no_or, no_ifm, no_mul, nI_add, no_sub, pk_div, iI_if, nI_clamp, oI_n, oI_s, not_true_eq_false, not_false_eq_true, forall_const, true_implies, false_and, and_false, or_false, false_or, Classical.not_not, true_or, or_true, no_b, no_eq1, eq_self, and_self, sk_301, sk_302, sl_302, sp_301, n0, w0, re_10, re_n, hN0, f1, z1, hQ, f9, y, nx_n z9, nW_n z9])
        | (with_reducible refine And.intro (fun q => ?_) (fun q => ?_) <;> (try simp (disch := first | omega | assumption) only [no_0, no_1, no_lt, no_le, no_eq, no_lt0, no_ge0, no_gt0, no_le0, no_eq0, no_0eq, no_eqm, no_meq, no_m0, no_mlt, no_mge, no_mgt, no_mm, no_i01, no_i10, no_in, no_or, no_ifm, no_mul, nI_add, no_sub, pk_div, iI_if, nI_clamp, oI_n, oI_s, not_true_eq_false, not_false_eq_true, forall_const, true_implies, false_and, and_false, or_false, false_or, Classical.not_not, true_or, or_true, no_b, no_eq1, eq_self, and_self, sk_301, sk_302, sl_302, sp_301, n0, w0, re_10, re_n, hN0, f1, z1, hQ, f9, y, nx_n z9, nW_n z9] at q))
        | (with_reducible refine ev_ci hsc ?_)
        | with_reducible refine ev_ci (m_go hok (by first | with_reducible assumption | exact RB_mw (by with_reducible assumption)) ?_) ?_
        | with_reducible refine ev_ci (m_pancakeHere hok (by with_reducible assumption) ?_ (by with_reducible assumption) (by with_reducible assumption)) ?_
        | with_reducible refine ev_ci (m_X11_scores hok (by first | exact MR_re (by with_reducible assumption) | exact MR_re mw_R) (by with_reducible assumption) ?_) ?_
        | with_reducible refine ev_ci (m_limits1 hok ?_) ?_
        | with_reducible refine ev_ci (m_limits0 hok ?_) ?_
        | with_reducible refine ev_ci (m_X11_middle hok (by first | exact MR_re (by with_reducible assumption) | exact MR_re mw_R) (by with_reducible assumption) ?_ ?_) ?_
        | with_reducible refine ev_ci (m_X11_isScored hok (by first | exact MR_re (by with_reducible assumption) | exact MR_re mw_R) (by with_reducible assumption) ?_ ?_) ?_
        | with_reducible refine ev_ci (m_X11_puts hok (by first | exact MR_re (by with_reducible assumption) | exact MR_re mw_R) ?_ ?_) ?_
        | omega
        | with_reducible assumption
        | with_reducible rfl
        | with_reducible refine lp_nx ?_ ?_ ?_ ?_
        | with_reducible refine lp_st ?_ ?_ ?_
        | with_reducible refine ls_c ?_ ?_
        | with_reducible refine vi_c ?_
        | with_reducible refine re_c ?_
        | with_reducible refine vz_c ?_
        | with_reducible refine rz_c ?_
        | exact trivial
        | with_reducible refine And.intro ?_ ?_
        | simp (disch := first | omega | assumption) only [ev_run_c, ev_run_n, ev_fj, ev_stp, ev_lk, ev_fv, ev_as, ev_sz, ev_st1, ev_st2, ev_rm, ev_pk, ev_Jof, ev_go, lv_args, List.map_cons, List.map_nil, List.zip_cons_cons, List.zip_nil_left, List.zip_nil_right, List.nil_append, List.cons_append, ↓reduceIte, reduceCtorEq, Int.reduceToNat, Nat.reduceEqDiff, Nat.reduceAdd, Nat.reduceLT, Nat.reduceLeDiff, Nat.reduceMul, Nat.reduceSub, Value.category, false_implies, true_and, and_true, Bool.false_eq_true, Option.some.injEq, exists_eq_left', Option.toList_some, Option.toList_none, ev_km, ev_k2, ev_k3, ev_k4, ev_k5, ev_l0, ev_l1, sh_1, sh_2, sh_3, sh_4, sh_5, at_X11_readsEven_30, at_X11_readsEven_31, at_X11_readsEven_45, at_X11_readsEven_50, at_X11_readsEven_53, at_X11_readsEven_89, at_X11_readsEven_95, ca_X11_118, ca_X11_143, ca_X11_146, ca_X11_149, ca_X11_189, ca_X11_198, ca_X11_201, cd_X11_readsEven_0, cd_X11_readsEven_30, cd_X11_readsEven_31, cd_X11_readsEven_45, cd_X11_readsEven_50, cd_X11_readsEven_53, cd_X11_readsEven_89, cd_X11_readsEven_95, fl_X11_62, fl_X11_9, ev_b_23, no_0, no_1, no_lt, no_le, no_eq, no_lt0, no_ge0, no_gt0, no_le0, no_eq0, no_0eq, no_eqm, no_meq, no_m0, no_mlt, no_mge, no_mgt, no_mm, no_i01, no_i10, no_in, no_or, no_ifm, no_mul, nI_add, no_sub, pk_div, iI_if, nI_clamp, oI_n, oI_s, not_true_eq_false, not_false_eq_true, forall_const, true_implies, false_and, and_false, or_false, false_or, Classical.not_not, true_or, or_true, no_b, no_eq1, eq_self, and_self, sk_301, sk_302, sl_302, sp_301, n0, w0, re_10, re_n, hN0, f1, z1, hQ, f9, y, nx_n z9, nW_n z9]
        | exact rfl
        | (split <;> omega))
    · rw [er_f hc]
      have nn : nx e1 (a + 1) = a + 1 + 1 := nx_0 z1
      have hv9 := NV_nx (B := B) (n := n) (e := e1) (a := a + 1) hv1
      rw [nn] at hv9
      generalize w9 : nW B n e1 (a + 1) v1 = v9 at hv9
      have hr9 : nI9 B n N a 16 = evN N q (mid N q) (N 0) := by rw [← hQ]; rfl
      rw [hr9]
      refine ⟨a + 1 + 1, v9, mw μ (evN N q (mid N q) (N 0)), ?_, Fw_mw, hv9, fun _ => ⟨rfl, mw_R⟩⟩
      have hmd := m_X11_middle (μ := re B n e1 (a + 1) v1 μ) hok (MR_re hN) hI b1 (by omega)
      have hm9 := mid_le N q
      refine ev_tri1 hok (okM_X11_readsEven 0) (Nat.le_of_ble_eq_true rfl) 53 [0, 1, 2, 3] (N 0) 400 (fun k => [.ref 301, .int (nI q), .int (nI (mid N q)), .int (nI k)]) (fun k => re B n e1 (a + 1) v1 (mw μ (evN N q (mid N q) k))) (fun _ => True) ?_ ?_
      · intro k hk _
        rw [at_X11_readsEven_53]
        have r0 : (mw μ (evN N q (mid N q) k)).1 302 0 = nI (N 0) := by rw [mw_302 (by omega), evN_ne (fun i hi => by omega)]
        rcases Nat.lt_or_ge k (N 0) with hkn | hkn
        · have r1 : INV (evN N q (mid N q) k) := INV_ev hI b1 hm9 (by omega)
          have r2 : evN N q (mid N q) k (8 + 59 * k + (23 + q)) = N (8 + 59 * k + (23 + q)) := evN_ne (fun i hi => by omega)
          have his := m_X11_isScored (μ := re B n e1 (a + 1) v1 (mw μ (evN N q (mid N q) k))) hok (MR_re mw_R) r1 (i := k) (q := q) (by omega) b1
          rw [r2] at his
          by_cases cz : N (8 + 59 * k + (23 + q)) = 0
          · rw [if_pos cz] at his
            have e9 := evN_n (N := N) (q := q) (m := mid N q) cz
            repeat' (first
              | (with_reducible refine ev_rid ?_; simp (disch := first | omega | assumption) only [ev_run_c, ev_run_n, ev_fj, ev_stp, ev_lk, ev_fv, ev_as, ev_sz, ev_st1, ev_st2, ev_rm, ev_pk, ev_Jof, ev_go, lv_args, List.map_cons, List.map_nil, List.zip_cons_cons, List.zip_nil_left, List.zip_nil_right, List.nil_append, List.cons_append, ↓reduceIte, reduceCtorEq, Int.reduceToNat, Nat.reduceEqDiff, Nat.reduceAdd, Nat.reduceLT, Nat.reduceLeDiff, Nat.reduceMul, Nat.reduceSub, Value.category, false_implies, true_and, and_true, Bool.false_eq_true, Option.some.injEq, exists_eq_left', Option.toList_some, Option.toList_none, ev_km, ev_k2, ev_k3, ev_k4, ev_k5, ev_l0, ev_l1, sh_1, sh_2, sh_3, sh_4, sh_5, at_X11_readsEven_30, at_X11_readsEven_31, at_X11_readsEven_45, at_X11_readsEven_50, at_X11_readsEven_53, at_X11_readsEven_89, at_X11_readsEven_95, ca_X11_118, ca_X11_143, ca_X11_146, ca_X11_149, ca_X11_189, ca_X11_198, ca_X11_201, cd_X11_readsEven_0, cd_X11_readsEven_30, cd_X11_readsEven_31, cd_X11_readsEven_45, cd_X11_readsEven_50, cd_X11_readsEven_53, cd_X11_readsEven_89, cd_X11_readsEven_95, fl_X11_62, fl_X11_9, ev_b_23, no_0, no_1, no_lt, no_le, no_eq, no_lt0, no_ge0, no_gt0, no_le0, no_eq0, no_0eq, no_eqm, no_meq, no_m0, no_mlt, no_mge, no_mgt, no_mm, no_i01, no_i10, no_in, no_or, no_ifm, no_mul, nI_add, no_sub, pk_div, iI_if, nI_clamp, oI_n, oI_s, not_true_eq_false, not_false_eq_true, forall_const, true_implies, false_and, and_false, or_false, false_or, Classical.not_not, true_or, or_true, no_b, no_eq1, eq_self, and_self, sk_301, sk_302, sl_302, sp_301, re_10, re_n, r0, z1, e9])
              | (with_reducible refine ev_gid ?_; simp (disch := first | omega | assumption) only [ev_run_c, ev_run_n, ev_fj, ev_stp, ev_lk, ev_fv, ev_as, ev_sz, ev_st1, ev_st2, ev_rm, ev_pk, ev_Jof, ev_go, lv_args, List.map_cons, List.map_nil, List.zip_cons_cons, List.zip_nil_left, List.zip_nil_right, List.nil_append, List.cons_append, ↓reduceIte, reduceCtorEq, Int.reduceToNat, Nat.reduceEqDiff, Nat.reduceAdd, Nat.reduceLT, Nat.reduceLeDiff, Nat.reduceMul, Nat.reduceSub, Value.category, false_implies, true_and, and_true, Bool.false_eq_true, Option.some.injEq, exists_eq_left', Option.toList_some, Option.toList_none, ev_km, ev_k2, ev_k3, ev_k4, ev_k5, ev_l0, ev_l1, sh_1, sh_2, sh_3, sh_4, sh_5, at_X11_readsEven_30, at_X11_readsEven_31, at_X11_readsEven_45, at_X11_readsEven_50, at_X11_readsEven_53, at_X11_readsEven_89, at_X11_readsEven_95, ca_X11_118, ca_X11_143, ca_X11_146, ca_X11_149, ca_X11_189, ca_X11_198, ca_X11_201, cd_X11_readsEven_0, cd_X11_readsEven_30, cd_X11_readsEven_31, cd_X11_readsEven_45, cd_X11_readsEven_50, cd_X11_readsEven_53, cd_X11_readsEven_89, cd_X11_readsEven_95, fl_X11_62, fl_X11_9, ev_b_23, no_0, no_1, no_lt, no_le, no_eq, no_lt0, no_ge0, no_gt0, no_le0, no_eq0, no_0eq, no_eqm, no_meq, no_m0, no_mlt, no_mge, no_mgt, no_mm, no_i01, no_i10, no_in, no_or, no_ifm, no_mul, nI_add, no_sub, pk_div, iI_if, nI_clamp, oI_n, oI_s, not_true_eq_false, not_false_eq_true, forall_const, true_implies, false_and, and_false, or_false, false_or, Classical.not_not, true_or, or_true, no_b, no_eq1, eq_self, and_self, sk_301, sk_302, sl_302, sp_301, re_10, re_n, r0, z1, e9])
              | (with_reducible refine And.intro (fun q => ?_) (fun q => ?_) <;> (try simp (disch := first | omega | assumption) only [no_0, no_1, no_lt, no_le, no_eq, no_lt0, no_ge0, no_gt0, no_le0, no_eq0, no_0eq, no_eqm, no_meq, no_m0, no_mlt, no_mge, no_mgt, no_mm, no_i01, no_i10, no_in, no_or, no_ifm, no_mul, nI_add, no_sub, pk_div, iI_if, nI_clamp, oI_n, oI_s, not_true_eq_false, not_false_eq_true, forall_const, true_implies, false_and, and_false, or_false, false_or, Classical.not_not, true_or, or_true, no_b, no_eq1, eq_self, and_self, sk_301, sk_302, sl_302, sp_301, re_10, re_n, r0, z1, e9] at q))
              | (with_reducible refine ev_ci his ?_)
              | with_reducible refine ev_ci (m_go hok (by first | with_reducible assumption | exact RB_mw (by with_reducible assumption)) ?_) ?_
              | with_reducible refine ev_ci (m_pancakeHere hok (by with_reducible assumption) ?_ (by with_reducible assumption) (by with_reducible assumption)) ?_
              | with_reducible refine ev_ci (m_X11_scores hok (by first | exact MR_re (by with_reducible assumption) | exact MR_re mw_R) (by with_reducible assumption) ?_) ?_
              | with_reducible refine ev_ci (m_limits1 hok ?_) ?_
              | with_reducible refine ev_ci (m_limits0 hok ?_) ?_
              | with_reducible refine ev_ci (m_X11_middle hok (by first | exact MR_re (by with_reducible assumption) | exact MR_re mw_R) (by with_reducible assumption) ?_ ?_) ?_
              | with_reducible refine ev_ci (m_X11_isScored hok (by first | exact MR_re (by with_reducible assumption) | exact MR_re mw_R) (by with_reducible assumption) ?_ ?_) ?_
              | with_reducible refine ev_ci (m_X11_puts hok (by first | exact MR_re (by with_reducible assumption) | exact MR_re mw_R) ?_ ?_) ?_
              | omega
              | with_reducible assumption
              | with_reducible rfl
              | with_reducible refine lp_nx ?_ ?_ ?_ ?_
              | with_reducible refine lp_st ?_ ?_ ?_
              | with_reducible refine ls_c ?_ ?_
              | with_reducible refine vi_c ?_
              | with_reducible refine re_c ?_
              | with_reducible refine vz_c ?_
              | with_reducible refine rz_c ?_
              | exact trivial
              | with_reducible refine And.intro ?_ ?_
              | simp (disch := first | omega | assumption) only [ev_run_c, ev_run_n, ev_fj, ev_stp, ev_lk, ev_fv, ev_as, ev_sz, ev_st1, ev_st2, ev_rm, ev_pk, ev_Jof, ev_go, lv_args, List.map_cons, List.map_nil, List.zip_cons_cons, List.zip_nil_left, List.zip_nil_right, List.nil_append, List.cons_append, ↓reduceIte, reduceCtorEq, Int.reduceToNat, Nat.reduceEqDiff, Nat.reduceAdd, Nat.reduceLT, Nat.reduceLeDiff, Nat.reduceMul, Nat.reduceSub, Value.category, false_implies, true_and, and_true, Bool.false_eq_true, Option.some.injEq, exists_eq_left', Option.toList_some, Option.toList_none, ev_km, ev_k2, ev_k3, ev_k4, ev_k5, ev_l0, ev_l1, sh_1, sh_2, sh_3, sh_4, sh_5, at_X11_readsEven_30, at_X11_readsEven_31, at_X11_readsEven_45, at_X11_readsEven_50, at_X11_readsEven_53, at_X11_readsEven_89, at_X11_readsEven_95, ca_X11_118, ca_X11_143, ca_X11_146, ca_X11_149, ca_X11_189, ca_X11_198, ca_X11_201, cd_X11_readsEven_0, cd_X11_readsEven_30, cd_X11_readsEven_31, cd_X11_readsEven_45, cd_X11_readsEven_50, cd_X11_readsEven_53, cd_X11_readsEven_89, cd_X11_readsEven_95, fl_X11_62, fl_X11_9, ev_b_23, no_0, no_1, no_lt, no_le, no_eq, no_lt0, no_ge0, no_gt0, no_le0, no_eq0, no_0eq, no_eqm, no_meq, no_m0, no_mlt, no_mge, no_mgt, no_mm, no_i01, no_i10, no_in, no_or, no_ifm, no_mul, nI_add, no_sub, pk_div, iI_if, nI_clamp, oI_n, oI_s, not_true_eq_false, not_false_eq_true, forall_const, true_implies, false_and, and_false, or_false, false_or, Classical.not_not, true_or, or_true, no_b, no_eq1, eq_self, and_self, sk_301, sk_302, sl_302, sp_301, re_10, re_n, r0, z1, e9]
              | exact rfl
              | (split <;> omega))
          · rw [if_neg cz] at his
            have e9 := evN_y (N := N) (q := q) (m := mid N q) cz
            have hpt := m_X11_puts (μ := re B n e1 (a + 1) v1 (mw μ (evN N q (mid N q) k))) (v := mid N q) hok (MR_re mw_R) (i := k) (w := 23 + q) (by omega) (by omega)
            repeat' (first
              | (with_reducible refine ev_rid ?_; simp (disch := first | omega | assumption) only [ev_run_c, ev_run_n, ev_fj, ev_stp, ev_lk, ev_fv, ev_as, ev_sz, ev_st1, ev_st2, ev_rm, ev_pk, ev_Jof, ev_go, lv_args, List.map_cons, List.map_nil, List.zip_cons_cons, List.zip_nil_left, List.zip_nil_right, List.nil_append, List.cons_append, ↓reduceIte, reduceCtorEq, Int.reduceToNat, Nat.reduceEqDiff, Nat.reduceAdd, Nat.reduceLT, Nat.reduceLeDiff, Nat.reduceMul, Nat.reduceSub, Value.category, false_implies, true_and, and_true, Bool.false_eq_true, Option.some.injEq, exists_eq_left', Option.toList_some, Option.toList_none, ev_km, ev_k2, ev_k3, ev_k4, ev_k5, ev_l0, ev_l1, sh_1, sh_2, sh_3, sh_4, sh_5, at_X11_readsEven_30, at_X11_readsEven_31, at_X11_readsEven_45, at_X11_readsEven_50, at_X11_readsEven_53, at_X11_readsEven_89, at_X11_readsEven_95, ca_X11_118, ca_X11_143, ca_X11_146, ca_X11_149, ca_X11_189, ca_X11_198, ca_X11_201, cd_X11_readsEven_0, cd_X11_readsEven_30, cd_X11_readsEven_31, cd_X11_readsEven_45, cd_X11_readsEven_50, cd_X11_readsEven_53, cd_X11_readsEven_89, cd_X11_readsEven_95, fl_X11_62, fl_X11_9, ev_b_23, no_0, no_1, no_lt, no_le, no_eq, no_lt0, no_ge0, no_gt0, no_le0, no_eq0, no_0eq, no_eqm, no_meq, no_m0, no_mlt, no_mge, no_mgt, no_mm, no_i01, no_i10, no_in, no_or, no_ifm, no_mul, nI_add, no_sub, pk_div, iI_if, nI_clamp, oI_n, oI_s, not_true_eq_false, not_false_eq_true, forall_const, true_implies, false_and, and_false, or_false, false_or, Classical.not_not, true_or, or_true, no_b, no_eq1, eq_self, and_self, sk_301, sk_302, sl_302, sp_301, re_10, re_n, r0, z1, e9, mw_re, mw_mw])
              | (with_reducible refine ev_gid ?_; simp (disch := first | omega | assumption) only [ev_run_c, ev_run_n, ev_fj, ev_stp, ev_lk, ev_fv, ev_as, ev_sz, ev_st1, ev_st2, ev_rm, ev_pk, ev_Jof, ev_go, lv_args, List.map_cons, List.map_nil, List.zip_cons_cons, List.zip_nil_left, List.zip_nil_right, List.nil_append, List.cons_append, ↓reduceIte, reduceCtorEq, Int.reduceToNat, Nat.reduceEqDiff, Nat.reduceAdd, Nat.reduceLT, Nat.reduceLeDiff, Nat.reduceMul, Nat.reduceSub, Value.category, false_implies, true_and, and_true, Bool.false_eq_true, Option.some.injEq, exists_eq_left', Option.toList_some, Option.toList_none, ev_km, ev_k2, ev_k3, ev_k4, ev_k5, ev_l0, ev_l1, sh_1, sh_2, sh_3, sh_4, sh_5, at_X11_readsEven_30, at_X11_readsEven_31, at_X11_readsEven_45, at_X11_readsEven_50, at_X11_readsEven_53, at_X11_readsEven_89, at_X11_readsEven_95, ca_X11_118, ca_X11_143, ca_X11_146, ca_X11_149, ca_X11_189, ca_X11_198, ca_X11_201, cd_X11_readsEven_0, cd_X11_readsEven_30, cd_X11_readsEven_31, cd_X11_readsEven_45, cd_X11_readsEven_50, cd_X11_readsEven_53, cd_X11_readsEven_89, cd_X11_readsEven_95, fl_X11_62, fl_X11_9, ev_b_23, no_0, no_1, no_lt, no_le, no_eq, no_lt0, no_ge0, no_gt0, no_le0, no_eq0, no_0eq, no_eqm, no_meq, no_m0, no_mlt, no_mge, no_mgt, no_mm, no_i01, no_i10, no_in, no_or, no_ifm, no_mul, nI_add, no_sub, pk_div, iI_if, nI_clamp, oI_n, oI_s, not_true_eq_false, not_false_eq_true, forall_const, true_implies, false_and, and_false, or_false, false_or, Classical.not_not, true_or, or_true, no_b, no_eq1, eq_self, and_self, sk_301, sk_302, sl_302, sp_301, re_10, re_n, r0, z1, e9, mw_re, mw_mw])
              | (with_reducible refine And.intro (fun q => ?_) (fun q => ?_) <;> (try simp (disch := first | omega | assumption) only [no_0, no_1, no_lt, no_le, no_eq, no_lt0, no_ge0, no_gt0, no_le0, no_eq0, no_0eq, no_eqm, no_meq, no_m0, no_mlt, no_mge, no_mgt, no_mm, no_i01, no_i10, no_in, no_or, no_ifm, no_mul, nI_add, no_sub, pk_div, iI_if, nI_clamp, oI_n, oI_s, not_true_eq_false, not_false_eq_true, forall_const, true_implies, false_and, and_false, or_false, false_or, Classical.not_not, true_or, or_true, no_b, no_eq1, eq_self, and_self, sk_301, sk_302, sl_302, sp_301, re_10, re_n, r0, z1, e9, mw_re, mw_mw] at q))
              | (with_reducible refine ev_ci his ?_)
              | (with_reducible refine ev_ci hpt ?_)
              | with_reducible refine ev_ci (m_go hok (by first | with_reducible assumption | exact RB_mw (by with_reducible assumption)) ?_) ?_
              | with_reducible refine ev_ci (m_pancakeHere hok (by with_reducible assumption) ?_ (by with_reducible assumption) (by with_reducible assumption)) ?_
              | with_reducible refine ev_ci (m_X11_scores hok (by first | exact MR_re (by with_reducible assumption) | exact MR_re mw_R) (by with_reducible assumption) ?_) ?_
              | with_reducible refine ev_ci (m_limits1 hok ?_) ?_
              | with_reducible refine ev_ci (m_limits0 hok ?_) ?_
              | with_reducible refine ev_ci (m_X11_middle hok (by first | exact MR_re (by with_reducible assumption) | exact MR_re mw_R) (by with_reducible assumption) ?_ ?_) ?_
              | with_reducible refine ev_ci (m_X11_isScored hok (by first | exact MR_re (by with_reducible assumption) | exact MR_re mw_R) (by with_reducible assumption) ?_ ?_) ?_
              | with_reducible refine ev_ci (m_X11_puts hok (by first | exact MR_re (by with_reducible assumption) | exact MR_re mw_R) ?_ ?_) ?_
              | omega
              | with_reducible assumption
              | with_reducible rfl
              | with_reducible refine lp_nx ?_ ?_ ?_ ?_
              | with_reducible refine lp_st ?_ ?_ ?_
              | with_reducible refine ls_c ?_ ?_
              | with_reducible refine vi_c ?_
              | with_reducible refine re_c ?_
              | with_reducible refine vz_c ?_
              | with_reducible refine rz_c ?_
              | exact trivial
              | with_reducible refine And.intro ?_ ?_
              | simp (disch := first | omega | assumption) only [ev_run_c, ev_run_n, ev_fj, ev_stp, ev_lk, ev_fv, ev_as, ev_sz, ev_st1, ev_st2, ev_rm, ev_pk, ev_Jof, ev_go, lv_args, List.map_cons, List.map_nil, List.zip_cons_cons, List.zip_nil_left, List.zip_nil_right, List.nil_append, List.cons_append, ↓reduceIte, reduceCtorEq, Int.reduceToNat, Nat.reduceEqDiff, Nat.reduceAdd, Nat.reduceLT, Nat.reduceLeDiff, Nat.reduceMul, Nat.reduceSub, Value.category, false_implies, true_and, and_true, Bool.false_eq_true, Option.some.injEq, exists_eq_left', Option.toList_some, Option.toList_none, ev_km, ev_k2, ev_k3, ev_k4, ev_k5, ev_l0, ev_l1, sh_1, sh_2, sh_3, sh_4, sh_5, at_X11_readsEven_30, at_X11_readsEven_31, at_X11_readsEven_45, at_X11_readsEven_50, at_X11_readsEven_53, at_X11_readsEven_89, at_X11_readsEven_95, ca_X11_118, ca_X11_143, ca_X11_146, ca_X11_149, ca_X11_189, ca_X11_198, ca_X11_201, cd_X11_readsEven_0, cd_X11_readsEven_30, cd_X11_readsEven_31, cd_X11_readsEven_45, cd_X11_readsEven_50, cd_X11_readsEven_53, cd_X11_readsEven_89, cd_X11_readsEven_95, fl_X11_62, fl_X11_9, ev_b_23, no_0, no_1, no_lt, no_le, no_eq, no_lt0, no_ge0, no_gt0, no_le0, no_eq0, no_0eq, no_eqm, no_meq, no_m0, no_mlt, no_mge, no_mgt, no_mm, no_i01, no_i10, no_in, no_or, no_ifm, no_mul, nI_add, no_sub, pk_div, iI_if, nI_clamp, oI_n, oI_s, not_true_eq_false, not_false_eq_true, forall_const, true_implies, false_and, and_false, or_false, false_or, Classical.not_not, true_or, or_true, no_b, no_eq1, eq_self, and_self, sk_301, sk_302, sl_302, sp_301, re_10, re_n, r0, z1, e9, mw_re, mw_mw]
              | exact rfl
              | (split <;> omega))
        · have hkn : k = N 0 := by omega
          subst hkn
          have hR2 : RB B n (mw μ (evN N q (mid N q) (N 0))) := RB_mw hR
          repeat' (first
            | (with_reducible refine ev_rid ?_; simp (disch := first | omega | assumption) only [ev_run_c, ev_run_n, ev_fj, ev_stp, ev_lk, ev_fv, ev_as, ev_sz, ev_st1, ev_st2, ev_rm, ev_pk, ev_Jof, ev_go, lv_args, List.map_cons, List.map_nil, List.zip_cons_cons, List.zip_nil_left, List.zip_nil_right, List.nil_append, List.cons_append, ↓reduceIte, reduceCtorEq, Int.reduceToNat, Nat.reduceEqDiff, Nat.reduceAdd, Nat.reduceLT, Nat.reduceLeDiff, Nat.reduceMul, Nat.reduceSub, Value.category, false_implies, true_and, and_true, Bool.false_eq_true, Option.some.injEq, exists_eq_left', Option.toList_some, Option.toList_none, ev_km, ev_k2, ev_k3, ev_k4, ev_k5, ev_l0, ev_l1, sh_1, sh_2, sh_3, sh_4, sh_5, at_X11_readsEven_30, at_X11_readsEven_31, at_X11_readsEven_45, at_X11_readsEven_50, at_X11_readsEven_53, at_X11_readsEven_89, at_X11_readsEven_95, ca_X11_118, ca_X11_143, ca_X11_146, ca_X11_149, ca_X11_189, ca_X11_198, ca_X11_201, cd_X11_readsEven_0, cd_X11_readsEven_30, cd_X11_readsEven_31, cd_X11_readsEven_45, cd_X11_readsEven_50, cd_X11_readsEven_53, cd_X11_readsEven_89, cd_X11_readsEven_95, fl_X11_62, fl_X11_9, ev_b_23, no_0, no_1, no_lt, no_le, no_eq, no_lt0, no_ge0, no_gt0, no_le0, no_eq0, no_0eq, no_eqm, no_meq, no_m0, no_mlt, no_mge, no_mgt, no_mm, no_i01, no_i10, no_in, no_or, no_ifm, no_mul, nI_add, no_sub, pk_div, iI_if, nI_clamp, oI_n, oI_s, not_true_eq_false, not_false_eq_true, forall_const, true_implies, false_and, and_false, or_false, false_or, Classical.not_not, true_or, or_true, no_b, no_eq1, eq_self, and_self, sk_301, sk_302, sl_302, sp_301, re_10, re_n, r0, z1, nn, w9])
            | (with_reducible refine ev_gid ?_; simp (disch := first | omega | assumption) only [ev_run_c, ev_run_n, ev_fj, ev_stp, ev_lk, ev_fv, ev_as, ev_sz, ev_st1, ev_st2, ev_rm, ev_pk, ev_Jof, ev_go, lv_args, List.map_cons, List.map_nil, List.zip_cons_cons, List.zip_nil_left, List.zip_nil_right, List.nil_append, List.cons_append, ↓reduceIte, reduceCtorEq, Int.reduceToNat, Nat.reduceEqDiff, Nat.reduceAdd, Nat.reduceLT, Nat.reduceLeDiff, Nat.reduceMul, Nat.reduceSub, Value.category, false_implies, true_and, and_true, Bool.false_eq_true, Option.some.injEq, exists_eq_left', Option.toList_some, Option.toList_none, ev_km, ev_k2, ev_k3, ev_k4, ev_k5, ev_l0, ev_l1, sh_1, sh_2, sh_3, sh_4, sh_5, at_X11_readsEven_30, at_X11_readsEven_31, at_X11_readsEven_45, at_X11_readsEven_50, at_X11_readsEven_53, at_X11_readsEven_89, at_X11_readsEven_95, ca_X11_118, ca_X11_143, ca_X11_146, ca_X11_149, ca_X11_189, ca_X11_198, ca_X11_201, cd_X11_readsEven_0, cd_X11_readsEven_30, cd_X11_readsEven_31, cd_X11_readsEven_45, cd_X11_readsEven_50, cd_X11_readsEven_53, cd_X11_readsEven_89, cd_X11_readsEven_95, fl_X11_62, fl_X11_9, ev_b_23, no_0, no_1, no_lt, no_le, no_eq, no_lt0, no_ge0, no_gt0, no_le0, no_eq0, no_0eq, no_eqm, no_meq, no_m0, no_mlt, no_mge, no_mgt, no_mm, no_i01, no_i10, no_in, no_or, no_ifm, no_mul, nI_add, no_sub, pk_div, iI_if, nI_clamp, oI_n, oI_s, not_true_eq_false, not_false_eq_true, forall_const, true_implies, false_and, and_false, or_false, false_or, Classical.not_not, true_or, or_true, no_b, no_eq1, eq_self, and_self, sk_301, sk_302, sl_302, sp_301, re_10, re_n, r0, z1, nn, w9])
            | (with_reducible refine And.intro (fun q => ?_) (fun q => ?_) <;> (try simp (disch := first | omega | assumption) only [no_0, no_1, no_lt, no_le, no_eq, no_lt0, no_ge0, no_gt0, no_le0, no_eq0, no_0eq, no_eqm, no_meq, no_m0, no_mlt, no_mge, no_mgt, no_mm, no_i01, no_i10, no_in, no_or, no_ifm, no_mul, nI_add, no_sub, pk_div, iI_if, nI_clamp, oI_n, oI_s, not_true_eq_false, not_false_eq_true, forall_const, true_implies, false_and, and_false, or_false, false_or, Classical.not_not, true_or, or_true, no_b, no_eq1, eq_self, and_self, sk_301, sk_302, sl_302, sp_301, re_10, re_n, r0, z1, nn, w9] at q))
            | with_reducible refine ev_ci (m_go hok (by first | with_reducible assumption | exact RB_mw (by with_reducible assumption)) ?_) ?_
            | with_reducible refine ev_ci (m_pancakeHere hok (by with_reducible assumption) ?_ (by with_reducible assumption) (by with_reducible assumption)) ?_
            | with_reducible refine ev_ci (m_X11_scores hok (by first | exact MR_re (by with_reducible assumption) | exact MR_re mw_R) (by with_reducible assumption) ?_) ?_
            | with_reducible refine ev_ci (m_limits1 hok ?_) ?_
            | with_reducible refine ev_ci (m_limits0 hok ?_) ?_
            | with_reducible refine ev_ci (m_X11_middle hok (by first | exact MR_re (by with_reducible assumption) | exact MR_re mw_R) (by with_reducible assumption) ?_ ?_) ?_
            | with_reducible refine ev_ci (m_X11_isScored hok (by first | exact MR_re (by with_reducible assumption) | exact MR_re mw_R) (by with_reducible assumption) ?_ ?_) ?_
            | with_reducible refine ev_ci (m_X11_puts hok (by first | exact MR_re (by with_reducible assumption) | exact MR_re mw_R) ?_ ?_) ?_
            | omega
            | with_reducible assumption
            | with_reducible rfl
            | with_reducible refine lp_nx ?_ ?_ ?_ ?_
            | with_reducible refine lp_st ?_ ?_ ?_
            | with_reducible refine ls_c ?_ ?_
            | with_reducible refine vi_c ?_
            | with_reducible refine re_c ?_
            | with_reducible refine vz_c ?_
            | with_reducible refine rz_c ?_
            | exact trivial
            | with_reducible refine And.intro ?_ ?_
            | simp (disch := first | omega | assumption) only [ev_run_c, ev_run_n, ev_fj, ev_stp, ev_lk, ev_fv, ev_as, ev_sz, ev_st1, ev_st2, ev_rm, ev_pk, ev_Jof, ev_go, lv_args, List.map_cons, List.map_nil, List.zip_cons_cons, List.zip_nil_left, List.zip_nil_right, List.nil_append, List.cons_append, ↓reduceIte, reduceCtorEq, Int.reduceToNat, Nat.reduceEqDiff, Nat.reduceAdd, Nat.reduceLT, Nat.reduceLeDiff, Nat.reduceMul, Nat.reduceSub, Value.category, false_implies, true_and, and_true, Bool.false_eq_true, Option.some.injEq, exists_eq_left', Option.toList_some, Option.toList_none, ev_km, ev_k2, ev_k3, ev_k4, ev_k5, ev_l0, ev_l1, sh_1, sh_2, sh_3, sh_4, sh_5, at_X11_readsEven_30, at_X11_readsEven_31, at_X11_readsEven_45, at_X11_readsEven_50, at_X11_readsEven_53, at_X11_readsEven_89, at_X11_readsEven_95, ca_X11_118, ca_X11_143, ca_X11_146, ca_X11_149, ca_X11_189, ca_X11_198, ca_X11_201, cd_X11_readsEven_0, cd_X11_readsEven_30, cd_X11_readsEven_31, cd_X11_readsEven_45, cd_X11_readsEven_50, cd_X11_readsEven_53, cd_X11_readsEven_89, cd_X11_readsEven_95, fl_X11_62, fl_X11_9, ev_b_23, no_0, no_1, no_lt, no_le, no_eq, no_lt0, no_ge0, no_gt0, no_le0, no_eq0, no_0eq, no_eqm, no_meq, no_m0, no_mlt, no_mge, no_mgt, no_mm, no_i01, no_i10, no_in, no_or, no_ifm, no_mul, nI_add, no_sub, pk_div, iI_if, nI_clamp, oI_n, oI_s, not_true_eq_false, not_false_eq_true, forall_const, true_implies, false_and, and_false, or_false, false_or, Classical.not_not, true_or, or_true, no_b, no_eq1, eq_self, and_self, sk_301, sk_302, sl_302, sp_301, re_10, re_n, r0, z1, nn, w9]
            | exact rfl
            | (split <;> omega))
      · rw [at_X11_readsEven_0]
        have e9 : mw μ (evN N q (mid N q) 0) = μ := mw_self hN
        repeat' (first
          | (with_reducible refine ev_rid ?_; simp (disch := first | omega | assumption) only [ev_run_c, ev_run_n, ev_fj, ev_stp, ev_lk, ev_fv, ev_as, ev_sz, ev_st1, ev_st2, ev_rm, ev_pk, ev_Jof, ev_go, lv_args, List.map_cons, List.map_nil, List.zip_cons_cons, List.zip_nil_left, List.zip_nil_right, List.nil_append, List.cons_append, ↓reduceIte, reduceCtorEq, Int.reduceToNat, Nat.reduceEqDiff, Nat.reduceAdd, Nat.reduceLT, Nat.reduceLeDiff, Nat.reduceMul, Nat.reduceSub, Value.category, false_implies, true_and, and_true, Bool.false_eq_true, Option.some.injEq, exists_eq_left', Option.toList_some, Option.toList_none, ev_km, ev_k2, ev_k3, ev_k4, ev_k5, ev_l0, ev_l1, sh_1, sh_2, sh_3, sh_4, sh_5, at_X11_readsEven_30, at_X11_readsEven_31, at_X11_readsEven_45, at_X11_readsEven_50, at_X11_readsEven_53, at_X11_readsEven_89, at_X11_readsEven_95, ca_X11_118, ca_X11_143, ca_X11_146, ca_X11_149, ca_X11_189, ca_X11_198, ca_X11_201, cd_X11_readsEven_0, cd_X11_readsEven_30, cd_X11_readsEven_31, cd_X11_readsEven_45, cd_X11_readsEven_50, cd_X11_readsEven_53, cd_X11_readsEven_89, cd_X11_readsEven_95, fl_X11_62, fl_X11_9, ev_b_23, no_0, no_1, no_lt, no_le, no_eq, no_lt0, no_ge0, no_gt0, no_le0, no_eq0, no_0eq, no_eqm, no_meq, no_m0, no_mlt, no_mge, no_mgt, no_mm, no_i01, no_i10, no_in, no_or, no_ifm, no_mul, nI_add, no_sub, pk_div, iI_if, nI_clamp, oI_n, oI_s, not_true_eq_false, not_false_eq_true, forall_const, true_implies, false_and, and_false, or_false, false_or, Classical.not_not, true_or, or_true, no_b, no_eq1, eq_self, and_self, sk_301, sk_302, sl_302, sp_301, n0, w0, re_10, f1, z1, hQ, e9])
          | (with_reducible refine ev_gid ?_; simp (disch := first | omega | assumption) only [ev_run_c, ev_run_n, ev_fj, ev_stp, ev_lk, ev_fv, ev_as, ev_sz, ev_st1, ev_st2, ev_rm, ev_pk, ev_Jof, ev_go, lv_args, List.map_cons, List.map_nil, List.zip_cons_cons, List.zip_nil_left, List.zip_nil_right, List.nil_append, List.cons_append, ↓reduceIte, reduceCtorEq, Int.reduceToNat, Nat.reduceEqDiff, Nat.reduceAdd, Nat.reduceLT, Nat.reduceLeDiff, Nat.reduceMul, Nat.reduceSub, Value.category, false_implies, true_and, and_true, Bool.false_eq_true, Option.some.injEq, exists_eq_left', Option.toList_some, Option.toList_none, ev_km, ev_k2, ev_k3, ev_k4, ev_k5, ev_l0, ev_l1, sh_1, sh_2, sh_3, sh_4, sh_5, at_X11_readsEven_30, at_X11_readsEven_31, at_X11_readsEven_45, at_X11_readsEven_50, at_X11_readsEven_53, at_X11_readsEven_89, at_X11_readsEven_95, ca_X11_118, ca_X11_143, ca_X11_146, ca_X11_149, ca_X11_189, ca_X11_198, ca_X11_201, cd_X11_readsEven_0, cd_X11_readsEven_30, cd_X11_readsEven_31, cd_X11_readsEven_45, cd_X11_readsEven_50, cd_X11_readsEven_53, cd_X11_readsEven_89, cd_X11_readsEven_95, fl_X11_62, fl_X11_9, ev_b_23, no_0, no_1, no_lt, no_le, no_eq, no_lt0, no_ge0, no_gt0, no_le0, no_eq0, no_0eq, no_eqm, no_meq, no_m0, no_mlt, no_mge, no_mgt, no_mm, no_i01, no_i10, no_in, no_or, no_ifm, no_mul, nI_add, no_sub, pk_div, iI_if, nI_clamp, oI_n, oI_s, not_true_eq_false, not_false_eq_true, forall_const, true_implies, false_and, and_false, or_false, false_or, Classical.not_not, true_or, or_true, no_b, no_eq1, eq_self, and_self, sk_301, sk_302, sl_302, sp_301, n0, w0, re_10, f1, z1, hQ, e9])
          | (with_reducible refine And.intro (fun q => ?_) (fun q => ?_) <;> (try simp (disch := first | omega | assumption) only [no_0, no_1, no_lt, no_le, no_eq, no_lt0, no_ge0, no_gt0, no_le0, no_eq0, no_0eq, no_eqm, no_meq, no_m0, no_mlt, no_mge, no_mgt, no_mm, no_i01, no_i10, no_in, no_or, no_ifm, no_mul, nI_add, no_sub, pk_div, iI_if, nI_clamp, oI_n, oI_s, not_true_eq_false, not_false_eq_true, forall_const, true_implies, false_and, and_false, or_false, false_or, Classical.not_not, true_or, or_true, no_b, no_eq1, eq_self, and_self, sk_301, sk_302, sl_302, sp_301, n0, w0, re_10, f1, z1, hQ, e9] at q))
          | (with_reducible refine ev_ci hsc ?_)
          | (with_reducible refine ev_ci hmd ?_)
          | with_reducible refine ev_ci (m_go hok (by first | with_reducible assumption | exact RB_mw (by with_reducible assumption)) ?_) ?_
          | with_reducible refine ev_ci (m_pancakeHere hok (by with_reducible assumption) ?_ (by with_reducible assumption) (by with_reducible assumption)) ?_
          | with_reducible refine ev_ci (m_X11_scores hok (by first | exact MR_re (by with_reducible assumption) | exact MR_re mw_R) (by with_reducible assumption) ?_) ?_
          | with_reducible refine ev_ci (m_limits1 hok ?_) ?_
          | with_reducible refine ev_ci (m_limits0 hok ?_) ?_
          | with_reducible refine ev_ci (m_X11_middle hok (by first | exact MR_re (by with_reducible assumption) | exact MR_re mw_R) (by with_reducible assumption) ?_ ?_) ?_
          | with_reducible refine ev_ci (m_X11_isScored hok (by first | exact MR_re (by with_reducible assumption) | exact MR_re mw_R) (by with_reducible assumption) ?_ ?_) ?_
          | with_reducible refine ev_ci (m_X11_puts hok (by first | exact MR_re (by with_reducible assumption) | exact MR_re mw_R) ?_ ?_) ?_
          | omega
          | with_reducible assumption
          | with_reducible rfl
          | with_reducible refine lp_nx ?_ ?_ ?_ ?_
          | with_reducible refine lp_st ?_ ?_ ?_
          | with_reducible refine ls_c ?_ ?_
          | with_reducible refine vi_c ?_
          | with_reducible refine re_c ?_
          | with_reducible refine vz_c ?_
          | with_reducible refine rz_c ?_
          | exact trivial
          | with_reducible refine And.intro ?_ ?_
          | simp (disch := first | omega | assumption) only [ev_run_c, ev_run_n, ev_fj, ev_stp, ev_lk, ev_fv, ev_as, ev_sz, ev_st1, ev_st2, ev_rm, ev_pk, ev_Jof, ev_go, lv_args, List.map_cons, List.map_nil, List.zip_cons_cons, List.zip_nil_left, List.zip_nil_right, List.nil_append, List.cons_append, ↓reduceIte, reduceCtorEq, Int.reduceToNat, Nat.reduceEqDiff, Nat.reduceAdd, Nat.reduceLT, Nat.reduceLeDiff, Nat.reduceMul, Nat.reduceSub, Value.category, false_implies, true_and, and_true, Bool.false_eq_true, Option.some.injEq, exists_eq_left', Option.toList_some, Option.toList_none, ev_km, ev_k2, ev_k3, ev_k4, ev_k5, ev_l0, ev_l1, sh_1, sh_2, sh_3, sh_4, sh_5, at_X11_readsEven_30, at_X11_readsEven_31, at_X11_readsEven_45, at_X11_readsEven_50, at_X11_readsEven_53, at_X11_readsEven_89, at_X11_readsEven_95, ca_X11_118, ca_X11_143, ca_X11_146, ca_X11_149, ca_X11_189, ca_X11_198, ca_X11_201, cd_X11_readsEven_0, cd_X11_readsEven_30, cd_X11_readsEven_31, cd_X11_readsEven_45, cd_X11_readsEven_50, cd_X11_readsEven_53, cd_X11_readsEven_89, cd_X11_readsEven_95, fl_X11_62, fl_X11_9, ev_b_23, no_0, no_1, no_lt, no_le, no_eq, no_lt0, no_ge0, no_gt0, no_le0, no_eq0, no_0eq, no_eqm, no_meq, no_m0, no_mlt, no_mge, no_mgt, no_mm, no_i01, no_i10, no_in, no_or, no_ifm, no_mul, nI_add, no_sub, pk_div, iI_if, nI_clamp, oI_n, oI_s, not_true_eq_false, not_false_eq_true, forall_const, true_implies, false_and, and_false, or_false, false_or, Classical.not_not, true_or, or_true, no_b, no_eq1, eq_self, and_self, sk_301, sk_302, sl_302, sp_301, n0, w0, re_10, f1, z1, hQ, e9]
          | exact rfl
          | (split <;> omega))
theorem er_or {e : Nat × Int32} {p q : Prop} [Decidable p] [Decidable q] {c i : Nat} (hc : c ≠ 0) : er (er e p c i B n) q c i B n = er e (p ∨ q) c i B n := by
  by_cases h0 : e.1 = 0
  · by_cases hp : p
    · rw [er_t h0 hp, er_t h0 (Or.inl hp)]
      exact if_neg (fun z => hc z.1)
    · rw [er_f hp]
      by_cases hq : q
      · rw [er_t h0 hq, er_t h0 (Or.inr hq)]
      · rw [er_f hq, er_f (fun z => z.elim hp hq)]
  · rw [er_n h0, er_n h0, er_n h0]
set_option maxHeartbeats 2000000 in
theorem rx_copy (hok : ev_ok sh_S G) (hR : RB B n μ) (hN : MR N μ) (hI : INV N) {a : Nat} {v : Int32} (hv : NV B n a v) : RX G B n mi_X11_readsCopy a v μ (q_copy B n N (a + 1)) (nI9 B n N a 17) (aI9 B n N a 17) := by
  have hh := iv_h hI
  have hN1 : N 1 ≤ 10 := hh.2.1
  have n0 : nx (0, -1) a = a + 1 := rfl
  have hv1 := NV_nx (B := B) (n := n) (e := (0, -1)) (a := a) hv
  rw [n0] at hv1
  generalize w0 : nW B n (0, -1) a v = v1 at hv1
  obtain ⟨e1, f1⟩ : ∃ e, rT B n N (0, -1) (a + 1) = e := ⟨_, rfl⟩
  have c1 : e1.1 < 5 := by rw [← f1]; exact rT_c (by decide)
  have hq : q_copy B n N (a + 1) = er (er (rP B n N e1 (a + 1 + 1)) (N (8 + 59 * (pv B n N (a + 1 + 1)) + 1) = 0) 3 (a + 1 + 1) B n) ((pv B n N (a + 1)) = (pv B n N (a + 1 + 1))) 3 (a + 1 + 1) B n := by rw [← f1]; rfl
  rw [hq, er_or (by decide)]
  by_cases z1 : ¬ e1.1 = 0
  · have y : (e1.1 = 0) = False := eq_false z1
    rw [rP_n z1, er_n z1]
    refine ⟨a + 1, v1, μ, ?_, Fw_rf, hv1, fun q => absurd q z1⟩
    refine ev_tri hok (okM_X11_readsCopy 0) (Nat.le_of_ble_eq_true rfl) 400 ?_
    rw [at_X11_readsCopy_0]
    repeat' (first
      | (with_reducible refine ev_rid ?_; simp (disch := first | omega | assumption) only [ev_run_c, ev_run_n, ev_fj, ev_stp, ev_lk, ev_fv, ev_as, ev_sz, ev_st1, ev_st2, ev_rm, ev_pk, ev_Jof, ev_go, lv_args, List.map_cons, List.map_nil, List.zip_cons_cons, List.zip_nil_left, List.zip_nil_right, List.nil_append, List.cons_append, ↓reduceIte, reduceCtorEq, Int.reduceToNat, Nat.reduceEqDiff, Nat.reduceAdd, Nat.reduceLT, Nat.reduceLeDiff, Nat.reduceMul, Nat.reduceSub, Value.category, false_implies, true_and, and_true, Bool.false_eq_true, Option.some.injEq, exists_eq_left', Option.toList_some, Option.toList_none, ev_km, ev_k2, ev_k3, ev_k4, ev_k5, ev_l0, ev_l1, sh_1, sh_2, sh_3, sh_4, sh_5, at_X11_readsCopy_35, at_X11_readsCopy_39, at_X11_readsCopy_40, at_X11_readsCopy_45, at_X11_readsCopy_82, ca_X11_118, ca_X11_121, ca_X11_133, ca_X11_137, ca_X11_140, ca_X11_149, ca_X11_162, cd_X11_readsCopy_0, cd_X11_readsCopy_35, cd_X11_readsCopy_39, cd_X11_readsCopy_40, cd_X11_readsCopy_45, cd_X11_readsCopy_82, fl_X11_62, ev_b_10, ev_b_13, no_0, no_1, no_lt, no_le, no_eq, no_lt0, no_ge0, no_gt0, no_le0, no_eq0, no_0eq, no_eqm, no_meq, no_m0, no_mlt, no_mge, no_mgt, no_mm, no_i01, no_i10, no_in, no_or, no_ifm, no_mul, nI_add, no_sub, pk_div, iI_if, nI_clamp, oI_n, oI_s, not_true_eq_false, not_false_eq_true, forall_const, true_implies, false_and, and_false, or_false, false_or, Classical.not_not, true_or, or_true, no_b, no_eq1, eq_self, and_self, sk_301, sk_302, sl_302, sp_301, n0, w0, re_10, re_n, f1, y, nx_n z1, nW_n z1, rP_n z1])
      | (with_reducible refine ev_gid ?_; simp (disch := first | omega | assumption) only [ev_run_c, ev_run_n, ev_fj, ev_stp, ev_lk, ev_fv, ev_as, ev_sz, ev_st1, ev_st2, ev_rm, ev_pk, ev_Jof, ev_go, lv_args, List.map_cons, List.map_nil, List.zip_cons_cons, List.zip_nil_left, List.zip_nil_right, List.nil_append, List.cons_append, ↓reduceIte, reduceCtorEq, Int.reduceToNat, Nat.reduceEqDiff, Nat.reduceAdd, Nat.reduceLT, Nat.reduceLeDiff, Nat.reduceMul, Nat.reduceSub, Value.category, false_implies, true_and, and_true, Bool.false_eq_true, Option.some.injEq, exists_eq_left', Option.toList_some, Option.toList_none, ev_km, ev_k2, ev_k3, ev_k4, ev_k5, ev_l0, ev_l1, sh_1, sh_2, sh_3, sh_4, sh_5, at_X11_readsCopy_35, at_X11_readsCopy_39, at_X11_readsCopy_40, at_X11_readsCopy_45, at_X11_readsCopy_82, ca_X11_118, ca_X11_121, ca_X11_133, ca_X11_137, ca_X11_140, ca_X11_149, ca_X11_162, cd_X11_readsCopy_0, cd_X11_readsCopy_35, cd_X11_readsCopy_39, cd_X11_readsCopy_40, cd_X11_readsCopy_45, cd_X11_readsCopy_82, fl_X11_62, ev_b_10, ev_b_13, no_0, no_1, no_lt, no_le, no_eq, no_lt0, no_ge0, no_gt0, no_le0, no_eq0, no_0eq, no_eqm, no_meq, no_m0, no_mlt, no_mge, no_mgt, no_mm, no_i01, no_i10, no_in, no_or, no_ifm, no_mul, nI_add, no_sub, pk_div, iI_if, nI_clamp, oI_n, oI_s, not_true_eq_false, not_false_eq_true, forall_const, true_implies, false_and, and_false, or_false, false_or, Classical.not_not, true_or, or_true, no_b, no_eq1, eq_self, and_self, sk_301, sk_302, sl_302, sp_301, n0, w0, re_10, re_n, f1, y, nx_n z1, nW_n z1, rP_n z1])
      | (with_reducible refine And.intro (fun q => ?_) (fun q => ?_) <;> (try simp (disch := first | omega | assumption) only [no_0, no_1, no_lt, no_le, no_eq, no_lt0, no_ge0, no_gt0, no_le0, no_eq0, no_0eq, no_eqm, no_meq, no_m0, no_mlt, no_mge, no_mgt, no_mm, no_i01, no_i10, no_in, no_or, no_ifm, no_mul, nI_add, no_sub, pk_div, iI_if, nI_clamp, oI_n, oI_s, not_true_eq_false, not_false_eq_true, forall_const, true_implies, false_and, and_false, or_false, false_or, Classical.not_not, true_or, or_true, no_b, no_eq1, eq_self, and_self, sk_301, sk_302, sl_302, sp_301, n0, w0, re_10, re_n, f1, y, nx_n z1, nW_n z1, rP_n z1] at q))
      | with_reducible refine ev_ci (m_go hok (by first | with_reducible assumption | exact RB_mw (by with_reducible assumption)) ?_) ?_
      | with_reducible refine ev_ci (m_readTaster hok (by with_reducible assumption) (by with_reducible assumption) (by with_reducible assumption) ?_) ?_
      | with_reducible refine ev_ci (m_personHere hok (by with_reducible assumption) (by with_reducible assumption) (by with_reducible assumption) ?_) ?_
      | with_reducible refine ev_ci (m_X11_isTasting hok (by first | exact MR_re (by with_reducible assumption) | exact MR_re mw_R) ?_ ?_) ?_
      | with_reducible refine ev_ci (m_refuses1 hok ?_) ?_
      | with_reducible refine ev_ci (m_refuses0 hok ?_) ?_
      | with_reducible refine ev_ci (m_X11_of hok (by first | exact MR_re (by with_reducible assumption) | exact MR_re mw_R) ?_ ?_) ?_
      | with_reducible refine ev_ci (m_X11_puts hok (by first | exact MR_re (by with_reducible assumption) | exact MR_re mw_R) ?_ ?_) ?_
      | omega
      | with_reducible assumption
      | with_reducible rfl
      | with_reducible refine lp_nx ?_ ?_ ?_ ?_
      | with_reducible refine lp_st ?_ ?_ ?_
      | with_reducible refine ls_c ?_ ?_
      | with_reducible refine vi_c ?_
      | with_reducible refine re_c ?_
      | with_reducible refine vz_c ?_
      | with_reducible refine rz_c ?_
      | exact trivial
      | with_reducible refine And.intro ?_ ?_
      | simp (disch := first | omega | assumption) only [ev_run_c, ev_run_n, ev_fj, ev_stp, ev_lk, ev_fv, ev_as, ev_sz, ev_st1, ev_st2, ev_rm, ev_pk, ev_Jof, ev_go, lv_args, List.map_cons, List.map_nil, List.zip_cons_cons, List.zip_nil_left, List.zip_nil_right, List.nil_append, List.cons_append, ↓reduceIte, reduceCtorEq, Int.reduceToNat, Nat.reduceEqDiff, Nat.reduceAdd, Nat.reduceLT, Nat.reduceLeDiff, Nat.reduceMul, Nat.reduceSub, Value.category, false_implies, true_and, and_true, Bool.false_eq_true, Option.some.injEq, exists_eq_left', Option.toList_some, Option.toList_none, ev_km, ev_k2, ev_k3, ev_k4, ev_k5, ev_l0, ev_l1, sh_1, sh_2, sh_3, sh_4, sh_5, at_X11_readsCopy_35, at_X11_readsCopy_39, at_X11_readsCopy_40, at_X11_readsCopy_45, at_X11_readsCopy_82, ca_X11_118, ca_X11_121, ca_X11_133, ca_X11_137, ca_X11_140, ca_X11_149, ca_X11_162, cd_X11_readsCopy_0, cd_X11_readsCopy_35, cd_X11_readsCopy_39, cd_X11_readsCopy_40, cd_X11_readsCopy_45, cd_X11_readsCopy_82, fl_X11_62, ev_b_10, ev_b_13, no_0, no_1, no_lt, no_le, no_eq, no_lt0, no_ge0, no_gt0, no_le0, no_eq0, no_0eq, no_eqm, no_meq, no_m0, no_mlt, no_mge, no_mgt, no_mm, no_i01, no_i10, no_in, no_or, no_ifm, no_mul, nI_add, no_sub, pk_div, iI_if, nI_clamp, oI_n, oI_s, not_true_eq_false, not_false_eq_true, forall_const, true_implies, false_and, and_false, or_false, false_or, Classical.not_not, true_or, or_true, no_b, no_eq1, eq_self, and_self, sk_301, sk_302, sl_302, sp_301, n0, w0, re_10, re_n, f1, y, nx_n z1, nW_n z1, rP_n z1]
      | exact rfl
      | (split <;> omega))
  · have z1 : e1.1 = 0 := Classical.byContradiction z1
    have g1 := z1
    rw [← f1] at g1
    have d1 := er_0 g1 (by decide)
    have s1 := rP_0 d1.1
    have p1 := pz_0 d1.1
    have n1 : nx e1 (a + 1) = a + 1 + 1 := nx_0 z1
    have hv2 := NV_nx (B := B) (n := n) (e := e1) (a := a + 1) hv1
    rw [n1] at hv2
    generalize w1 : nW B n e1 (a + 1) v1 = v2 at hv2
    obtain ⟨e2, f2⟩ : ∃ e, rP B n N e1 (a + 1 + 1) = e := ⟨_, rfl⟩
    have c2 : e2.1 < 5 := by rw [← f2]; exact rP_c c1
    rw [f2]
    by_cases z2 : ¬ e2.1 = 0
    · have y : (e2.1 = 0) = False := eq_false z2
      rw [er_n z2]
      refine ⟨a + 1 + 1, v2, μ, ?_, Fw_rf, hv2, fun q => absurd q z2⟩
      refine ev_tri hok (okM_X11_readsCopy 0) (Nat.le_of_ble_eq_true rfl) 400 ?_
      rw [at_X11_readsCopy_0]
      repeat' (first
        | (with_reducible refine ev_rid ?_; simp (disch := first | omega | assumption) only [ev_run_c, ev_run_n, ev_fj, ev_stp, ev_lk, ev_fv, ev_as, ev_sz, ev_st1, ev_st2, ev_rm, ev_pk, ev_Jof, ev_go, lv_args, List.map_cons, List.map_nil, List.zip_cons_cons, List.zip_nil_left, List.zip_nil_right, List.nil_append, List.cons_append, ↓reduceIte, reduceCtorEq, Int.reduceToNat, Nat.reduceEqDiff, Nat.reduceAdd, Nat.reduceLT, Nat.reduceLeDiff, Nat.reduceMul, Nat.reduceSub, Value.category, false_implies, true_and, and_true, Bool.false_eq_true, Option.some.injEq, exists_eq_left', Option.toList_some, Option.toList_none, ev_km, ev_k2, ev_k3, ev_k4, ev_k5, ev_l0, ev_l1, sh_1, sh_2, sh_3, sh_4, sh_5, at_X11_readsCopy_35, at_X11_readsCopy_39, at_X11_readsCopy_40, at_X11_readsCopy_45, at_X11_readsCopy_82, ca_X11_118, ca_X11_121, ca_X11_133, ca_X11_137, ca_X11_140, ca_X11_149, ca_X11_162, cd_X11_readsCopy_0, cd_X11_readsCopy_35, cd_X11_readsCopy_39, cd_X11_readsCopy_40, cd_X11_readsCopy_45, cd_X11_readsCopy_82, fl_X11_62, ev_b_10, ev_b_13, no_0, no_1, no_lt, no_le, no_eq, no_lt0, no_ge0, no_gt0, no_le0, no_eq0, no_0eq, no_eqm, no_meq, no_m0, no_mlt, no_mge, no_mgt, no_mm, no_i01, no_i10, no_in, no_or, no_ifm, no_mul, nI_add, no_sub, pk_div, iI_if, nI_clamp, oI_n, oI_s, not_true_eq_false, not_false_eq_true, forall_const, true_implies, false_and, and_false, or_false, false_or, Classical.not_not, true_or, or_true, no_b, no_eq1, eq_self, and_self, sk_301, sk_302, sl_302, sp_301, n0, w0, re_10, re_n, f1, z1, p1, n1, w1, f2, y, nx_n z2, nW_n z2])
        | (with_reducible refine ev_gid ?_; simp (disch := first | omega | assumption) only [ev_run_c, ev_run_n, ev_fj, ev_stp, ev_lk, ev_fv, ev_as, ev_sz, ev_st1, ev_st2, ev_rm, ev_pk, ev_Jof, ev_go, lv_args, List.map_cons, List.map_nil, List.zip_cons_cons, List.zip_nil_left, List.zip_nil_right, List.nil_append, List.cons_append, ↓reduceIte, reduceCtorEq, Int.reduceToNat, Nat.reduceEqDiff, Nat.reduceAdd, Nat.reduceLT, Nat.reduceLeDiff, Nat.reduceMul, Nat.reduceSub, Value.category, false_implies, true_and, and_true, Bool.false_eq_true, Option.some.injEq, exists_eq_left', Option.toList_some, Option.toList_none, ev_km, ev_k2, ev_k3, ev_k4, ev_k5, ev_l0, ev_l1, sh_1, sh_2, sh_3, sh_4, sh_5, at_X11_readsCopy_35, at_X11_readsCopy_39, at_X11_readsCopy_40, at_X11_readsCopy_45, at_X11_readsCopy_82, ca_X11_118, ca_X11_121, ca_X11_133, ca_X11_137, ca_X11_140, ca_X11_149, ca_X11_162, cd_X11_readsCopy_0, cd_X11_readsCopy_35, cd_X11_readsCopy_39, cd_X11_readsCopy_40, cd_X11_readsCopy_45, cd_X11_readsCopy_82, fl_X11_62, ev_b_10, ev_b_13, no_0, no_1, no_lt, no_le, no_eq, no_lt0, no_ge0, no_gt0, no_le0, no_eq0, no_0eq, no_eqm, no_meq, no_m0, no_mlt, no_mge, no_mgt, no_mm, no_i01, no_i10, no_in, no_or, no_ifm, no_mul, nI_add, no_sub, pk_div, iI_if, nI_clamp, oI_n, oI_s, not_true_eq_false, not_false_eq_true, forall_const, true_implies, false_and, and_false, or_false, false_or, Classical.not_not, true_or, or_true, no_b, no_eq1, eq_self, and_self, sk_301, sk_302, sl_302, sp_301, n0, w0, re_10, re_n, f1, z1, p1, n1, w1, f2, y, nx_n z2, nW_n z2])
        | (with_reducible refine And.intro (fun q => ?_) (fun q => ?_) <;> (try simp (disch := first | omega | assumption) only [no_0, no_1, no_lt, no_le, no_eq, no_lt0, no_ge0, no_gt0, no_le0, no_eq0, no_0eq, no_eqm, no_meq, no_m0, no_mlt, no_mge, no_mgt, no_mm, no_i01, no_i10, no_in, no_or, no_ifm, no_mul, nI_add, no_sub, pk_div, iI_if, nI_clamp, oI_n, oI_s, not_true_eq_false, not_false_eq_true, forall_const, true_implies, false_and, and_false, or_false, false_or, Classical.not_not, true_or, or_true, no_b, no_eq1, eq_self, and_self, sk_301, sk_302, sl_302, sp_301, n0, w0, re_10, re_n, f1, z1, p1, n1, w1, f2, y, nx_n z2, nW_n z2] at q))
        | with_reducible refine ev_ci (m_go hok (by first | with_reducible assumption | exact RB_mw (by with_reducible assumption)) ?_) ?_
        | with_reducible refine ev_ci (m_readTaster hok (by with_reducible assumption) (by with_reducible assumption) (by with_reducible assumption) ?_) ?_
        | with_reducible refine ev_ci (m_personHere hok (by with_reducible assumption) (by with_reducible assumption) (by with_reducible assumption) ?_) ?_
        | with_reducible refine ev_ci (m_X11_isTasting hok (by first | exact MR_re (by with_reducible assumption) | exact MR_re mw_R) ?_ ?_) ?_
        | with_reducible refine ev_ci (m_refuses1 hok ?_) ?_
        | with_reducible refine ev_ci (m_refuses0 hok ?_) ?_
        | with_reducible refine ev_ci (m_X11_of hok (by first | exact MR_re (by with_reducible assumption) | exact MR_re mw_R) ?_ ?_) ?_
        | with_reducible refine ev_ci (m_X11_puts hok (by first | exact MR_re (by with_reducible assumption) | exact MR_re mw_R) ?_ ?_) ?_
        | omega
        | with_reducible assumption
        | with_reducible rfl
        | with_reducible refine lp_nx ?_ ?_ ?_ ?_
        | with_reducible refine lp_st ?_ ?_ ?_
        | with_reducible refine ls_c ?_ ?_
        | with_reducible refine vi_c ?_
        | with_reducible refine re_c ?_
        | with_reducible refine vz_c ?_
        | with_reducible refine rz_c ?_
        | exact trivial
        | with_reducible refine And.intro ?_ ?_
        | simp (disch := first | omega | assumption) only [ev_run_c, ev_run_n, ev_fj, ev_stp, ev_lk, ev_fv, ev_as, ev_sz, ev_st1, ev_st2, ev_rm, ev_pk, ev_Jof, ev_go, lv_args, List.map_cons, List.map_nil, List.zip_cons_cons, List.zip_nil_left, List.zip_nil_right, List.nil_append, List.cons_append, ↓reduceIte, reduceCtorEq, Int.reduceToNat, Nat.reduceEqDiff, Nat.reduceAdd, Nat.reduceLT, Nat.reduceLeDiff, Nat.reduceMul, Nat.reduceSub, Value.category, false_implies, true_and, and_true, Bool.false_eq_true, Option.some.injEq, exists_eq_left', Option.toList_some, Option.toList_none, ev_km, ev_k2, ev_k3, ev_k4, ev_k5, ev_l0, ev_l1, sh_1, sh_2, sh_3, sh_4, sh_5, at_X11_readsCopy_35, at_X11_readsCopy_39, at_X11_readsCopy_40, at_X11_readsCopy_45, at_X11_readsCopy_82, ca_X11_118, ca_X11_121, ca_X11_133, ca_X11_137, ca_X11_140, ca_X11_149, ca_X11_162, cd_X11_readsCopy_0, cd_X11_readsCopy_35, cd_X11_readsCopy_39, cd_X11_readsCopy_40, cd_X11_readsCopy_45, cd_X11_readsCopy_82, fl_X11_62, ev_b_10, ev_b_13, no_0, no_1, no_lt, no_le, no_eq, no_lt0, no_ge0, no_gt0, no_le0, no_eq0, no_0eq, no_eqm, no_meq, no_m0, no_mlt, no_mge, no_mgt, no_mm, no_i01, no_i10, no_in, no_or, no_ifm, no_mul, nI_add, no_sub, pk_div, iI_if, nI_clamp, oI_n, oI_s, not_true_eq_false, not_false_eq_true, forall_const, true_implies, false_and, and_false, or_false, false_or, Classical.not_not, true_or, or_true, no_b, no_eq1, eq_self, and_self, sk_301, sk_302, sl_302, sp_301, n0, w0, re_10, re_n, f1, z1, p1, n1, w1, f2, y, nx_n z2, nW_n z2]
        | exact rfl
        | (split <;> omega))
    · have z2 : e2.1 = 0 := Classical.byContradiction z2
      have g2 := z2
      rw [← f2] at g2
      have s2 := rP_0 g2
      have p2 := pz_0 g2
      generalize hi9 : pv B n N (a + 1) = i at s1 p1 ⊢
      generalize hj9 : pv B n N (a + 1 + 1) = j at s2 p2 ⊢
      have bi : i < 16 := by omega
      have bj : j < 16 := by omega
      have hl := (iv_p hI j bj).1
      have ht := m_X11_isTasting (μ := re B n e2 (a + 1 + 1) v2 μ) hok (MR_re hN) (i := j) bj (by omega)
      by_cases hc : N (8 + 59 * j + 1) = 0 ∨ i = j
      · rw [er_True hc]
        obtain ⟨e9, f9⟩ : ∃ e, er e2 True 3 (a + 1 + 1) B n = e := ⟨_, rfl⟩
        have c9 : e9.1 < 5 := by rw [← f9]; exact er_c c2 (by decide)
        have z9 : ¬ e9.1 = 0 := by rw [← f9, er_T z2]; exact Nat.succ_ne_zero _
        have y : (e9.1 = 0) = False := eq_false z9
        rw [f9]
        refine ⟨a + 1 + 1, v2, μ, ?_, Fw_rf, hv2, fun q => absurd q z9⟩
        refine ev_tri hok (okM_X11_readsCopy 0) (Nat.le_of_ble_eq_true rfl) 400 ?_
        rw [at_X11_readsCopy_0]
        repeat' (first
          | (with_reducible refine ev_rid ?_; simp (disch := first | omega | assumption) only [ev_run_c, ev_run_n, ev_fj, ev_stp, ev_lk, ev_fv, ev_as, ev_sz, ev_st1, ev_st2, ev_rm, ev_pk, ev_Jof, ev_go, lv_args, List.map_cons, List.map_nil, List.zip_cons_cons, List.zip_nil_left, List.zip_nil_right, List.nil_append, List.cons_append, ↓reduceIte, reduceCtorEq, Int.reduceToNat, Nat.reduceEqDiff, Nat.reduceAdd, Nat.reduceLT, Nat.reduceLeDiff, Nat.reduceMul, Nat.reduceSub, Value.category, false_implies, true_and, and_true, Bool.false_eq_true, Option.some.injEq, exists_eq_left', Option.toList_some, Option.toList_none, ev_km, ev_k2, ev_k3, ev_k4, ev_k5, ev_l0, ev_l1, sh_1, sh_2, sh_3, sh_4, sh_5, at_X11_readsCopy_35, at_X11_readsCopy_39, at_X11_readsCopy_40, at_X11_readsCopy_45, at_X11_readsCopy_82, ca_X11_118, ca_X11_121, ca_X11_133, ca_X11_137, ca_X11_140, ca_X11_149, ca_X11_162, cd_X11_readsCopy_0, cd_X11_readsCopy_35, cd_X11_readsCopy_39, cd_X11_readsCopy_40, cd_X11_readsCopy_45, cd_X11_readsCopy_82, fl_X11_62, ev_b_10, ev_b_13, no_0, no_1, no_lt, no_le, no_eq, no_lt0, no_ge0, no_gt0, no_le0, no_eq0, no_0eq, no_eqm, no_meq, no_m0, no_mlt, no_mge, no_mgt, no_mm, no_i01, no_i10, no_in, no_or, no_ifm, no_mul, nI_add, no_sub, pk_div, iI_if, nI_clamp, oI_n, oI_s, not_true_eq_false, not_false_eq_true, forall_const, true_implies, false_and, and_false, or_false, false_or, Classical.not_not, true_or, or_true, no_b, no_eq1, eq_self, and_self, sk_301, sk_302, sl_302, sp_301, n0, w0, re_10, re_n, f1, z1, p1, n1, w1, f2, z2, p2, f9, y, nx_n z9, nW_n z9])
          | (with_reducible refine ev_gid ?_; simp (disch := first | omega | assumption) only [ev_run_c, ev_run_n, ev_fj, ev_stp, ev_lk, ev_fv, ev_as, ev_sz, ev_st1, ev_st2, ev_rm, ev_pk, ev_Jof, ev_go, lv_args, List.map_cons, List.map_nil, List.zip_cons_cons, List.zip_nil_left, List.zip_nil_right, List.nil_append, List.cons_append, ↓reduceIte, reduceCtorEq, Int.reduceToNat, Nat.reduceEqDiff, Nat.reduceAdd, Nat.reduceLT, Nat.reduceLeDiff, Nat.reduceMul, Nat.reduceSub, Value.category, false_implies, true_and, and_true, Bool.false_eq_true, Option.some.injEq, exists_eq_left', Option.toList_some, Option.toList_none, ev_km, ev_k2, ev_k3, ev_k4, ev_k5, ev_l0, ev_l1, sh_1, sh_2, sh_3, sh_4, sh_5, at_X11_readsCopy_35, at_X11_readsCopy_39, at_X11_readsCopy_40, at_X11_readsCopy_45, at_X11_readsCopy_82, ca_X11_118, ca_X11_121, ca_X11_133, ca_X11_137, ca_X11_140, ca_X11_149, ca_X11_162, cd_X11_readsCopy_0, cd_X11_readsCopy_35, cd_X11_readsCopy_39, cd_X11_readsCopy_40, cd_X11_readsCopy_45, cd_X11_readsCopy_82, fl_X11_62, ev_b_10, ev_b_13, no_0, no_1, no_lt, no_le, no_eq, no_lt0, no_ge0, no_gt0, no_le0, no_eq0, no_0eq, no_eqm, no_meq, no_m0, no_mlt, no_mge, no_mgt, no_mm, no_i01, no_i10, no_in, no_or, no_ifm, no_mul, nI_add, no_sub, pk_div, iI_if, nI_clamp, oI_n, oI_s, not_true_eq_false, not_false_eq_true, forall_const, true_implies, false_and, and_false, or_false, false_or, Classical.not_not, true_or, or_true, no_b, no_eq1, eq_self, and_self, sk_301, sk_302, sl_302, sp_301, n0, w0, re_10, re_n, f1, z1, p1, n1, w1, f2, z2, p2, f9, y, nx_n z9, nW_n z9])
          | (with_reducible refine And.intro (fun q => ?_) (fun q => ?_) <;> (try simp (disch := first | omega | assumption) only [no_0, no_1, no_lt, no_le, no_eq, no_lt0, no_ge0, no_gt0, no_le0, no_eq0, no_0eq, no_eqm, no_meq, no_m0, no_mlt, no_mge, no_mgt, no_mm, no_i01, no_i10, no_in, no_or, no_ifm, no_mul, nI_add, no_sub, pk_div, iI_if, nI_clamp, oI_n, oI_s, not_true_eq_false, not_false_eq_true, forall_const, true_implies, false_and, and_false, or_false, false_or, Classical.not_not, true_or, or_true, no_b, no_eq1, eq_self, and_self, sk_301, sk_302, sl_302, sp_301, n0, w0, re_10, re_n, f1, z1, p1, n1, w1, f2, z2, p2, f9, y, nx_n z9, nW_n z9] at q))
          | (with_reducible refine ev_ci ht ?_)
          | with_reducible refine ev_ci (m_go hok (by first | with_reducible assumption | exact RB_mw (by with_reducible assumption)) ?_) ?_
          | with_reducible refine ev_ci (m_readTaster hok (by with_reducible assumption) (by with_reducible assumption) (by with_reducible assumption) ?_) ?_
          | with_reducible refine ev_ci (m_personHere hok (by with_reducible assumption) (by with_reducible assumption) (by with_reducible assumption) ?_) ?_
          | with_reducible refine ev_ci (m_X11_isTasting hok (by first | exact MR_re (by with_reducible assumption) | exact MR_re mw_R) ?_ ?_) ?_
          | with_reducible refine ev_ci (m_refuses1 hok ?_) ?_
          | with_reducible refine ev_ci (m_refuses0 hok ?_) ?_
          | with_reducible refine ev_ci (m_X11_of hok (by first | exact MR_re (by with_reducible assumption) | exact MR_re mw_R) ?_ ?_) ?_
          | with_reducible refine ev_ci (m_X11_puts hok (by first | exact MR_re (by with_reducible assumption) | exact MR_re mw_R) ?_ ?_) ?_
          | omega
          | with_reducible assumption
          | with_reducible rfl
          | with_reducible refine lp_nx ?_ ?_ ?_ ?_
          | with_reducible refine lp_st ?_ ?_ ?_
          | with_reducible refine ls_c ?_ ?_
          | with_reducible refine vi_c ?_
          | with_reducible refine re_c ?_
          | with_reducible refine vz_c ?_
          | with_reducible refine rz_c ?_
          | exact trivial
          | with_reducible refine And.intro ?_ ?_
          | simp (disch := first | omega | assumption) only [ev_run_c, ev_run_n, ev_fj, ev_stp, ev_lk, ev_fv, ev_as, ev_sz, ev_st1, ev_st2, ev_rm, ev_pk, ev_Jof, ev_go, lv_args, List.map_cons, List.map_nil, List.zip_cons_cons, List.zip_nil_left, List.zip_nil_right, List.nil_append, List.cons_append, ↓reduceIte, reduceCtorEq, Int.reduceToNat, Nat.reduceEqDiff, Nat.reduceAdd, Nat.reduceLT, Nat.reduceLeDiff, Nat.reduceMul, Nat.reduceSub, Value.category, false_implies, true_and, and_true, Bool.false_eq_true, Option.some.injEq, exists_eq_left', Option.toList_some, Option.toList_none, ev_km, ev_k2, ev_k3, ev_k4, ev_k5, ev_l0, ev_l1, sh_1, sh_2, sh_3, sh_4, sh_5, at_X11_readsCopy_35, at_X11_readsCopy_39, at_X11_readsCopy_40, at_X11_readsCopy_45, at_X11_readsCopy_82, ca_X11_118, ca_X11_121, ca_X11_133, ca_X11_137, ca_X11_140, ca_X11_149, ca_X11_162, cd_X11_readsCopy_0, cd_X11_readsCopy_35, cd_X11_readsCopy_39, cd_X11_readsCopy_40, cd_X11_readsCopy_45, cd_X11_readsCopy_82, fl_X11_62, ev_b_10, ev_b_13, no_0, no_1, no_lt, no_le, no_eq, no_lt0, no_ge0, no_gt0, no_le0, no_eq0, no_0eq, no_eqm, no_meq, no_m0, no_mlt, no_mge, no_mgt, no_mm, no_i01, no_i10, no_in, no_or, no_ifm, no_mul, nI_add, no_sub, pk_div, iI_if, nI_clamp, oI_n, oI_s, not_true_eq_false, not_false_eq_true, forall_const, true_implies, false_and, and_false, or_false, false_or, Classical.not_not, true_or, or_true, no_b, no_eq1, eq_self, and_self, sk_301, sk_302, sl_302, sp_301, n0, w0, re_10, re_n, f1, z1, p1, n1, w1, f2, z2, p2, f9, y, nx_n z9, nW_n z9]
          | exact rfl
          | (split <;> omega))
      · rw [er_f hc]
        have h1 : ¬ N (8 + 59 * j + 1) = 0 := fun q => hc (Or.inl q)
        have h2 : ¬ i = j := fun q => hc (Or.inr q)
        rw [if_neg h1] at ht
        have nn : nx e2 (a + 1 + 1) = a + 1 + 1 + 1 := nx_0 z2
        have hv9 := NV_nx (B := B) (n := n) (e := e2) (a := a + 1 + 1) hv2
        rw [nn] at hv9
        generalize w9 : nW B n e2 (a + 1 + 1) v2 = v9 at hv9
        have hr9 : nI9 B n N a 17 = cyN N i j 10 := by rw [cyN_z hI bi bj (by omega) (by omega), ← hi9, ← hj9]; rfl
        rw [hr9]
        refine ⟨a + 1 + 1 + 1, v9, mw μ (cyN N i j 10), ?_, Fw_mw, hv9, fun _ => ⟨rfl, mw_R⟩⟩
        refine ev_tri1 hok (okM_X11_readsCopy 0) (Nat.le_of_ble_eq_true rfl) 45 [0, 1, 2, 3] 10 400 (fun k => [.ref 301, .int (nI i), .int (nI j), .int (nI k)]) (fun k => re B n e2 (a + 1 + 1) v2 (mw μ (cyN N i j k))) (fun _ => True) ?_ ?_
        · intro k hk _
          rw [at_X11_readsCopy_45]
          rcases Nat.lt_or_ge k 10 with hkn | hkn
          · have r2 : cyN N i j k (8 + 59 * i + (13 + k)) = N (8 + 59 * i + (13 + k)) := cyN_ne (by omega)
            have hof := m_X11_of (μ := re B n e2 (a + 1 + 1) v2 (mw μ (cyN N i j k))) hok (MR_re (N := cyN N i j k) mw_R) (i := i) (w := 13 + k) bi (by omega)
            rw [r2] at hof
            have hpt := m_X11_puts (μ := re B n e2 (a + 1 + 1) v2 (mw μ (cyN N i j k))) (v := N (8 + 59 * i + (13 + k))) hok (MR_re (N := cyN N i j k) mw_R) (i := j) (w := 13 + k) bj (by omega)
            have e9 : up (cyN N i j k) (8 + 59 * j + (13 + k)) (N (8 + 59 * i + (13 + k))) = cyN N i j (k + 1) := rfl
            rw [e9] at hpt
            repeat' (first
              | (with_reducible refine ev_rid ?_; simp (disch := first | omega | assumption) only [ev_run_c, ev_run_n, ev_fj, ev_stp, ev_lk, ev_fv, ev_as, ev_sz, ev_st1, ev_st2, ev_rm, ev_pk, ev_Jof, ev_go, lv_args, List.map_cons, List.map_nil, List.zip_cons_cons, List.zip_nil_left, List.zip_nil_right, List.nil_append, List.cons_append, ↓reduceIte, reduceCtorEq, Int.reduceToNat, Nat.reduceEqDiff, Nat.reduceAdd, Nat.reduceLT, Nat.reduceLeDiff, Nat.reduceMul, Nat.reduceSub, Value.category, false_implies, true_and, and_true, Bool.false_eq_true, Option.some.injEq, exists_eq_left', Option.toList_some, Option.toList_none, ev_km, ev_k2, ev_k3, ev_k4, ev_k5, ev_l0, ev_l1, sh_1, sh_2, sh_3, sh_4, sh_5, at_X11_readsCopy_35, at_X11_readsCopy_39, at_X11_readsCopy_40, at_X11_readsCopy_45, at_X11_readsCopy_82, ca_X11_118, ca_X11_121, ca_X11_133, ca_X11_137, ca_X11_140, ca_X11_149, ca_X11_162, cd_X11_readsCopy_0, cd_X11_readsCopy_35, cd_X11_readsCopy_39, cd_X11_readsCopy_40, cd_X11_readsCopy_45, cd_X11_readsCopy_82, fl_X11_62, ev_b_10, ev_b_13, no_0, no_1, no_lt, no_le, no_eq, no_lt0, no_ge0, no_gt0, no_le0, no_eq0, no_0eq, no_eqm, no_meq, no_m0, no_mlt, no_mge, no_mgt, no_mm, no_i01, no_i10, no_in, no_or, no_ifm, no_mul, nI_add, no_sub, pk_div, iI_if, nI_clamp, oI_n, oI_s, not_true_eq_false, not_false_eq_true, forall_const, true_implies, false_and, and_false, or_false, false_or, Classical.not_not, true_or, or_true, no_b, no_eq1, eq_self, and_self, sk_301, sk_302, sl_302, sp_301, re_10, re_n, z2, mw_re, mw_mw])
              | (with_reducible refine ev_gid ?_; simp (disch := first | omega | assumption) only [ev_run_c, ev_run_n, ev_fj, ev_stp, ev_lk, ev_fv, ev_as, ev_sz, ev_st1, ev_st2, ev_rm, ev_pk, ev_Jof, ev_go, lv_args, List.map_cons, List.map_nil, List.zip_cons_cons, List.zip_nil_left, List.zip_nil_right, List.nil_append, List.cons_append, ↓reduceIte, reduceCtorEq, Int.reduceToNat, Nat.reduceEqDiff, Nat.reduceAdd, Nat.reduceLT, Nat.reduceLeDiff, Nat.reduceMul, Nat.reduceSub, Value.category, false_implies, true_and, and_true, Bool.false_eq_true, Option.some.injEq, exists_eq_left', Option.toList_some, Option.toList_none, ev_km, ev_k2, ev_k3, ev_k4, ev_k5, ev_l0, ev_l1, sh_1, sh_2, sh_3, sh_4, sh_5, at_X11_readsCopy_35, at_X11_readsCopy_39, at_X11_readsCopy_40, at_X11_readsCopy_45, at_X11_readsCopy_82, ca_X11_118, ca_X11_121, ca_X11_133, ca_X11_137, ca_X11_140, ca_X11_149, ca_X11_162, cd_X11_readsCopy_0, cd_X11_readsCopy_35, cd_X11_readsCopy_39, cd_X11_readsCopy_40, cd_X11_readsCopy_45, cd_X11_readsCopy_82, fl_X11_62, ev_b_10, ev_b_13, no_0, no_1, no_lt, no_le, no_eq, no_lt0, no_ge0, no_gt0, no_le0, no_eq0, no_0eq, no_eqm, no_meq, no_m0, no_mlt, no_mge, no_mgt, no_mm, no_i01, no_i10, no_in, no_or, no_ifm, no_mul, nI_add, no_sub, pk_div, iI_if, nI_clamp, oI_n, oI_s, not_true_eq_false, not_false_eq_true, forall_const, true_implies, false_and, and_false, or_false, false_or, Classical.not_not, true_or, or_true, no_b, no_eq1, eq_self, and_self, sk_301, sk_302, sl_302, sp_301, re_10, re_n, z2, mw_re, mw_mw])
              | (with_reducible refine And.intro (fun q => ?_) (fun q => ?_) <;> (try simp (disch := first | omega | assumption) only [no_0, no_1, no_lt, no_le, no_eq, no_lt0, no_ge0, no_gt0, no_le0, no_eq0, no_0eq, no_eqm, no_meq, no_m0, no_mlt, no_mge, no_mgt, no_mm, no_i01, no_i10, no_in, no_or, no_ifm, no_mul, nI_add, no_sub, pk_div, iI_if, nI_clamp, oI_n, oI_s, not_true_eq_false, not_false_eq_true, forall_const, true_implies, false_and, and_false, or_false, false_or, Classical.not_not, true_or, or_true, no_b, no_eq1, eq_self, and_self, sk_301, sk_302, sl_302, sp_301, re_10, re_n, z2, mw_re, mw_mw] at q))
              | (with_reducible refine ev_ci hof ?_)
              | (with_reducible refine ev_ci hpt ?_)
              | with_reducible refine ev_ci (m_go hok (by first | with_reducible assumption | exact RB_mw (by with_reducible assumption)) ?_) ?_
              | with_reducible refine ev_ci (m_readTaster hok (by with_reducible assumption) (by with_reducible assumption) (by with_reducible assumption) ?_) ?_
              | with_reducible refine ev_ci (m_personHere hok (by with_reducible assumption) (by with_reducible assumption) (by with_reducible assumption) ?_) ?_
              | with_reducible refine ev_ci (m_X11_isTasting hok (by first | exact MR_re (by with_reducible assumption) | exact MR_re mw_R) ?_ ?_) ?_
              | with_reducible refine ev_ci (m_refuses1 hok ?_) ?_
              | with_reducible refine ev_ci (m_refuses0 hok ?_) ?_
              | with_reducible refine ev_ci (m_X11_of hok (by first | exact MR_re (by with_reducible assumption) | exact MR_re mw_R) ?_ ?_) ?_
              | with_reducible refine ev_ci (m_X11_puts hok (by first | exact MR_re (by with_reducible assumption) | exact MR_re mw_R) ?_ ?_) ?_
              | omega
              | with_reducible assumption
              | with_reducible rfl
              | with_reducible refine lp_nx ?_ ?_ ?_ ?_
              | with_reducible refine lp_st ?_ ?_ ?_
              | with_reducible refine ls_c ?_ ?_
              | with_reducible refine vi_c ?_
              | with_reducible refine re_c ?_
              | with_reducible refine vz_c ?_
              | with_reducible refine rz_c ?_
              | exact trivial
              | with_reducible refine And.intro ?_ ?_
              | simp (disch := first | omega | assumption) only [ev_run_c, ev_run_n, ev_fj, ev_stp, ev_lk, ev_fv, ev_as, ev_sz, ev_st1, ev_st2, ev_rm, ev_pk, ev_Jof, ev_go, lv_args, List.map_cons, List.map_nil, List.zip_cons_cons, List.zip_nil_left, List.zip_nil_right, List.nil_append, List.cons_append, ↓reduceIte, reduceCtorEq, Int.reduceToNat, Nat.reduceEqDiff, Nat.reduceAdd, Nat.reduceLT, Nat.reduceLeDiff, Nat.reduceMul, Nat.reduceSub, Value.category, false_implies, true_and, and_true, Bool.false_eq_true, Option.some.injEq, exists_eq_left', Option.toList_some, Option.toList_none, ev_km, ev_k2, ev_k3, ev_k4, ev_k5, ev_l0, ev_l1, sh_1, sh_2, sh_3, sh_4, sh_5, at_X11_readsCopy_35, at_X11_readsCopy_39, at_X11_readsCopy_40, at_X11_readsCopy_45, at_X11_readsCopy_82, ca_X11_118, ca_X11_121, ca_X11_133, ca_X11_137, ca_X11_140, ca_X11_149, ca_X11_162, cd_X11_readsCopy_0, cd_X11_readsCopy_35, cd_X11_readsCopy_39, cd_X11_readsCopy_40, cd_X11_readsCopy_45, cd_X11_readsCopy_82, fl_X11_62, ev_b_10, ev_b_13, no_0, no_1, no_lt, no_le, no_eq, no_lt0, no_ge0, no_gt0, no_le0, no_eq0, no_0eq, no_eqm, no_meq, no_m0, no_mlt, no_mge, no_mgt, no_mm, no_i01, no_i10, no_in, no_or, no_ifm, no_mul, nI_add, no_sub, pk_div, iI_if, nI_clamp, oI_n, oI_s, not_true_eq_false, not_false_eq_true, forall_const, true_implies, false_and, and_false, or_false, false_or, Classical.not_not, true_or, or_true, no_b, no_eq1, eq_self, and_self, sk_301, sk_302, sl_302, sp_301, re_10, re_n, z2, mw_re, mw_mw]
              | exact rfl
              | (split <;> omega))
          · have hkn : k = 10 := by omega
            subst hkn
            have hR2 : RB B n (mw μ (cyN N i j 10)) := RB_mw hR
            repeat' (first
              | (with_reducible refine ev_rid ?_; simp (disch := first | omega | assumption) only [ev_run_c, ev_run_n, ev_fj, ev_stp, ev_lk, ev_fv, ev_as, ev_sz, ev_st1, ev_st2, ev_rm, ev_pk, ev_Jof, ev_go, lv_args, List.map_cons, List.map_nil, List.zip_cons_cons, List.zip_nil_left, List.zip_nil_right, List.nil_append, List.cons_append, ↓reduceIte, reduceCtorEq, Int.reduceToNat, Nat.reduceEqDiff, Nat.reduceAdd, Nat.reduceLT, Nat.reduceLeDiff, Nat.reduceMul, Nat.reduceSub, Value.category, false_implies, true_and, and_true, Bool.false_eq_true, Option.some.injEq, exists_eq_left', Option.toList_some, Option.toList_none, ev_km, ev_k2, ev_k3, ev_k4, ev_k5, ev_l0, ev_l1, sh_1, sh_2, sh_3, sh_4, sh_5, at_X11_readsCopy_35, at_X11_readsCopy_39, at_X11_readsCopy_40, at_X11_readsCopy_45, at_X11_readsCopy_82, ca_X11_118, ca_X11_121, ca_X11_133, ca_X11_137, ca_X11_140, ca_X11_149, ca_X11_162, cd_X11_readsCopy_0, cd_X11_readsCopy_35, cd_X11_readsCopy_39, cd_X11_readsCopy_40, cd_X11_readsCopy_45, cd_X11_readsCopy_82, fl_X11_62, ev_b_10, ev_b_13, no_0, no_1, no_lt, no_le, no_eq, no_lt0, no_ge0, no_gt0, no_le0, no_eq0, no_0eq, no_eqm, no_meq, no_m0, no_mlt, no_mge, no_mgt, no_mm, no_i01, no_i10, no_in, no_or, no_ifm, no_mul, nI_add, no_sub, pk_div, iI_if, nI_clamp, oI_n, oI_s, not_true_eq_false, not_false_eq_true, forall_const, true_implies, false_and, and_false, or_false, false_or, Classical.not_not, true_or, or_true, no_b, no_eq1, eq_self, and_self, sk_301, sk_302, sl_302, sp_301, re_10, re_n, z2, nn, w9])
              | (with_reducible refine ev_gid ?_; simp (disch := first | omega | assumption) only [ev_run_c, ev_run_n, ev_fj, ev_stp, ev_lk, ev_fv, ev_as, ev_sz, ev_st1, ev_st2, ev_rm, ev_pk, ev_Jof, ev_go, lv_args, List.map_cons, List.map_nil, List.zip_cons_cons, List.zip_nil_left, List.zip_nil_right, List.nil_append, List.cons_append, ↓reduceIte, reduceCtorEq, Int.reduceToNat, Nat.reduceEqDiff, Nat.reduceAdd, Nat.reduceLT, Nat.reduceLeDiff, Nat.reduceMul, Nat.reduceSub, Value.category, false_implies, true_and, and_true, Bool.false_eq_true, Option.some.injEq, exists_eq_left', Option.toList_some, Option.toList_none, ev_km, ev_k2, ev_k3, ev_k4, ev_k5, ev_l0, ev_l1, sh_1, sh_2, sh_3, sh_4, sh_5, at_X11_readsCopy_35, at_X11_readsCopy_39, at_X11_readsCopy_40, at_X11_readsCopy_45, at_X11_readsCopy_82, ca_X11_118, ca_X11_121, ca_X11_133, ca_X11_137, ca_X11_140, ca_X11_149, ca_X11_162, cd_X11_readsCopy_0, cd_X11_readsCopy_35, cd_X11_readsCopy_39, cd_X11_readsCopy_40, cd_X11_readsCopy_45, cd_X11_readsCopy_82, fl_X11_62, ev_b_10, ev_b_13, no_0, no_1, no_lt, no_le, no_eq, no_lt0, no_ge0, no_gt0, no_le0, no_eq0, no_0eq, no_eqm, no_meq, no_m0, no_mlt, no_mge, no_mgt, no_mm, no_i01, no_i10, no_in, no_or, no_ifm, no_mul, nI_add, no_sub, pk_div, iI_if, nI_clamp, oI_n, oI_s, not_true_eq_false, not_false_eq_true, forall_const, true_implies, false_and, and_false, or_false, false_or, Classical.not_not, true_or, or_true, no_b, no_eq1, eq_self, and_self, sk_301, sk_302, sl_302, sp_301, re_10, re_n, z2, nn, w9])
              | (with_reducible refine And.intro (fun q => ?_) (fun q => ?_) <;> (try simp (disch := first | omega | assumption) only [no_0, no_1, no_lt, no_le, no_eq, no_lt0, no_ge0, no_gt0, no_le0, no_eq0, no_0eq, no_eqm, no_meq, no_m0, no_mlt, no_mge, no_mgt, no_mm, no_i01, no_i10, no_in, no_or, no_ifm, no_mul, nI_add, no_sub, pk_div, iI_if, nI_clamp, oI_n, oI_s, not_true_eq_false, not_false_eq_true, forall_const, true_implies, false_and, and_false, or_false, false_or, Classical.not_not, true_or, or_true, no_b, no_eq1, eq_self, and_self, sk_301, sk_302, sl_302, sp_301, re_10, re_n, z2, nn, w9] at q))
              | with_reducible refine ev_ci (m_go hok (by first | with_reducible assumption | exact RB_mw (by with_reducible assumption)) ?_) ?_
              | with_reducible refine ev_ci (m_readTaster hok (by with_reducible assumption) (by with_reducible assumption) (by with_reducible assumption) ?_) ?_
              | with_reducible refine ev_ci (m_personHere hok (by with_reducible assumption) (by with_reducible assumption) (by with_reducible assumption) ?_) ?_
              | with_reducible refine ev_ci (m_X11_isTasting hok (by first | exact MR_re (by with_reducible assumption) | exact MR_re mw_R) ?_ ?_) ?_
              | with_reducible refine ev_ci (m_refuses1 hok ?_) ?_
              | with_reducible refine ev_ci (m_refuses0 hok ?_) ?_
              | with_reducible refine ev_ci (m_X11_of hok (by first | exact MR_re (by with_reducible assumption) | exact MR_re mw_R) ?_ ?_) ?_
              | with_reducible refine ev_ci (m_X11_puts hok (by first | exact MR_re (by with_reducible assumption) | exact MR_re mw_R) ?_ ?_) ?_
              | omega
              | with_reducible assumption
              | with_reducible rfl
              | with_reducible refine lp_nx ?_ ?_ ?_ ?_
              | with_reducible refine lp_st ?_ ?_ ?_
              | with_reducible refine ls_c ?_ ?_
              | with_reducible refine vi_c ?_
              | with_reducible refine re_c ?_
              | with_reducible refine vz_c ?_
              | with_reducible refine rz_c ?_
              | exact trivial
              | with_reducible refine And.intro ?_ ?_
              | simp (disch := first | omega | assumption) only [ev_run_c, ev_run_n, ev_fj, ev_stp, ev_lk, ev_fv, ev_as, ev_sz, ev_st1, ev_st2, ev_rm, ev_pk, ev_Jof, ev_go, lv_args, List.map_cons, List.map_nil, List.zip_cons_cons, List.zip_nil_left, List.zip_nil_right, List.nil_append, List.cons_append, ↓reduceIte, reduceCtorEq, Int.reduceToNat, Nat.reduceEqDiff, Nat.reduceAdd, Nat.reduceLT, Nat.reduceLeDiff, Nat.reduceMul, Nat.reduceSub, Value.category, false_implies, true_and, and_true, Bool.false_eq_true, Option.some.injEq, exists_eq_left', Option.toList_some, Option.toList_none, ev_km, ev_k2, ev_k3, ev_k4, ev_k5, ev_l0, ev_l1, sh_1, sh_2, sh_3, sh_4, sh_5, at_X11_readsCopy_35, at_X11_readsCopy_39, at_X11_readsCopy_40, at_X11_readsCopy_45, at_X11_readsCopy_82, ca_X11_118, ca_X11_121, ca_X11_133, ca_X11_137, ca_X11_140, ca_X11_149, ca_X11_162, cd_X11_readsCopy_0, cd_X11_readsCopy_35, cd_X11_readsCopy_39, cd_X11_readsCopy_40, cd_X11_readsCopy_45, cd_X11_readsCopy_82, fl_X11_62, ev_b_10, ev_b_13, no_0, no_1, no_lt, no_le, no_eq, no_lt0, no_ge0, no_gt0, no_le0, no_eq0, no_0eq, no_eqm, no_meq, no_m0, no_mlt, no_mge, no_mgt, no_mm, no_i01, no_i10, no_in, no_or, no_ifm, no_mul, nI_add, no_sub, pk_div, iI_if, nI_clamp, oI_n, oI_s, not_true_eq_false, not_false_eq_true, forall_const, true_implies, false_and, and_false, or_false, false_or, Classical.not_not, true_or, or_true, no_b, no_eq1, eq_self, and_self, sk_301, sk_302, sl_302, sp_301, re_10, re_n, z2, nn, w9]
              | exact rfl
              | (split <;> omega))
        · rw [at_X11_readsCopy_0]
          have e9 : mw μ (cyN N i j 0) = μ := mw_self hN
          repeat' (first
            | (with_reducible refine ev_rid ?_; simp (disch := first | omega | assumption) only [ev_run_c, ev_run_n, ev_fj, ev_stp, ev_lk, ev_fv, ev_as, ev_sz, ev_st1, ev_st2, ev_rm, ev_pk, ev_Jof, ev_go, lv_args, List.map_cons, List.map_nil, List.zip_cons_cons, List.zip_nil_left, List.zip_nil_right, List.nil_append, List.cons_append, ↓reduceIte, reduceCtorEq, Int.reduceToNat, Nat.reduceEqDiff, Nat.reduceAdd, Nat.reduceLT, Nat.reduceLeDiff, Nat.reduceMul, Nat.reduceSub, Value.category, false_implies, true_and, and_true, Bool.false_eq_true, Option.some.injEq, exists_eq_left', Option.toList_some, Option.toList_none, ev_km, ev_k2, ev_k3, ev_k4, ev_k5, ev_l0, ev_l1, sh_1, sh_2, sh_3, sh_4, sh_5, at_X11_readsCopy_35, at_X11_readsCopy_39, at_X11_readsCopy_40, at_X11_readsCopy_45, at_X11_readsCopy_82, ca_X11_118, ca_X11_121, ca_X11_133, ca_X11_137, ca_X11_140, ca_X11_149, ca_X11_162, cd_X11_readsCopy_0, cd_X11_readsCopy_35, cd_X11_readsCopy_39, cd_X11_readsCopy_40, cd_X11_readsCopy_45, cd_X11_readsCopy_82, fl_X11_62, ev_b_10, ev_b_13, no_0, no_1, no_lt, no_le, no_eq, no_lt0, no_ge0, no_gt0, no_le0, no_eq0, no_0eq, no_eqm, no_meq, no_m0, no_mlt, no_mge, no_mgt, no_mm, no_i01, no_i10, no_in, no_or, no_ifm, no_mul, nI_add, no_sub, pk_div, iI_if, nI_clamp, oI_n, oI_s, not_true_eq_false, not_false_eq_true, forall_const, true_implies, false_and, and_false, or_false, false_or, Classical.not_not, true_or, or_true, no_b, no_eq1, eq_self, and_self, sk_301, sk_302, sl_302, sp_301, n0, w0, re_10, re_n, f1, z1, p1, n1, w1, f2, z2, p2, e9])
            | (with_reducible refine ev_gid ?_; simp (disch := first | omega | assumption) only [ev_run_c, ev_run_n, ev_fj, ev_stp, ev_lk, ev_fv, ev_as, ev_sz, ev_st1, ev_st2, ev_rm, ev_pk, ev_Jof, ev_go, lv_args, List.map_cons, List.map_nil, List.zip_cons_cons, List.zip_nil_left, List.zip_nil_right, List.nil_append, List.cons_append, ↓reduceIte, reduceCtorEq, Int.reduceToNat, Nat.reduceEqDiff, Nat.reduceAdd, Nat.reduceLT, Nat.reduceLeDiff, Nat.reduceMul, Nat.reduceSub, Value.category, false_implies, true_and, and_true, Bool.false_eq_true, Option.some.injEq, exists_eq_left', Option.toList_some, Option.toList_none, ev_km, ev_k2, ev_k3, ev_k4, ev_k5, ev_l0, ev_l1, sh_1, sh_2, sh_3, sh_4, sh_5, at_X11_readsCopy_35, at_X11_readsCopy_39, at_X11_readsCopy_40, at_X11_readsCopy_45, at_X11_readsCopy_82, ca_X11_118, ca_X11_121, ca_X11_133, ca_X11_137, ca_X11_140, ca_X11_149, ca_X11_162, cd_X11_readsCopy_0, cd_X11_readsCopy_35, cd_X11_readsCopy_39, cd_X11_readsCopy_40, cd_X11_readsCopy_45, cd_X11_readsCopy_82, fl_X11_62, ev_b_10, ev_b_13, no_0, no_1, no_lt, no_le, no_eq, no_lt0, no_ge0, no_gt0, no_le0, no_eq0, no_0eq, no_eqm, no_meq, no_m0, no_mlt, no_mge, no_mgt, no_mm, no_i01, no_i10, no_in, no_or, no_ifm, no_mul, nI_add, no_sub, pk_div, iI_if, nI_clamp, oI_n, oI_s, not_true_eq_false, not_false_eq_true, forall_const, true_implies, false_and, and_false, or_false, false_or, Classical.not_not, true_or, or_true, no_b, no_eq1, eq_self, and_self, sk_301, sk_302, sl_302, sp_301, n0, w0, re_10, re_n, f1, z1, p1, n1, w1, f2, z2, p2, e9])
            | (with_reducible refine And.intro (fun q => ?_) (fun q => ?_) <;> (try simp (disch := first | omega | assumption) only [no_0, no_1, no_lt, no_le, no_eq, no_lt0, no_ge0, no_gt0, no_le0, no_eq0, no_0eq, no_eqm, no_meq, no_m0, no_mlt, no_mge, no_mgt, no_mm, no_i01, no_i10, no_in, no_or, no_ifm, no_mul, nI_add, no_sub, pk_div, iI_if, nI_clamp, oI_n, oI_s, not_true_eq_false, not_false_eq_true, forall_const, true_implies, false_and, and_false, or_false, false_or, Classical.not_not, true_or, or_true, no_b, no_eq1, eq_self, and_self, sk_301, sk_302, sl_302, sp_301, n0, w0, re_10, re_n, f1, z1, p1, n1, w1, f2, z2, p2, e9] at q))
            | (with_reducible refine ev_ci ht ?_)
            | with_reducible refine ev_ci (m_go hok (by first | with_reducible assumption | exact RB_mw (by with_reducible assumption)) ?_) ?_
            | with_reducible refine ev_ci (m_readTaster hok (by with_reducible assumption) (by with_reducible assumption) (by with_reducible assumption) ?_) ?_
            | with_reducible refine ev_ci (m_personHere hok (by with_reducible assumption) (by with_reducible assumption) (by with_reducible assumption) ?_) ?_
            | with_reducible refine ev_ci (m_X11_isTasting hok (by first | exact MR_re (by with_reducible assumption) | exact MR_re mw_R) ?_ ?_) ?_
            | with_reducible refine ev_ci (m_refuses1 hok ?_) ?_
            | with_reducible refine ev_ci (m_refuses0 hok ?_) ?_
            | with_reducible refine ev_ci (m_X11_of hok (by first | exact MR_re (by with_reducible assumption) | exact MR_re mw_R) ?_ ?_) ?_
            | with_reducible refine ev_ci (m_X11_puts hok (by first | exact MR_re (by with_reducible assumption) | exact MR_re mw_R) ?_ ?_) ?_
            | omega
            | with_reducible assumption
            | with_reducible rfl
            | with_reducible refine lp_nx ?_ ?_ ?_ ?_
            | with_reducible refine lp_st ?_ ?_ ?_
            | with_reducible refine ls_c ?_ ?_
            | with_reducible refine vi_c ?_
            | with_reducible refine re_c ?_
            | with_reducible refine vz_c ?_
            | with_reducible refine rz_c ?_
            | exact trivial
            | with_reducible refine And.intro ?_ ?_
            | simp (disch := first | omega | assumption) only [ev_run_c, ev_run_n, ev_fj, ev_stp, ev_lk, ev_fv, ev_as, ev_sz, ev_st1, ev_st2, ev_rm, ev_pk, ev_Jof, ev_go, lv_args, List.map_cons, List.map_nil, List.zip_cons_cons, List.zip_nil_left, List.zip_nil_right, List.nil_append, List.cons_append, ↓reduceIte, reduceCtorEq, Int.reduceToNat, Nat.reduceEqDiff, Nat.reduceAdd, Nat.reduceLT, Nat.reduceLeDiff, Nat.reduceMul, Nat.reduceSub, Value.category, false_implies, true_and, and_true, Bool.false_eq_true, Option.some.injEq, exists_eq_left', Option.toList_some, Option.toList_none, ev_km, ev_k2, ev_k3, ev_k4, ev_k5, ev_l0, ev_l1, sh_1, sh_2, sh_3, sh_4, sh_5, at_X11_readsCopy_35, at_X11_readsCopy_39, at_X11_readsCopy_40, at_X11_readsCopy_45, at_X11_readsCopy_82, ca_X11_118, ca_X11_121, ca_X11_133, ca_X11_137, ca_X11_140, ca_X11_149, ca_X11_162, cd_X11_readsCopy_0, cd_X11_readsCopy_35, cd_X11_readsCopy_39, cd_X11_readsCopy_40, cd_X11_readsCopy_45, cd_X11_readsCopy_82, fl_X11_62, ev_b_10, ev_b_13, no_0, no_1, no_lt, no_le, no_eq, no_lt0, no_ge0, no_gt0, no_le0, no_eq0, no_0eq, no_eqm, no_meq, no_m0, no_mlt, no_mge, no_mgt, no_mm, no_i01, no_i10, no_in, no_or, no_ifm, no_mul, nI_add, no_sub, pk_div, iI_if, nI_clamp, oI_n, oI_s, not_true_eq_false, not_false_eq_true, forall_const, true_implies, false_and, and_false, or_false, false_or, Classical.not_not, true_or, or_true, no_b, no_eq1, eq_self, and_self, sk_301, sk_302, sl_302, sp_301, n0, w0, re_10, re_n, f1, z1, p1, n1, w1, f2, z2, p2, e9]
            | exact rfl
            | (split <;> omega))
end RItD
