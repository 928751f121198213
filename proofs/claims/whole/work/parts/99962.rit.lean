/-! ===== the reference's parser: items (by program, wip/whole/genri.py) ===== -/
section RItA
variable {G : ev_G} {N : Nat → Nat} {B : Nat → Nat} {n : Nat} {μ μ' : ev_M}
/-- what the reference's items leave alone -/
def Fw (μ μ' : ev_M) : Prop := (∀ a k, a ≠ 302 → a ≠ 308 → μ'.1 a k = μ.1 a k) ∧ μ'.2 = μ.2
theorem Fw_rf : Fw μ μ := ⟨fun _ _ _ _ => rfl, rfl⟩
theorem Fw_mw : Fw μ (mw μ N) := ⟨fun a k h _ => by rw [mw_1 h], rfl⟩
theorem Fw_tr {μ'' : ev_M} (h : Fw μ μ') (h2 : Fw μ' μ'') : Fw μ μ'' := ⟨fun a k h3 h4 => (h2.1 a k h3 h4).trans (h.1 a k h3 h4), h2.2.trans h.2⟩
theorem RB_fw (hR : RB B n μ) (h : Fw μ μ') : RB B n μ' := ⟨hR.1, hR.2.1, (h.1 301 12 (by omega) (by omega)).trans hR.2.2.1, fun j hj => (h.1 307 j (by omega) (by omega)).trans (hR.2.2.2 j hj)⟩
/-- how an item ends: its error; without one: the new row and the next token -/
def RX (G : ev_G) (B : Nat → Nat) (n : Nat) (y : ev_Mi) (a : Nat) (v : Int32) (μ : ev_M) (e' : Nat × Int32) (N' : Nat → Nat) (a' : Nat) : Prop := ∃ af vf μ2, ev_T sh_S G y [.ref 301] (re B n (0, -1) a v μ) (.inl (none, re B n e' af vf μ2)) ∧ Fw μ μ2 ∧ NV B n af vf ∧ (e'.1 = 0 → af = a' ∧ MR N' μ2)
theorem nx_n {e : Nat × Int32} {a : Nat} (h : ¬ e.1 = 0) : nx e a = a := if_neg h
theorem nW_n {e : Nat × Int32} {a : Nat} {v : Int32} (h : ¬ e.1 = 0) : nW B n e a v = v := if_neg h
theorem rT_n {e : Nat × Int32} {a : Nat} (h : ¬ e.1 = 0) : rT B n N e a = e := by unfold rT; rw [rP_n h, er_n h]

set_option maxHeartbeats 2000000 in
theorem rx_bid (hok : ev_ok sh_S G) (hR : RB B n μ) (hN : MR N μ) (hI : INV N) {a : Nat} {v : Int32} (hv : NV B n a v) : RX G B n mi_X11_readsBid a v μ (q_bid B n N (a + 1)) (nI9 B n N a 4) (aI9 B n N a 4) := by
  have hh := iv_h hI
  have hN1 : N 1 ≤ 10 := hh.2.1
  have n0 : nx (0, -1) a = a + 1 := rfl
  have hv1 := NV_nx (B := B) (n := n) (e := (0, -1)) (a := a) hv
  rw [n0] at hv1
  generalize w0 : nW B n (0, -1) a v = v1 at hv1
  obtain ⟨e1, f1⟩ : ∃ e, rT B n N (0, -1) (a + 1) = e := ⟨_, rfl⟩
  have c1 : e1.1 < 5 := by rw [← f1]; exact rT_c (by decide)
  have hq : q_bid B n N (a + 1) = rN B n (rN B n e1 (a + 1 + 1) 0 (N 1)) (a + 1 + 1 + 1) 0 4 := by rw [← f1]; rfl
  rw [hq]
  by_cases z1 : ¬ e1.1 = 0
  · have y : (e1.1 = 0) = False := eq_false z1
    try simp only [rN_n z1, rP_n z1, er_n z1]
    refine ⟨a + 1, v1, μ, ?_, Fw_rf, hv1, fun q => absurd q z1⟩
    refine ev_tri hok (okM_X11_readsBid 0) (Nat.le_of_ble_eq_true rfl) 400 ?_
    rw [at_X11_readsBid_0]
    repeat' (first
      | (with_reducible refine ev_rid ?_; simp (disch := first | omega | assumption) only [ev_run_c, ev_run_n, ev_fj, ev_stp, ev_lk, ev_fv, ev_as, ev_sz, ev_st1, ev_st2, ev_rm, ev_pk, ev_Jof, ev_go, lv_args, List.map_cons, List.map_nil, List.zip_cons_cons, List.zip_nil_left, List.zip_nil_right, List.nil_append, List.cons_append, ↓reduceIte, reduceCtorEq, Int.reduceToNat, Nat.reduceEqDiff, Nat.reduceAdd, Nat.reduceLT, Nat.reduceLeDiff, Nat.reduceMul, Nat.reduceSub, Value.category, false_implies, true_and, and_true, Bool.false_eq_true, Option.some.injEq, exists_eq_left', Option.toList_some, Option.toList_none, ev_km, ev_k2, ev_k3, ev_k4, ev_k5, ev_l0, ev_l1, sh_1, sh_2, sh_3, sh_4, sh_5, at_X11_readsBid_38, ca_X11_118, ca_X11_149, ca_X11_153, ca_X11_162, ca_X11_165, cd_X11_readsBid_0, cd_X11_readsBid_38, fl_X11_62, ev_b_13, no_0, no_1, no_lt, no_le, no_eq, no_lt0, no_ge0, no_gt0, no_le0, no_eq0, no_0eq, no_eqm, no_meq, no_m0, no_mlt, no_mge, no_mgt, no_mm, no_i01, no_i10, no_in, no_or, no_ifm, no_mul, nI_add, no_sub, pk_div, iI_if, nI_clamp, oI_n, oI_s, not_true_eq_false, not_false_eq_true, forall_const, true_implies, false_and, and_false, or_false, false_or, Classical.not_not, true_or, or_true, no_b, no_eq1, eq_self, and_self, sk_301, sk_302, sl_302, sp_301, n0, w0, re_10, re_n, mw_re, f1, y, rN_n z1, rP_n z1, rT_n z1, er_n z1, nx_n z1, nW_n z1])
      | (with_reducible refine ev_gid ?_; simp (disch := first | omega | assumption) only [ev_run_c, ev_run_n, ev_fj, ev_stp, ev_lk, ev_fv, ev_as, ev_sz, ev_st1, ev_st2, ev_rm, ev_pk, ev_Jof, ev_go, lv_args, List.map_cons, List.map_nil, List.zip_cons_cons, List.zip_nil_left, List.zip_nil_right, List.nil_append, List.cons_append, ↓reduceIte, reduceCtorEq, Int.reduceToNat, Nat.reduceEqDiff, Nat.reduceAdd, Nat.reduceLT, Nat.reduceLeDiff, Nat.reduceMul, Nat.reduceSub, Value.category, false_implies, true_and, and_true, Bool.false_eq_true, Option.some.injEq, exists_eq_left', Option.toList_some, Option.toList_none, ev_km, ev_k2, ev_k3, ev_k4, ev_k5, ev_l0, ev_l1, sh_1, sh_2, sh_3, sh_4, sh_5, at_X11_readsBid_38, ca_X11_118, ca_X11_149, ca_X11_153, ca_X11_162, ca_X11_165, cd_X11_readsBid_0, cd_X11_readsBid_38, fl_X11_62, ev_b_13, no_0, no_1, no_lt, no_le, no_eq, no_lt0, no_ge0, no_gt0, no_le0, no_eq0, no_0eq, no_eqm, no_meq, no_m0, no_mlt, no_mge, no_mgt, no_mm, no_i01, no_i10, no_in, no_or, no_ifm, no_mul, nI_add, no_sub, pk_div, iI_if, nI_clamp, oI_n, oI_s, not_true_eq_false, not_false_eq_true, forall_const, true_implies, false_and, and_false, or_false, false_or, Classical.not_not, true_or, or_true, no_b, no_eq1, eq_self, and_self, sk_301, sk_302, sl_302, sp_301, n0, w0, re_10, re_n, mw_re, f1, y, rN_n z1, rP_n z1, rT_n z1, er_n z1, nx_n z1, nW_n z1])
      | (with_reducible refine And.intro (fun q => ?_) (fun q => ?_) <;> (try simp (disch := first | omega | assumption) only [no_0, no_1, no_lt, no_le, no_eq, no_lt0, no_ge0, no_gt0, no_le0, no_eq0, no_0eq, no_eqm, no_meq, no_m0, no_mlt, no_mge, no_mgt, no_mm, no_i01, no_i10, no_in, no_or, no_ifm, no_mul, nI_add, no_sub, pk_div, iI_if, nI_clamp, oI_n, oI_s, not_true_eq_false, not_false_eq_true, forall_const, true_implies, false_and, and_false, or_false, false_or, Classical.not_not, true_or, or_true, no_b, no_eq1, eq_self, and_self, sk_301, sk_302, sl_302, sp_301, n0, w0, re_10, re_n, mw_re, f1, y, rN_n z1, rP_n z1, rT_n z1, er_n z1, nx_n z1, nW_n z1] at q))
      | with_reducible refine ev_ci (m_go hok (by first | with_reducible assumption | exact RB_mw (by with_reducible assumption)) ?_) ?_
      | with_reducible refine ev_ci (m_readTaster hok (by with_reducible assumption) (by with_reducible assumption) (by with_reducible assumption) ?_) ?_
      | with_reducible refine ev_ci (m_readPancake hok (by with_reducible assumption) (by with_reducible assumption) ?_ (by with_reducible assumption) (by with_reducible assumption)) ?_
      | with_reducible refine ev_ci (m_readNumber hok (by with_reducible assumption) ?_ (by with_reducible assumption) ?_ ?_) ?_
      | with_reducible refine ev_ci (m_X11_puts hok (by first | exact MR_re (by with_reducible assumption) | exact MR_re mw_R) ?_ ?_) ?_
      | omega
      | with_reducible assumption
      | with_reducible rfl
      | with_reducible refine lp_nx ?_ ?_ ?_ ?_
      | with_reducible refine lp_st ?_ ?_ ?_
      | with_reducible refine ls_c ?_ ?_
      | with_reducible refine vi_c ?_
      | with_reducible refine re_c ?_
      | with_reducible refine vz_c ?_
      | with_reducible refine rz_c ?_
      | exact trivial
      | with_reducible refine And.intro ?_ ?_
      | simp (disch := first | omega | assumption) only [ev_run_c, ev_run_n, ev_fj, ev_stp, ev_lk, ev_fv, ev_as, ev_sz, ev_st1, ev_st2, ev_rm, ev_pk, ev_Jof, ev_go, lv_args, List.map_cons, List.map_nil, List.zip_cons_cons, List.zip_nil_left, List.zip_nil_right, List.nil_append, List.cons_append, ↓reduceIte, reduceCtorEq, Int.reduceToNat, Nat.reduceEqDiff, Nat.reduceAdd, Nat.reduceLT, Nat.reduceLeDiff, Nat.reduceMul, Nat.reduceSub, Value.category, false_implies, true_and, and_true, Bool.false_eq_true, Option.some.injEq, exists_eq_left', Option.toList_some, Option.toList_none, ev_km, ev_k2, ev_k3, ev_k4, ev_k5, ev_l0, ev_l1, sh_1, sh_2, sh_3, sh_4, sh_5, at_X11_readsBid_38, ca_X11_118, ca_X11_149, ca_X11_153, ca_X11_162, ca_X11_165, cd_X11_readsBid_0, cd_X11_readsBid_38, fl_X11_62, ev_b_13, no_0, no_1, no_lt, no_le, no_eq, no_lt0, no_ge0, no_gt0, no_le0, no_eq0, no_0eq, no_eqm, no_meq, no_m0, no_mlt, no_mge, no_mgt, no_mm, no_i01, no_i10, no_in, no_or, no_ifm, no_mul, nI_add, no_sub, pk_div, iI_if, nI_clamp, oI_n, oI_s, not_true_eq_false, not_false_eq_true, forall_const, true_implies, false_and, and_false, or_false, false_or, Classical.not_not, true_or, or_true, no_b, no_eq1, eq_self, and_self, sk_301, sk_302, sl_302, sp_301, n0, w0, re_10, re_n, mw_re, f1, y, rN_n z1, rP_n z1, rT_n z1, er_n z1, nx_n z1, nW_n z1]
      | exact rfl
      | (split <;> omega))
  · have z1 : e1.1 = 0 := Classical.byContradiction z1
    have g1 := z1
    rw [← f1] at g1
    have d1 := er_0 g1 (by decide)
    have s1 := rP_0 d1.1
    have p1 := pz_0 d1.1
    have b1 : pv B n N (a + 1) < 16 := by omega
    have n1 : nx e1 (a + 1) = a + 1 + 1 := nx_0 z1
    have hv2 := NV_nx (B := B) (n := n) (e := e1) (a := a + 1) hv1
    rw [n1] at hv2
    generalize w1 : nW B n e1 (a + 1) v1 = v2 at hv2
    obtain ⟨e2, f2⟩ : ∃ e, rN B n e1 (a + 1 + 1) 0 (N 1) = e := ⟨_, rfl⟩
    have c2 : e2.1 < 5 := by rw [← f2]; exact rN_c c1
    rw [f2]
    by_cases z2 : ¬ e2.1 = 0
    · have y : (e2.1 = 0) = False := eq_false z2
      try simp only [rN_n z2, rP_n z2, er_n z2]
      refine ⟨a + 1 + 1, v2, μ, ?_, Fw_rf, hv2, fun q => absurd q z2⟩
      refine ev_tri hok (okM_X11_readsBid 0) (Nat.le_of_ble_eq_true rfl) 400 ?_
      rw [at_X11_readsBid_0]
      repeat' (first
        | (with_reducible refine ev_rid ?_; simp (disch := first | omega | assumption) only [ev_run_c, ev_run_n, ev_fj, ev_stp, ev_lk, ev_fv, ev_as, ev_sz, ev_st1, ev_st2, ev_rm, ev_pk, ev_Jof, ev_go, lv_args, List.map_cons, List.map_nil, List.zip_cons_cons, List.zip_nil_left, List.zip_nil_right, List.nil_append, List.cons_append, ↓reduceIte, reduceCtorEq, Int.reduceToNat, Nat.reduceEqDiff, Nat.reduceAdd, Nat.reduceLT, Nat.reduceLeDiff, Nat.reduceMul, Nat.reduceSub, Value.category, false_implies, true_and, and_true, Bool.false_eq_true, Option.some.injEq, exists_eq_left', Option.toList_some, Option.toList_none, ev_km, ev_k2, ev_k3, ev_k4, ev_k5, ev_l0, ev_l1, sh_1, sh_2, sh_3, sh_4, sh_5, at_X11_readsBid_38, ca_X11_118, ca_X11_149, ca_X11_153, ca_X11_162, ca_X11_165, cd_X11_readsBid_0, cd_X11_readsBid_38, fl_X11_62, ev_b_13, no_0, no_1, no_lt, no_le, no_eq, no_lt0, no_ge0, no_gt0, no_le0, no_eq0, no_0eq, no_eqm, no_meq, no_m0, no_mlt, no_mge, no_mgt, no_mm, no_i01, no_i10, no_in, no_or, no_ifm, no_mul, nI_add, no_sub, pk_div, iI_if, nI_clamp, oI_n, oI_s, not_true_eq_false, not_false_eq_true, forall_const, true_implies, false_and, and_false, or_false, false_or, Classical.not_not, true_or, or_true, no_b, no_eq1, eq_self, and_self, sk_301, sk_302, sl_302, sp_301, n0, w0, re_10, re_n, mw_re, f1, z1, p1, n1, w1, f2, y, rN_n z2, rP_n z2, rT_n z2, er_n z2, nx_n z2, nW_n z2])
        | (with_reducible refine ev_gid ?_; simp (disch := first | omega | assumption) only [ev_run_c, ev_run_n, ev_fj, ev_stp, ev_lk, ev_fv, ev_as, ev_sz, ev_st1, ev_st2, ev_rm, ev_pk, ev_Jof, ev_go, lv_args, List.map_cons, List.map_nil, List.zip_cons_cons, List.zip_nil_left, List.zip_nil_right, List.nil_append, List.cons_append, ↓reduceIte, reduceCtorEq, Int.reduceToNat, Nat.reduceEqDiff, Nat.reduceAdd, Nat.reduceLT, Nat.reduceLeDiff, Nat.reduceMul, Nat.reduceSub, Value.category, false_implies, true_and, and_true, Bool.false_eq_true, Option.some.injEq, exists_eq_left', Option.toList_some, Option.toList_none, ev_km, ev_k2, ev_k3, ev_k4, ev_k5, ev_l0, ev_l1, sh_1, sh_2, sh_3, sh_4, sh_5, at_X11_readsBid_38, ca_X11_118, ca_X11_149, ca_X11_153, ca_X11_162, ca_X11_165, cd_X11_readsBid_0, cd_X11_readsBid_38, fl_X11_62, ev_b_13, no_0, no_1, no_lt, no_le, no_eq, no_lt0, no_ge0, no_gt0, no_le0, no_eq0, no_0eq, no_eqm, no_meq, no_m0, no_mlt, no_mge, no_mgt, no_mm, no_i01, no_i10, no_in, no_or, no_ifm, no_mul, nI_add, no_sub, pk_div, iI_if, nI_clamp, oI_n, oI_s, not_true_eq_false, not_false_eq_true, forall_const, true_implies, false_and, and_false, or_false, false_or, Classical.not_not, true_or, or_true, no_b, no_eq1, eq_self, and_self, sk_301, sk_302, sl_302, sp_301, n0, w0, re_10, re_n, mw_re, f1, z1, p1, n1, w1, f2, y, rN_n z2, rP_n z2, rT_n z2, er_n z2, nx_n z2, nW_n z2])
        | (with_reducible refine And.intro (fun q => ?_) (fun q => ?_) <;> (try simp (disch := first | omega | assumption) only [no_0, no_1, no_lt, no_le, no_eq, no_lt0, no_ge0, no_gt0, no_le0, no_eq0, no_0eq, no_eqm, no_meq, no_m0, no_mlt, no_mge, no_mgt, no_mm, no_i01, no_i10, no_in, no_or, no_ifm, no_mul, nI_add, no_sub, pk_div, iI_if, nI_clamp, oI_n, oI_s, not_true_eq_false, not_false_eq_true, forall_const, true_implies, false_and, and_false, or_false, false_or, Classical.not_not, true_or, or_true, no_b, no_eq1, eq_self, and_self, sk_301, sk_302, sl_302, sp_301, n0, w0, re_10, re_n, mw_re, f1, z1, p1, n1, w1, f2, y, rN_n z2, rP_n z2, rT_n z2, er_n z2, nx_n z2, nW_n z2] at q))
        | with_reducible refine ev_ci (m_go hok (by first | with_reducible assumption | exact RB_mw (by with_reducible assumption)) ?_) ?_
        | with_reducible refine ev_ci (m_readTaster hok (by with_reducible assumption) (by with_reducible assumption) (by with_reducible assumption) ?_) ?_
        | with_reducible refine ev_ci (m_readPancake hok (by with_reducible assumption) (by with_reducible assumption) ?_ (by with_reducible assumption) (by with_reducible assumption)) ?_
        | with_reducible refine ev_ci (m_readNumber hok (by with_reducible assumption) ?_ (by with_reducible assumption) ?_ ?_) ?_
        | with_reducible refine ev_ci (m_X11_puts hok (by first | exact MR_re (by with_reducible assumption) | exact MR_re mw_R) ?_ ?_) ?_
        | omega
        | with_reducible assumption
        | with_reducible rfl
        | with_reducible refine lp_nx ?_ ?_ ?_ ?_
        | with_reducible refine lp_st ?_ ?_ ?_
        | with_reducible refine ls_c ?_ ?_
        | with_reducible refine vi_c ?_
        | with_reducible refine re_c ?_
        | with_reducible refine vz_c ?_
        | with_reducible refine rz_c ?_
        | exact trivial
        | with_reducible refine And.intro ?_ ?_
        | simp (disch := first | omega | assumption) only [ev_run_c, ev_run_n, ev_fj, ev_stp, ev_lk, ev_fv, ev_as, ev_sz, ev_st1, ev_st2, ev_rm, ev_pk, ev_Jof, ev_go, lv_args, List.map_cons, List.map_nil, List.zip_cons_cons, List.zip_nil_left, List.zip_nil_right, List.nil_append, List.cons_append, ↓reduceIte, reduceCtorEq, Int.reduceToNat, Nat.reduceEqDiff, Nat.reduceAdd, Nat.reduceLT, Nat.reduceLeDiff, Nat.reduceMul, Nat.reduceSub, Value.category, false_implies, true_and, and_true, Bool.false_eq_true, Option.some.injEq, exists_eq_left', Option.toList_some, Option.toList_none, ev_km, ev_k2, ev_k3, ev_k4, ev_k5, ev_l0, ev_l1, sh_1, sh_2, sh_3, sh_4, sh_5, at_X11_readsBid_38, ca_X11_118, ca_X11_149, ca_X11_153, ca_X11_162, ca_X11_165, cd_X11_readsBid_0, cd_X11_readsBid_38, fl_X11_62, ev_b_13, no_0, no_1, no_lt, no_le, no_eq, no_lt0, no_ge0, no_gt0, no_le0, no_eq0, no_0eq, no_eqm, no_meq, no_m0, no_mlt, no_mge, no_mgt, no_mm, no_i01, no_i10, no_in, no_or, no_ifm, no_mul, nI_add, no_sub, pk_div, iI_if, nI_clamp, oI_n, oI_s, not_true_eq_false, not_false_eq_true, forall_const, true_implies, false_and, and_false, or_false, false_or, Classical.not_not, true_or, or_true, no_b, no_eq1, eq_self, and_self, sk_301, sk_302, sl_302, sp_301, n0, w0, re_10, re_n, mw_re, f1, z1, p1, n1, w1, f2, y, rN_n z2, rP_n z2, rT_n z2, er_n z2, nx_n z2, nW_n z2]
        | exact rfl
        | (split <;> omega))
    · have z2 : e2.1 = 0 := Classical.byContradiction z2
      have g2 := z2
      rw [← f2] at g2
      have s2 := nmc_0 (rN_0 g2).2.1
      have b2 : tvl B n (a + 1 + 1) < 10 := by omega
      have n2 : nx e2 (a + 1 + 1) = a + 1 + 1 + 1 := nx_0 z2
      have hv3 := NV_nx (B := B) (n := n) (e := e2) (a := a + 1 + 1) hv2
      rw [n2] at hv3
      generalize w2 : nW B n e2 (a + 1 + 1) v2 = v3 at hv3
      obtain ⟨e3, f3⟩ : ∃ e, rN B n e2 (a + 1 + 1 + 1) 0 4 = e := ⟨_, rfl⟩
      have c3 : e3.1 < 5 := by rw [← f3]; exact rN_c c2
      rw [f3]
      by_cases z3 : ¬ e3.1 = 0
      · have y : (e3.1 = 0) = False := eq_false z3
        try simp only [rN_n z3, rP_n z3, er_n z3]
        refine ⟨a + 1 + 1 + 1, v3, μ, ?_, Fw_rf, hv3, fun q => absurd q z3⟩
        refine ev_tri hok (okM_X11_readsBid 0) (Nat.le_of_ble_eq_true rfl) 400 ?_
        rw [at_X11_readsBid_0]
        repeat' (first
          | (with_reducible refine ev_rid ?_; simp (disch := first | omega | assumption) only [ev_run_c, ev_run_n, ev_fj, ev_stp, ev_lk, ev_fv, ev_as, ev_sz, ev_st1, ev_st2, ev_rm, ev_pk, ev_Jof, ev_go, lv_args, List.map_cons, List.map_nil, List.zip_cons_cons, List.zip_nil_left, List.zip_nil_right, List.nil_append, List.cons_append, ↓reduceIte, reduceCtorEq, Int.reduceToNat, Nat.reduceEqDiff, Nat.reduceAdd, Nat.reduceLT, Nat.reduceLeDiff, Nat.reduceMul, Nat.reduceSub, Value.category, false_implies, true_and, and_true, Bool.false_eq_true, Option.some.injEq, exists_eq_left', Option.toList_some, Option.toList_none, ev_km, ev_k2, ev_k3, ev_k4, ev_k5, ev_l0, ev_l1, sh_1, sh_2, sh_3, sh_4, sh_5, at_X11_readsBid_38, ca_X11_118, ca_X11_149, ca_X11_153, ca_X11_162, ca_X11_165, cd_X11_readsBid_0, cd_X11_readsBid_38, fl_X11_62, ev_b_13, no_0, no_1, no_lt, no_le, no_eq, no_lt0, no_ge0, no_gt0, no_le0, no_eq0, no_0eq, no_eqm, no_meq, no_m0, no_mlt, no_mge, no_mgt, no_mm, no_i01, no_i10, no_in, no_or, no_ifm, no_mul, nI_add, no_sub, pk_div, iI_if, nI_clamp, oI_n, oI_s, not_true_eq_false, not_false_eq_true, forall_const, true_implies, false_and, and_false, or_false, false_or, Classical.not_not, true_or, or_true, no_b, no_eq1, eq_self, and_self, sk_301, sk_302, sl_302, sp_301, n0, w0, re_10, re_n, mw_re, f1, z1, p1, n1, w1, f2, z2, n2, w2, f3, y, rN_n z3, rP_n z3, rT_n z3, er_n z3, nx_n z3, nW_n z3])
          | (with_reducible refine ev_gid ?_; simp (disch := first | omega | assumption) only [ev_run_c, ev_run_n, ev_fj, ev_stp, ev_lk, ev_fv, ev_as, ev_sz, ev_st1, ev_st2, ev_rm, ev_pk, ev_Jof, ev_go, lv_args, List.map_cons, List.map_nil, List.zip_cons_cons, List.zip_nil_left, List.zip_nil_right, List.nil_append, List.cons_append, ↓reduceIte, reduceCtorEq, Int.reduceToNat, Nat.reduceEqDiff, Nat.reduceAdd, Nat.reduceLT, Nat.reduceLeDiff, Nat.reduceMul, Nat.reduceSub, Value.category, false_implies, true_and, and_true, Bool.false_eq_true, Option.some.injEq, exists_eq_left', Option.toList_some, Option.toList_none, ev_km, ev_k2, ev_k3, ev_k4, ev_k5, ev_l0, ev_l1, sh_1, sh_2, sh_3, sh_4, sh_5, at_X11_readsBid_38, ca_X11_118, ca_X11_149, ca_X11_153, ca_X11_162, ca_X11_165, cd_X11_readsBid_0, cd_X11_readsBid_38, fl_X11_62, ev_b_13, no_0, no_1, no_lt, no_le, no_eq, no_lt0, no_ge0, no_gt0, no_le0, no_eq0, no_0eq, no_eqm, no_meq, no_m0, no_mlt, no_mge, no_mgt, no_mm, no_i01, no_i10, no_in, no_or, no_ifm, no_mul, nI_add, no_sub, pk_div, iI_if, nI_clamp, oI_n, oI_s, not_true_eq_false, not_false_eq_true, forall_const, true_implies, false_and, and_false, or_false, false_or, Classical.not_not, true_or, or_true, no_b, no_eq1, eq_self, and_self, sk_301, sk_302, sl_302, sp_301, n0, w0, re_10, re_n, mw_re, f1, z1, p1, n1, w1, f2, z2, n2, w2, f3, y, rN_n z3, rP_n z3, rT_n z3, er_n z3, nx_n z3, nW_n z3])
          | (with_reducible refine And.intro (fun q => ?_) (fun q => ?_) <;> (try simp (disch := first | omega | assumption) only [no_0, no_1, no_lt, no_le, no_eq, no_lt0, no_ge0, no_gt0, no_le0, no_eq0, no_0eq, no_eqm, no_meq, no_m0, no_mlt, no_mge, no_mgt, no_mm, no_i01, no_i10, no_in, no_or, no_ifm, no_mul, nI_add, no_sub, pk_div, iI_if, nI_clamp, oI_n, oI_s, not_true_eq_false, not_false_eq_true, forall_const, true_implies, false_and, and_false, or_false, false_or, Classical.not_not, true_or, or_true, no_b, no_eq1, eq_self, and_self, sk_301, sk_302, sl_302, sp_301, n0, w0, re_10, re_n, mw_re, f1, z1, p1, n1, w1, f2, z2, n2, w2, f3, y, rN_n z3, rP_n z3, rT_n z3, er_n z3, nx_n z3, nW_n z3] at q))
          | with_reducible refine ev_ci (m_go hok (by first | with_reducible assumption | exact RB_mw (by with_reducible assumption)) ?_) ?_
          | with_reducible refine ev_ci (m_readTaster hok (by with_reducible assumption) (by with_reducible assumption) (by with_reducible assumption) ?_) ?_
          | with_reducible refine ev_ci (m_readPancake hok (by with_reducible assumption) (by with_reducible assumption) ?_ (by with_reducible assumption) (by with_reducible assumption)) ?_
          | with_reducible refine ev_ci (m_readNumber hok (by with_reducible assumption) ?_ (by with_reducible assumption) ?_ ?_) ?_
          | with_reducible refine ev_ci (m_X11_puts hok (by first | exact MR_re (by with_reducible assumption) | exact MR_re mw_R) ?_ ?_) ?_
          | omega
          | with_reducible assumption
          | with_reducible rfl
          | with_reducible refine lp_nx ?_ ?_ ?_ ?_
          | with_reducible refine lp_st ?_ ?_ ?_
          | with_reducible refine ls_c ?_ ?_
          | with_reducible refine vi_c ?_
          | with_reducible refine re_c ?_
          | with_reducible refine vz_c ?_
          | with_reducible refine rz_c ?_
          | exact trivial
          | with_reducible refine And.intro ?_ ?_
          | simp (disch := first | omega | assumption) only [ev_run_c, ev_run_n, ev_fj, ev_stp, ev_lk, ev_fv, ev_as, ev_sz, ev_st1, ev_st2, ev_rm, ev_pk, ev_Jof, ev_go, lv_args, List.map_cons, List.map_nil, List.zip_cons_cons, List.zip_nil_left, List.zip_nil_right, List.nil_append, List.cons_append, ↓reduceIte, reduceCtorEq, Int.reduceToNat, Nat.reduceEqDiff, Nat.reduceAdd, Nat.reduceLT, Nat.reduceLeDiff, Nat.reduceMul, Nat.reduceSub, Value.category, false_implies, true_and, and_true, Bool.false_eq_true, Option.some.injEq, exists_eq_left', Option.toList_some, Option.toList_none, ev_km, ev_k2, ev_k3, ev_k4, ev_k5, ev_l0, ev_l1, sh_1, sh_2, sh_3, sh_4, sh_5, at_X11_readsBid_38, ca_X11_118, ca_X11_149, ca_X11_153, ca_X11_162, ca_X11_165, cd_X11_readsBid_0, cd_X11_readsBid_38, fl_X11_62, ev_b_13, no_0, no_1, no_lt, no_le, no_eq, no_lt0, no_ge0, no_gt0, no_le0, no_eq0, no_0eq, no_eqm, no_meq, no_m0, no_mlt, no_mge, no_mgt, no_mm, no_i01, no_i10, no_in, no_or, no_ifm, no_mul, nI_add, no_sub, pk_div, iI_if, nI_clamp, oI_n, oI_s, not_true_eq_false, not_false_eq_true, forall_const, true_implies, false_and, and_false, or_false, false_or, Classical.not_not, true_or, or_true, no_b, no_eq1, eq_self, and_self, sk_301, sk_302, sl_302, sp_301, n0, w0, re_10, re_n, mw_re, f1, z1, p1, n1, w1, f2, z2, n2, w2, f3, y, rN_n z3, rP_n z3, rT_n z3, er_n z3, nx_n z3, nW_n z3]
          | exact rfl
          | (split <;> omega))
      · have z3 : e3.1 = 0 := Classical.byContradiction z3
        have g3 := z3
        rw [← f3] at g3
        have s3 := nmc_0 (rN_0 g3).2.1
        have n3 : nx e3 (a + 1 + 1 + 1) = a + 1 + 1 + 1 + 1 := nx_0 z3
        have hv4 := NV_nx (B := B) (n := n) (e := e3) (a := a + 1 + 1 + 1) hv3
        rw [n3] at hv4
        generalize w3 : nW B n e3 (a + 1 + 1 + 1) v3 = v4 at hv4
        refine ⟨a + 1 + 1 + 1 + 1, v4, mw μ (up N (8 + 59 * (pv B n N (a + 1)) + (13 + tvl B n (a + 1 + 1))) (tvl B n (a + 1 + 1 + 1))), ?_, Fw_mw, hv4, fun _ => ⟨rfl, mw_R⟩⟩
        refine ev_tri hok (okM_X11_readsBid 0) (Nat.le_of_ble_eq_true rfl) 400 ?_
        rw [at_X11_readsBid_0]
        repeat' (first
          | (with_reducible refine ev_rid ?_; simp (disch := first | omega | assumption) only [ev_run_c, ev_run_n, ev_fj, ev_stp, ev_lk, ev_fv, ev_as, ev_sz, ev_st1, ev_st2, ev_rm, ev_pk, ev_Jof, ev_go, lv_args, List.map_cons, List.map_nil, List.zip_cons_cons, List.zip_nil_left, List.zip_nil_right, List.nil_append, List.cons_append, ↓reduceIte, reduceCtorEq, Int.reduceToNat, Nat.reduceEqDiff, Nat.reduceAdd, Nat.reduceLT, Nat.reduceLeDiff, Nat.reduceMul, Nat.reduceSub, Value.category, false_implies, true_and, and_true, Bool.false_eq_true, Option.some.injEq, exists_eq_left', Option.toList_some, Option.toList_none, ev_km, ev_k2, ev_k3, ev_k4, ev_k5, ev_l0, ev_l1, sh_1, sh_2, sh_3, sh_4, sh_5, at_X11_readsBid_38, ca_X11_118, ca_X11_149, ca_X11_153, ca_X11_162, ca_X11_165, cd_X11_readsBid_0, cd_X11_readsBid_38, fl_X11_62, ev_b_13, no_0, no_1, no_lt, no_le, no_eq, no_lt0, no_ge0, no_gt0, no_le0, no_eq0, no_0eq, no_eqm, no_meq, no_m0, no_mlt, no_mge, no_mgt, no_mm, no_i01, no_i10, no_in, no_or, no_ifm, no_mul, nI_add, no_sub, pk_div, iI_if, nI_clamp, oI_n, oI_s, not_true_eq_false, not_false_eq_true, forall_const, true_implies, false_and, and_false, or_false, false_or, Classical.not_not, true_or, or_true, no_b, no_eq1, eq_self, and_self, sk_301, sk_302, sl_302, sp_301, n0, w0, re_10, re_n, mw_re, mw_mw, f1, z1, p1, n1, w1, f2, z2, n2, w2, f3, z3, n3, w3])
          | (with_reducible refine ev_gid ?_; simp (disch := first | omega | assumption) only [ev_run_c, ev_run_n, ev_fj, ev_stp, ev_lk, ev_fv, ev_as, ev_sz, ev_st1, ev_st2, ev_rm, ev_pk, ev_Jof, ev_go, lv_args, List.map_cons, List.map_nil, List.zip_cons_cons, List.zip_nil_left, List.zip_nil_right, List.nil_append, List.cons_append, ↓reduceIte, reduceCtorEq, Int.reduceToNat, Nat.reduceEqDiff, Nat.reduceAdd, Nat.reduceLT, Nat.reduceLeDiff, Nat.reduceMul, Nat.reduceSub, Value.category, false_implies, true_and, and_true, Bool.false_eq_true, Option.some.injEq, exists_eq_left', Option.toList_some, Option.toList_none, ev_km, ev_k2, ev_k3, ev_k4, ev_k5, ev_l0, ev_l1, sh_1, sh_2, sh_3, sh_4, sh_5, at_X11_readsBid_38, ca_X11_118, ca_X11_149, ca_X11_153, ca_X11_162, ca_X11_165, cd_X11_readsBid_0, cd_X11_readsBid_38, fl_X11_62, ev_b_13, no_0, no_1, no_lt, no_le, no_eq, no_lt0, no_ge0, no_gt0, no_le0, no_eq0, no_0eq, no_eqm, no_meq, no_m0, no_mlt, no_mge, no_mgt, no_mm, no_i01, no_i10, no_in, no_or, no_ifm, no_mul, nI_add, no_sub, pk_div, iI_if, nI_clamp, oI_n, oI_s, not_true_eq_false, not_false_eq_true, forall_const, true_implies, false_and, and_false, or_false, false_or, Classical.not_not, true_or, or_true, no_b, no_eq1, eq_self, and_self, sk_301, sk_302, sl_302, sp_301, n0, w0, re_10, re_n, mw_re, mw_mw, f1, z1, p1, n1, w1, f2, z2, n2, w2, f3, z3, n3, w3])
          | (with_reducible refine And.intro (fun q => ?_) (fun q => ?_) <;> (try simp (disch := first | omega | assumption) only [no_0, no_1, no_lt, no_le, no_eq, no_lt0, no_ge0, no_gt0, no_le0, no_eq0, no_0eq, no_eqm, no_meq, no_m0, no_mlt, no_mge, no_mgt, no_mm, no_i01, no_i10, no_in, no_or, no_ifm, no_mul, nI_add, no_sub, pk_div, iI_if, nI_clamp, oI_n, oI_s, not_true_eq_false, not_false_eq_true, forall_const, true_implies, false_and, and_false, or_false, false_or, Classical.not_not, true_or, or_true, no_b, no_eq1, eq_self, and_self, sk_301, sk_302, sl_302, sp_301, n0, w0, re_10, re_n, mw_re, mw_mw, f1, z1, p1, n1, w1, f2, z2, n2, w2, f3, z3, n3, w3] at q))
          | with_reducible refine ev_ci (m_go hok (by first | with_reducible assumption | exact RB_mw (by with_reducible assumption)) ?_) ?_
          | with_reducible refine ev_ci (m_readTaster hok (by with_reducible assumption) (by with_reducible assumption) (by with_reducible assumption) ?_) ?_
          | with_reducible refine ev_ci (m_readPancake hok (by with_reducible assumption) (by with_reducible assumption) ?_ (by with_reducible assumption) (by with_reducible assumption)) ?_
          | with_reducible refine ev_ci (m_readNumber hok (by with_reducible assumption) ?_ (by with_reducible assumption) ?_ ?_) ?_
          | with_reducible refine ev_ci (m_X11_puts hok (by first | exact MR_re (by with_reducible assumption) | exact MR_re mw_R) ?_ ?_) ?_
          | omega
          | with_reducible assumption
          | with_reducible rfl
          | with_reducible refine lp_nx ?_ ?_ ?_ ?_
          | with_reducible refine lp_st ?_ ?_ ?_
          | with_reducible refine ls_c ?_ ?_
          | with_reducible refine vi_c ?_
          | with_reducible refine re_c ?_
          | with_reducible refine vz_c ?_
          | with_reducible refine rz_c ?_
          | exact trivial
          | with_reducible refine And.intro ?_ ?_
          | simp (disch := first | omega | assumption) only [ev_run_c, ev_run_n, ev_fj, ev_stp, ev_lk, ev_fv, ev_as, ev_sz, ev_st1, ev_st2, ev_rm, ev_pk, ev_Jof, ev_go, lv_args, List.map_cons, List.map_nil, List.zip_cons_cons, List.zip_nil_left, List.zip_nil_right, List.nil_append, List.cons_append, ↓reduceIte, reduceCtorEq, Int.reduceToNat, Nat.reduceEqDiff, Nat.reduceAdd, Nat.reduceLT, Nat.reduceLeDiff, Nat.reduceMul, Nat.reduceSub, Value.category, false_implies, true_and, and_true, Bool.false_eq_true, Option.some.injEq, exists_eq_left', Option.toList_some, Option.toList_none, ev_km, ev_k2, ev_k3, ev_k4, ev_k5, ev_l0, ev_l1, sh_1, sh_2, sh_3, sh_4, sh_5, at_X11_readsBid_38, ca_X11_118, ca_X11_149, ca_X11_153, ca_X11_162, ca_X11_165, cd_X11_readsBid_0, cd_X11_readsBid_38, fl_X11_62, ev_b_13, no_0, no_1, no_lt, no_le, no_eq, no_lt0, no_ge0, no_gt0, no_le0, no_eq0, no_0eq, no_eqm, no_meq, no_m0, no_mlt, no_mge, no_mgt, no_mm, no_i01, no_i10, no_in, no_or, no_ifm, no_mul, nI_add, no_sub, pk_div, iI_if, nI_clamp, oI_n, oI_s, not_true_eq_false, not_false_eq_true, forall_const, true_implies, false_and, and_false, or_false, false_or, Classical.not_not, true_or, or_true, no_b, no_eq1, eq_self, and_self, sk_301, sk_302, sl_302, sp_301, n0, w0, re_10, re_n, mw_re, mw_mw, f1, z1, p1, n1, w1, f2, z2, n2, w2, f3, z3, n3, w3]
          | exact rfl
          | (split <;> omega))
set_option maxHeartbeats 2000000 in
theorem rx_limit (hok : ev_ok sh_S G) (hR : RB B n μ) (hN : MR N μ) (hI : INV N) {a : Nat} {v : Int32} (hv : NV B n a v) : RX G B n mi_X11_readsLimit a v μ (q_limit B n N (a + 1)) (nI9 B n N a 12) (aI9 B n N a 12) := by
  have hh := iv_h hI
  have hN1 : N 1 ≤ 10 := hh.2.1
  have n0 : nx (0, -1) a = a + 1 := rfl
  have hv1 := NV_nx (B := B) (n := n) (e := (0, -1)) (a := a) hv
  rw [n0] at hv1
  generalize w0 : nW B n (0, -1) a v = v1 at hv1
  obtain ⟨e1, f1⟩ : ∃ e, rT B n N (0, -1) (a + 1) = e := ⟨_, rfl⟩
  have c1 : e1.1 < 5 := by rw [← f1]; exact rT_c (by decide)
  have hq : q_limit B n N (a + 1) = rN B n e1 (a + 1 + 1) 1 7 := by rw [← f1]; rfl
  rw [hq]
  by_cases z1 : ¬ e1.1 = 0
  · have y : (e1.1 = 0) = False := eq_false z1
    try simp only [rN_n z1, rP_n z1, er_n z1]
    refine ⟨a + 1, v1, μ, ?_, Fw_rf, hv1, fun q => absurd q z1⟩
    refine ev_tri hok (okM_X11_readsLimit 0) (Nat.le_of_ble_eq_true rfl) 400 ?_
    rw [at_X11_readsLimit_0]
    repeat' (first
      | (with_reducible refine ev_rid ?_; simp (disch := first | omega | assumption) only [ev_run_c, ev_run_n, ev_fj, ev_stp, ev_lk, ev_fv, ev_as, ev_sz, ev_st1, ev_st2, ev_rm, ev_pk, ev_Jof, ev_go, lv_args, List.map_cons, List.map_nil, List.zip_cons_cons, List.zip_nil_left, List.zip_nil_right, List.nil_append, List.cons_append, ↓reduceIte, reduceCtorEq, Int.reduceToNat, Nat.reduceEqDiff, Nat.reduceAdd, Nat.reduceLT, Nat.reduceLeDiff, Nat.reduceMul, Nat.reduceSub, Value.category, false_implies, true_and, and_true, Bool.false_eq_true, Option.some.injEq, exists_eq_left', Option.toList_some, Option.toList_none, ev_km, ev_k2, ev_k3, ev_k4, ev_k5, ev_l0, ev_l1, sh_1, sh_2, sh_3, sh_4, sh_5, at_X11_readsLimit_31, ca_X11_118, ca_X11_149, ca_X11_153, ca_X11_162, cd_X11_readsLimit_0, cd_X11_readsLimit_31, fl_X11_62, ev_b_6, no_0, no_1, no_lt, no_le, no_eq, no_lt0, no_ge0, no_gt0, no_le0, no_eq0, no_0eq, no_eqm, no_meq, no_m0, no_mlt, no_mge, no_mgt, no_mm, no_i01, no_i10, no_in, no_or, no_ifm, no_mul, nI_add, no_sub, pk_div, iI_if, nI_clamp, oI_n, oI_s, not_true_eq_false, not_false_eq_true, forall_const, true_implies, false_and, and_false, or_false, false_or, Classical.not_not, true_or, or_true, no_b, no_eq1, eq_self, and_self, sk_301, sk_302, sl_302, sp_301, n0, w0, re_10, re_n, mw_re, f1, y, rN_n z1, rP_n z1, rT_n z1, er_n z1, nx_n z1, nW_n z1])
      | (with_reducible refine ev_gid ?_; simp (disch := first | omega | assumption) only [ev_run_c, ev_run_n, ev_fj, ev_stp, ev_lk, ev_fv, ev_as, ev_sz, ev_st1, ev_st2, ev_rm, ev_pk, ev_Jof, ev_go, lv_args, List.map_cons, List.map_nil, List.zip_cons_cons, List.zip_nil_left, List.zip_nil_right, List.nil_append, List.cons_append, ↓reduceIte, reduceCtorEq, Int.reduceToNat, Nat.reduceEqDiff, Nat.reduceAdd, Nat.reduceLT, Nat.reduceLeDiff, Nat.reduceMul, Nat.reduceSub, Value.category, false_implies, true_and, and_true, Bool.false_eq_true, Option.some.injEq, exists_eq_left', Option.toList_some, Option.toList_none, ev_km, ev_k2, ev_k3, ev_k4, ev_k5, ev_l0, ev_l1, sh_1, sh_2, sh_3, sh_4, sh_5, at_X11_readsLimit_31, ca_X11_118, ca_X11_149, ca_X11_153, ca_X11_162, cd_X11_readsLimit_0, cd_X11_readsLimit_31, fl_X11_62, ev_b_6, no_0, no_1, no_lt, no_le, no_eq, no_lt0, no_ge0, no_gt0, no_le0, no_eq0, no_0eq, no_eqm, no_meq, no_m0, no_mlt, no_mge, no_mgt, no_mm, no_i01, no_i10, no_in, no_or, no_ifm, no_mul, nI_add, no_sub, pk_div, iI_if, nI_clamp, oI_n, oI_s, not_true_eq_false, not_false_eq_true, forall_const, true_implies, false_and, and_false, or_false, false_or, Classical.not_not, true_or, or_true, no_b, no_eq1, eq_self, and_self, sk_301, sk_302, sl_302, sp_301, n0, w0, re_10, re_n, mw_re, f1, y, rN_n z1, rP_n z1, rT_n z1, er_n z1, nx_n z1, nW_n z1])
      | (with_reducible refine And.intro (fun q => ?_) (fun q => ?_) <;> (try simp (disch := first | omega | assumption) only [no_0, no_1, no_lt, no_le, no_eq, no_lt0, no_ge0, no_gt0, no_le0, no_eq0, no_0eq, no_eqm, no_meq, no_m0, no_mlt, no_mge, no_mgt, no_mm, no_i01, no_i10, no_in, no_or, no_ifm, no_mul, nI_add, no_sub, pk_div, iI_if, nI_clamp, oI_n, oI_s, not_true_eq_false, not_false_eq_true, forall_const, true_implies, false_and, and_false, or_false, false_or, Classical.not_not, true_or, or_true, no_b, no_eq1, eq_self, and_self, sk_301, sk_302, sl_302, sp_301, n0, w0, re_10, re_n, mw_re, f1, y, rN_n z1, rP_n z1, rT_n z1, er_n z1, nx_n z1, nW_n z1] at q))
      | with_reducible refine ev_ci (m_go hok (by first | with_reducible assumption | exact RB_mw (by with_reducible assumption)) ?_) ?_
      | with_reducible refine ev_ci (m_readTaster hok (by with_reducible assumption) (by with_reducible assumption) (by with_reducible assumption) ?_) ?_
      | with_reducible refine ev_ci (m_readNumber hok (by with_reducible assumption) ?_ (by with_reducible assumption) ?_ ?_) ?_
      | with_reducible refine ev_ci (m_X11_puts hok (by first | exact MR_re (by with_reducible assumption) | exact MR_re mw_R) ?_ ?_) ?_
      | omega
      | with_reducible assumption
      | with_reducible rfl
      | with_reducible refine lp_nx ?_ ?_ ?_ ?_
      | with_reducible refine lp_st ?_ ?_ ?_
      | with_reducible refine ls_c ?_ ?_
      | with_reducible refine vi_c ?_
      | with_reducible refine re_c ?_
      | with_reducible refine vz_c ?_
      | with_reducible refine rz_c ?_
      | exact trivial
      | with_reducible refine And.intro ?_ ?_
      | simp (disch := first | omega | assumption) only [ev_run_c, ev_run_n, ev_fj, ev_stp, ev_lk, ev_fv, ev_as, ev_sz, ev_st1, ev_st2, ev_rm, ev_pk, ev_Jof, ev_go, lv_args, List.map_cons, List.map_nil, List.zip_cons_cons, List.zip_nil_left, List.zip_nil_right, List.nil_append, List.cons_append, ↓reduceIte, reduceCtorEq, Int.reduceToNat, Nat.reduceEqDiff, Nat.reduceAdd, Nat.reduceLT, Nat.reduceLeDiff, Nat.reduceMul, Nat.reduceSub, Value.category, false_implies, true_and, and_true, Bool.false_eq_true, Option.some.injEq, exists_eq_left', Option.toList_some, Option.toList_none, ev_km, ev_k2, ev_k3, ev_k4, ev_k5, ev_l0, ev_l1, sh_1, sh_2, sh_3, sh_4, sh_5, at_X11_readsLimit_31, ca_X11_118, ca_X11_149, ca_X11_153, ca_X11_162, cd_X11_readsLimit_0, cd_X11_readsLimit_31, fl_X11_62, ev_b_6, no_0, no_1, no_lt, no_le, no_eq, no_lt0, no_ge0, no_gt0, no_le0, no_eq0, no_0eq, no_eqm, no_meq, no_m0, no_mlt, no_mge, no_mgt, no_mm, no_i01, no_i10, no_in, no_or, no_ifm, no_mul, nI_add, no_sub, pk_div, iI_if, nI_clamp, oI_n, oI_s, not_true_eq_false, not_false_eq_true, forall_const, true_implies, false_and, and_false, or_false, false_or, Classical.not_not, true_or, or_true, no_b, no_eq1, eq_self, and_self, sk_301, sk_302, sl_302, sp_301, n0, w0, re_10, re_n, mw_re, f1, y, rN_n z1, rP_n z1, rT_n z1, er_n z1, nx_n z1, nW_n z1]
      | exact rfl
      | (split <;> omega))
  · have z1 : e1.1 = 0 := Classical.byContradiction z1
    have g1 := z1
    rw [← f1] at g1
    have d1 := er_0 g1 (by decide)
    have s1 := rP_0 d1.1
    have p1 := pz_0 d1.1
    have b1 : pv B n N (a + 1) < 16 := by omega
    have n1 : nx e1 (a + 1) = a + 1 + 1 := nx_0 z1
    have hv2 := NV_nx (B := B) (n := n) (e := e1) (a := a + 1) hv1
    rw [n1] at hv2
    generalize w1 : nW B n e1 (a + 1) v1 = v2 at hv2
    obtain ⟨e2, f2⟩ : ∃ e, rN B n e1 (a + 1 + 1) 1 7 = e := ⟨_, rfl⟩
    have c2 : e2.1 < 5 := by rw [← f2]; exact rN_c c1
    rw [f2]
    by_cases z2 : ¬ e2.1 = 0
    · have y : (e2.1 = 0) = False := eq_false z2
      try simp only [rN_n z2, rP_n z2, er_n z2]
      refine ⟨a + 1 + 1, v2, μ, ?_, Fw_rf, hv2, fun q => absurd q z2⟩
      refine ev_tri hok (okM_X11_readsLimit 0) (Nat.le_of_ble_eq_true rfl) 400 ?_
      rw [at_X11_readsLimit_0]
      repeat' (first
        | (with_reducible refine ev_rid ?_; simp (disch := first | omega | assumption) only [ev_run_c, ev_run_n, ev_fj, ev_stp, ev_lk, ev_fv, ev_as, ev_sz, ev_st1, ev_st2, ev_rm, ev_pk, ev_Jof, ev_go, lv_args, List.map_cons, List.map_nil, List.zip_cons_cons, List.zip_nil_left, List.zip_nil_right, List.nil_append, List.cons_append, ↓reduceIte, reduceCtorEq, Int.reduceToNat, Nat.reduceEqDiff, Nat.reduceAdd, Nat.reduceLT, Nat.reduceLeDiff, Nat.reduceMul, Nat.reduceSub, Value.category, false_implies, true_and, and_true, Bool.false_eq_true, Option.some.injEq, exists_eq_left', Option.toList_some, Option.toList_none, ev_km, ev_k2, ev_k3, ev_k4, ev_k5, ev_l0, ev_l1, sh_1, sh_2, sh_3, sh_4, sh_5, at_X11_readsLimit_31, ca_X11_118, ca_X11_149, ca_X11_153, ca_X11_162, cd_X11_readsLimit_0, cd_X11_readsLimit_31, fl_X11_62, ev_b_6, no_0, no_1, no_lt, no_le, no_eq, no_lt0, no_ge0, no_gt0, no_le0, no_eq0, no_0eq, no_eqm, no_meq, no_m0, no_mlt, no_mge, no_mgt, no_mm, no_i01, no_i10, no_in, no_or, no_ifm, no_mul, nI_add, no_sub, pk_div, iI_if, nI_clamp, oI_n, oI_s, not_true_eq_false, not_false_eq_true, forall_const, true_implies, false_and, and_false, or_false, false_or, Classical.not_not, true_or, or_true, no_b, no_eq1, eq_self, and_self, sk_301, sk_302, sl_302, sp_301, n0, w0, re_10, re_n, mw_re, f1, z1, p1, n1, w1, f2, y, rN_n z2, rP_n z2, rT_n z2, er_n z2, nx_n z2, nW_n z2])
        | (with_reducible refine ev_gid ?_; simp (disch := first | omega | assumption) only [ev_run_c, ev_run_n, ev_fj, ev_stp, ev_lk, ev_fv, ev_as, ev_sz, ev_st1, ev_st2, ev_rm, ev_pk, ev_Jof, ev_go, lv_args, List.map_cons, List.map_nil, List.zip_cons_cons, List.zip_nil_left, List.zip_nil_right, List.nil_append, List.cons_append, ↓reduceIte, reduceCtorEq, Int.reduceToNat, Nat.reduceEqDiff, Nat.reduceAdd, Nat.reduceLT, Nat.reduceLeDiff, Nat.reduceMul, Nat.reduceSub, Value.category, false_implies, true_and, and_true, Bool.false_eq_true, Option.some.injEq, exists_eq_left', Option.toList_some, Option.toList_none, ev_km, ev_k2, ev_k3, ev_k4, ev_k5, ev_l0, ev_l1, sh_1, sh_2, sh_3, sh_4, sh_5, at_X11_readsLimit_31, ca_X11_118, ca_X11_149, ca_X11_153, ca_X11_162, cd_X11_readsLimit_0, cd_X11_readsLimit_31, fl_X11_62, ev_b_6, no_0, no_1, no_lt, no_le, no_eq, no_lt0, no_ge0, no_gt0, no_le0, no_eq0, no_0eq, no_eqm, no_meq, no_m0, no_mlt, no_mge, no_mgt, no_mm, no_i01, no_i10, no_in, no_or, no_ifm, no_mul, nI_add, no_sub, pk_div, iI_if, nI_clamp, oI_n, oI_s, not_true_eq_false, not_false_eq_true, forall_const, true_implies, false_and, and_false, or_false, false_or, Classical.not_not, true_or, or_true, no_b, no_eq1, eq_self, and_self, sk_301, sk_302, sl_302, sp_301, n0, w0, re_10, re_n, mw_re, f1, z1, p1, n1, w1, f2, y, rN_n z2, rP_n z2, rT_n z2, er_n z2, nx_n z2, nW_n z2])
        | (with_reducible refine And.intro (fun q => ?_) (fun q => ?_) <;> (try simp (disch := first | omega | assumption) only [no_0, no_1, no_lt, no_le, no_eq, no_lt0, no_ge0, no_gt0, no_le0, no_eq0, no_0eq, no_eqm, no_meq, no_m0, no_mlt, no_mge, no_mgt, no_mm, no_i01, no_i10, no_in, no_or, no_ifm, no_mul, nI_add, no_sub, pk_div, iI_if, nI_clamp, oI_n, oI_s, not_true_eq_false, not_false_eq_true, forall_const, true_implies, false_and, and_false, or_false, false_or, Classical.not_not, true_or, or_true, no_b, no_eq1, eq_self, and_self, sk_301, sk_302, sl_302, sp_301, n0, w0, re_10, re_n, mw_re, f1, z1, p1, n1, w1, f2, y, rN_n z2, rP_n z2, rT_n z2, er_n z2, nx_n z2, nW_n z2] at q))
        | with_reducible refine ev_ci (m_go hok (by first | with_reducible assumption | exact RB_mw (by with_reducible assumption)) ?_) ?_
        | with_reducible refine ev_ci (m_readTaster hok (by with_reducible assumption) (by with_reducible assumption) (by with_reducible assumption) ?_) ?_
        | with_reducible refine ev_ci (m_readNumber hok (by with_reducible assumption) ?_ (by with_reducible assumption) ?_ ?_) ?_
        | with_reducible refine ev_ci (m_X11_puts hok (by first | exact MR_re (by with_reducible assumption) | exact MR_re mw_R) ?_ ?_) ?_
        | omega
        | with_reducible assumption
        | with_reducible rfl
        | with_reducible refine lp_nx ?_ ?_ ?_ ?_
        | with_reducible refine lp_st ?_ ?_ ?_
        | with_reducible refine ls_c ?_ ?_
        | with_reducible refine vi_c ?_
        | with_reducible refine re_c ?_
        | with_reducible refine vz_c ?_
        | with_reducible refine rz_c ?_
        | exact trivial
        | with_reducible refine And.intro ?_ ?_
        | simp (disch := first | omega | assumption) only [ev_run_c, ev_run_n, ev_fj, ev_stp, ev_lk, ev_fv, ev_as, ev_sz, ev_st1, ev_st2, ev_rm, ev_pk, ev_Jof, ev_go, lv_args, List.map_cons, List.map_nil, List.zip_cons_cons, List.zip_nil_left, List.zip_nil_right, List.nil_append, List.cons_append, ↓reduceIte, reduceCtorEq, Int.reduceToNat, Nat.reduceEqDiff, Nat.reduceAdd, Nat.reduceLT, Nat.reduceLeDiff, Nat.reduceMul, Nat.reduceSub, Value.category, false_implies, true_and, and_true, Bool.false_eq_true, Option.some.injEq, exists_eq_left', Option.toList_some, Option.toList_none, ev_km, ev_k2, ev_k3, ev_k4, ev_k5, ev_l0, ev_l1, sh_1, sh_2, sh_3, sh_4, sh_5, at_X11_readsLimit_31, ca_X11_118, ca_X11_149, ca_X11_153, ca_X11_162, cd_X11_readsLimit_0, cd_X11_readsLimit_31, fl_X11_62, ev_b_6, no_0, no_1, no_lt, no_le, no_eq, no_lt0, no_ge0, no_gt0, no_le0, no_eq0, no_0eq, no_eqm, no_meq, no_m0, no_mlt, no_mge, no_mgt, no_mm, no_i01, no_i10, no_in, no_or, no_ifm, no_mul, nI_add, no_sub, pk_div, iI_if, nI_clamp, oI_n, oI_s, not_true_eq_false, not_false_eq_true, forall_const, true_implies, false_and, and_false, or_false, false_or, Classical.not_not, true_or, or_true, no_b, no_eq1, eq_self, and_self, sk_301, sk_302, sl_302, sp_301, n0, w0, re_10, re_n, mw_re, f1, z1, p1, n1, w1, f2, y, rN_n z2, rP_n z2, rT_n z2, er_n z2, nx_n z2, nW_n z2]
        | exact rfl
        | (split <;> omega))
    · have z2 : e2.1 = 0 := Classical.byContradiction z2
      have g2 := z2
      rw [← f2] at g2
      have s2 := nmc_0 (rN_0 g2).2.1
      have n2 : nx e2 (a + 1 + 1) = a + 1 + 1 + 1 := nx_0 z2
      have hv3 := NV_nx (B := B) (n := n) (e := e2) (a := a + 1 + 1) hv2
      rw [n2] at hv3
      generalize w2 : nW B n e2 (a + 1 + 1) v2 = v3 at hv3
      refine ⟨a + 1 + 1 + 1, v3, mw μ (up N (8 + 59 * (pv B n N (a + 1)) + 1) (tvl B n (a + 1 + 1))), ?_, Fw_mw, hv3, fun _ => ⟨rfl, mw_R⟩⟩
      refine ev_tri hok (okM_X11_readsLimit 0) (Nat.le_of_ble_eq_true rfl) 400 ?_
      rw [at_X11_readsLimit_0]
      repeat' (first
        | (with_reducible refine ev_rid ?_; simp (disch := first | omega | assumption) only [ev_run_c, ev_run_n, ev_fj, ev_stp, ev_lk, ev_fv, ev_as, ev_sz, ev_st1, ev_st2, ev_rm, ev_pk, ev_Jof, ev_go, lv_args, List.map_cons, List.map_nil, List.zip_cons_cons, List.zip_nil_left, List.zip_nil_right, List.nil_append, List.cons_append, ↓reduceIte, reduceCtorEq, Int.reduceToNat, Nat.reduceEqDiff, Nat.reduceAdd, Nat.reduceLT, Nat.reduceLeDiff, Nat.reduceMul, Nat.reduceSub, Value.category, false_implies, true_and, and_true, Bool.false_eq_true, Option.some.injEq, exists_eq_left', Option.toList_some, Option.toList_none, ev_km, ev_k2, ev_k3, ev_k4, ev_k5, ev_l0, ev_l1, sh_1, sh_2, sh_3, sh_4, sh_5, at_X11_readsLimit_31, ca_X11_118, ca_X11_149, ca_X11_153, ca_X11_162, cd_X11_readsLimit_0, cd_X11_readsLimit_31, fl_X11_62, ev_b_6, no_0, no_1, no_lt, no_le, no_eq, no_lt0, no_ge0, no_gt0, no_le0, no_eq0, no_0eq, no_eqm, no_meq, no_m0, no_mlt, no_mge, no_mgt, no_mm, no_i01, no_i10, no_in, no_or, no_ifm, no_mul, nI_add, no_sub, pk_div, iI_if, nI_clamp, oI_n, oI_s, not_true_eq_false, not_false_eq_true, forall_const, true_implies, false_and, and_false, or_false, false_or, Classical.not_not, true_or, or_true, no_b, no_eq1, eq_self, and_self, sk_301, sk_302, sl_302, sp_301, n0, w0, re_10, re_n, mw_re, mw_mw, f1, z1, p1, n1, w1, f2, z2, n2, w2])
        | (with_reducible refine ev_gid ?_; simp (disch := first | omega | assumption) only [ev_run_c, ev_run_n, ev_fj, ev_stp, ev_lk, ev_fv, ev_as, ev_sz, ev_st1, ev_st2, ev_rm, ev_pk, ev_Jof, ev_go, lv_args, List.map_cons, List.map_nil, List.zip_cons_cons, List.zip_nil_left, List.zip_nil_right, List.nil_append, List.cons_append, ↓reduceIte, reduceCtorEq, Int.reduceToNat, Nat.reduceEqDiff, Nat.reduceAdd, Nat.reduceLT, Nat.reduceLeDiff, Nat.reduceMul, Nat.reduceSub, Value.category, false_implies, true_and, and_true, Bool.false_eq_true, Option.some.injEq, exists_eq_left', Option.toList_some, Option.toList_none, ev_km, ev_k2, ev_k3, ev_k4, ev_k5, ev_l0, ev_l1, sh_1, sh_2, sh_3, sh_4, sh_5, at_X11_readsLimit_31, ca_X11_118, ca_X11_149, ca_X11_153, ca_X11_162, cd_X11_readsLimit_0, cd_X11_readsLimit_31, fl_X11_62, ev_b_6, no_0, no_1, no_lt, no_le, no_eq, no_lt0, no_ge0, no_gt0, no_le0, no_eq0, no_0eq, no_eqm, no_meq, no_m0, no_mlt, no_mge, no_mgt, no_mm, no_i01, no_i10, no_in, no_or, no_ifm, no_mul, nI_add, no_sub, pk_div, iI_if, nI_clamp, oI_n, oI_s, not_true_eq_false, not_false_eq_true, forall_const, true_implies, false_and, and_false, or_false, false_or, Classical.not_not, true_or, or_true, no_b, no_eq1, eq_self, and_self, sk_301, sk_302, sl_302, sp_301, n0, w0, re_10, re_n, mw_re, mw_mw, f1, z1, p1, n1, w1, f2, z2, n2, w2])
        | (with_reducible refine And.intro (fun q => ?_) (fun q => ?_) <;> (try simp (disch := first | omega | assumption) only [no_0, no_1, no_lt, no_le, no_eq, no_lt0, no_ge0, no_gt0, no_le0, no_eq0, no_0eq, no_eqm, no_meq, no_m0, no_mlt, no_mge, no_mgt, no_mm, no_i01, no_i10, no_in, no_or, no_ifm, no_mul, nI_add, no_sub, pk_div, iI_if, nI_clamp, oI_n, oI_s, not_true_eq_false, not_false_eq_true, forall_const, true_implies, false_and, and_false, or_false, false_or, Classical.not_not, true_or, or_true, no_b, no_eq1, eq_self, and_self, sk_301, sk_302, sl_302, sp_301, n0, w0, re_10, re_n, mw_re, mw_mw, f1, z1, p1, n1, w1, f2, z2, n2, w2] at q))
        | with_reducible refine ev_ci (m_go hok (by first | with_reducible assumption | exact RB_mw (by with_reducible assumption)) ?_) ?_
        | with_reducible refine ev_ci (m_readTaster hok (by with_reducible assumption) (by with_reducible assumption) (by with_reducible assumption) ?_) ?_
        | with_reducible refine ev_ci (m_readNumber hok (by with_reducible assumption) ?_ (by with_reducible assumption) ?_ ?_) ?_
        | with_reducible refine ev_ci (m_X11_puts hok (by first | exact MR_re (by with_reducible assumption) | exact MR_re mw_R) ?_ ?_) ?_
        | omega
        | with_reducible assumption
        | with_reducible rfl
        | with_reducible refine lp_nx ?_ ?_ ?_ ?_
        | with_reducible refine lp_st ?_ ?_ ?_
        | with_reducible refine ls_c ?_ ?_
        | with_reducible refine vi_c ?_
        | with_reducible refine re_c ?_
        | with_reducible refine vz_c ?_
        | with_reducible refine rz_c ?_
        | exact trivial
        | with_reducible refine And.intro ?_ ?_
        | simp (disch := first | omega | assumption) only [ev_run_c, ev_run_n, ev_fj, ev_stp, ev_lk, ev_fv, ev_as, ev_sz, ev_st1, ev_st2, ev_rm, ev_pk, ev_Jof, ev_go, lv_args, List.map_cons, List.map_nil, List.zip_cons_cons, List.zip_nil_left, List.zip_nil_right, List.nil_append, List.cons_append, ↓reduceIte, reduceCtorEq, Int.reduceToNat, Nat.reduceEqDiff, Nat.reduceAdd, Nat.reduceLT, Nat.reduceLeDiff, Nat.reduceMul, Nat.reduceSub, Value.category, false_implies, true_and, and_true, Bool.false_eq_true, Option.some.injEq, exists_eq_left', Option.toList_some, Option.toList_none, ev_km, ev_k2, ev_k3, ev_k4, ev_k5, ev_l0, ev_l1, sh_1, sh_2, sh_3, sh_4, sh_5, at_X11_readsLimit_31, ca_X11_118, ca_X11_149, ca_X11_153, ca_X11_162, cd_X11_readsLimit_0, cd_X11_readsLimit_31, fl_X11_62, ev_b_6, no_0, no_1, no_lt, no_le, no_eq, no_lt0, no_ge0, no_gt0, no_le0, no_eq0, no_0eq, no_eqm, no_meq, no_m0, no_mlt, no_mge, no_mgt, no_mm, no_i01, no_i10, no_in, no_or, no_ifm, no_mul, nI_add, no_sub, pk_div, iI_if, nI_clamp, oI_n, oI_s, not_true_eq_false, not_false_eq_true, forall_const, true_implies, false_and, and_false, or_false, false_or, Classical.not_not, true_or, or_true, no_b, no_eq1, eq_self, and_self, sk_301, sk_302, sl_302, sp_301, n0, w0, re_10, re_n, mw_re, mw_mw, f1, z1, p1, n1, w1, f2, z2, n2, w2]
        | exact rfl
        | (split <;> omega))
set_option maxHeartbeats 2000000 in
theorem rx_kitchen (hok : ev_ok sh_S G) (hR : RB B n μ) (hN : MR N μ) (hI : INV N) {a : Nat} {v : Int32} (hv : NV B n a v) : RX G B n mi_X11_readsKitchen a v μ (q_kitchen B n N (a + 1)) (nI9 B n N a 13) (aI9 B n N a 13) := by
  have hh := iv_h hI
  have hN1 : N 1 ≤ 10 := hh.2.1
  have n0 : nx (0, -1) a = a + 1 := rfl
  have hv1 := NV_nx (B := B) (n := n) (e := (0, -1)) (a := a) hv
  rw [n0] at hv1
  generalize w0 : nW B n (0, -1) a v = v1 at hv1
  obtain ⟨e1, f1⟩ : ∃ e, rP B n N (0, -1) (a + 1) = e := ⟨_, rfl⟩
  have c1 : e1.1 < 5 := by rw [← f1]; exact rP_c (by decide)
  have hq : q_kitchen B n N (a + 1) = rN B n e1 (a + 1 + 1) 0 10 := by rw [← f1]; rfl
  rw [hq]
  by_cases z1 : ¬ e1.1 = 0
  · have y : (e1.1 = 0) = False := eq_false z1
    try simp only [rN_n z1, rP_n z1, er_n z1]
    refine ⟨a + 1, v1, μ, ?_, Fw_rf, hv1, fun q => absurd q z1⟩
    refine ev_tri hok (okM_X11_readsKitchen 0) (Nat.le_of_ble_eq_true rfl) 400 ?_
    rw [at_X11_readsKitchen_0]
    repeat' (first
      | (with_reducible refine ev_rid ?_; simp (disch := first | omega | assumption) only [ev_run_c, ev_run_n, ev_fj, ev_stp, ev_lk, ev_fv, ev_as, ev_sz, ev_st1, ev_st2, ev_rm, ev_pk, ev_Jof, ev_go, lv_args, List.map_cons, List.map_nil, List.zip_cons_cons, List.zip_nil_left, List.zip_nil_right, List.nil_append, List.cons_append, ↓reduceIte, reduceCtorEq, Int.reduceToNat, Nat.reduceEqDiff, Nat.reduceAdd, Nat.reduceLT, Nat.reduceLeDiff, Nat.reduceMul, Nat.reduceSub, Value.category, false_implies, true_and, and_true, Bool.false_eq_true, Option.some.injEq, exists_eq_left', Option.toList_some, Option.toList_none, ev_km, ev_k2, ev_k3, ev_k4, ev_k5, ev_l0, ev_l1, sh_1, sh_2, sh_3, sh_4, sh_5, at_X11_readsKitchen_31, ca_X11_118, ca_X11_149, ca_X11_153, ca_X11_168, cd_X11_readsKitchen_0, cd_X11_readsKitchen_31, fl_X11_62, ev_b_9, no_0, no_1, no_lt, no_le, no_eq, no_lt0, no_ge0, no_gt0, no_le0, no_eq0, no_0eq, no_eqm, no_meq, no_m0, no_mlt, no_mge, no_mgt, no_mm, no_i01, no_i10, no_in, no_or, no_ifm, no_mul, nI_add, no_sub, pk_div, iI_if, nI_clamp, oI_n, oI_s, not_true_eq_false, not_false_eq_true, forall_const, true_implies, false_and, and_false, or_false, false_or, Classical.not_not, true_or, or_true, no_b, no_eq1, eq_self, and_self, sk_301, sk_302, sl_302, sp_301, n0, w0, re_10, re_n, mw_re, f1, y, rN_n z1, rP_n z1, rT_n z1, er_n z1, nx_n z1, nW_n z1])
      | (with_reducible refine ev_gid ?_; simp (disch := first | omega | assumption) only [ev_run_c, ev_run_n, ev_fj, ev_stp, ev_lk, ev_fv, ev_as, ev_sz, ev_st1, ev_st2, ev_rm, ev_pk, ev_Jof, ev_go, lv_args, List.map_cons, List.map_nil, List.zip_cons_cons, List.zip_nil_left, List.zip_nil_right, List.nil_append, List.cons_append, ↓reduceIte, reduceCtorEq, Int.reduceToNat, Nat.reduceEqDiff, Nat.reduceAdd, Nat.reduceLT, Nat.reduceLeDiff, Nat.reduceMul, Nat.reduceSub, Value.category, false_implies, true_and, and_true, Bool.false_eq_true, Option.some.injEq, exists_eq_left', Option.toList_some, Option.toList_none, ev_km, ev_k2, ev_k3, ev_k4, ev_k5, ev_l0, ev_l1, sh_1, sh_2, sh_3, sh_4, sh_5, at_X11_readsKitchen_31, ca_X11_118, ca_X11_149, ca_X11_153, ca_X11_168, cd_X11_readsKitchen_0, cd_X11_readsKitchen_31, fl_X11_62, ev_b_9, no_0, no_1, no_lt, no_le, no_eq, no_lt0, no_ge0, no_gt0, no_le0, no_eq0, no_0eq, no_eqm, no_meq, no_m0, no_mlt, no_mge, no_mgt, no_mm, no_i01, no_i10, no_in, no_or, no_ifm, no_mul, nI_add, no_sub, pk_div, iI_if, nI_clamp, oI_n, oI_s, not_true_eq_false, not_false_eq_true, forall_const, true_implies, false_and, and_false, or_false, false_or, Classical.not_not, true_or, or_true, no_b, no_eq1, eq_self, and_self, sk_301, sk_302, sl_302, sp_301, n0, w0, re_10, re_n, mw_re, f1, y, rN_n z1, rP_n z1, rT_n z1, er_n z1, nx_n z1, nW_n z1])
      | (with_reducible refine And.intro (fun q => ?_) (fun q => ?_) <;> (try simp (disch := first | omega | assumption) only [no_0, no_1, no_lt, no_le, no_eq, no_lt0, no_ge0, no_gt0, no_le0, no_eq0, no_0eq, no_eqm, no_meq, no_m0, no_mlt, no_mge, no_mgt, no_mm, no_i01, no_i10, no_in, no_or, no_ifm, no_mul, nI_add, no_sub, pk_div, iI_if, nI_clamp, oI_n, oI_s, not_true_eq_false, not_false_eq_true, forall_const, true_implies, false_and, and_false, or_false, false_or, Classical.not_not, true_or, or_true, no_b, no_eq1, eq_self, and_self, sk_301, sk_302, sl_302, sp_301, n0, w0, re_10, re_n, mw_re, f1, y, rN_n z1, rP_n z1, rT_n z1, er_n z1, nx_n z1, nW_n z1] at q))
      | with_reducible refine ev_ci (m_go hok (by first | with_reducible assumption | exact RB_mw (by with_reducible assumption)) ?_) ?_
      | with_reducible refine ev_ci (m_readPerson hok (by with_reducible assumption) (by with_reducible assumption) (by with_reducible assumption) ?_) ?_
      | with_reducible refine ev_ci (m_readNumber hok (by with_reducible assumption) ?_ (by with_reducible assumption) ?_ ?_) ?_
      | with_reducible refine ev_ci (m_X11_puts hok (by first | exact MR_re (by with_reducible assumption) | exact MR_re mw_R) ?_ ?_) ?_
      | omega
      | with_reducible assumption
      | with_reducible rfl
      | with_reducible refine lp_nx ?_ ?_ ?_ ?_
      | with_reducible refine lp_st ?_ ?_ ?_
      | with_reducible refine ls_c ?_ ?_
      | with_reducible refine vi_c ?_
      | with_reducible refine re_c ?_
      | with_reducible refine vz_c ?_
      | with_reducible refine rz_c ?_
      | exact trivial
      | with_reducible refine And.intro ?_ ?_
      | simp (disch := first | omega | assumption) only [ev_run_c, ev_run_n, ev_fj, ev_stp, ev_lk, ev_fv, ev_as, ev_sz, ev_st1, ev_st2, ev_rm, ev_pk, ev_Jof, ev_go, lv_args, List.map_cons, List.map_nil, List.zip_cons_cons, List.zip_nil_left, List.zip_nil_right, List.nil_append, List.cons_append, ↓reduceIte, reduceCtorEq, Int.reduceToNat, Nat.reduceEqDiff, Nat.reduceAdd, Nat.reduceLT, Nat.reduceLeDiff, Nat.reduceMul, Nat.reduceSub, Value.category, false_implies, true_and, and_true, Bool.false_eq_true, Option.some.injEq, exists_eq_left', Option.toList_some, Option.toList_none, ev_km, ev_k2, ev_k3, ev_k4, ev_k5, ev_l0, ev_l1, sh_1, sh_2, sh_3, sh_4, sh_5, at_X11_readsKitchen_31, ca_X11_118, ca_X11_149, ca_X11_153, ca_X11_168, cd_X11_readsKitchen_0, cd_X11_readsKitchen_31, fl_X11_62, ev_b_9, no_0, no_1, no_lt, no_le, no_eq, no_lt0, no_ge0, no_gt0, no_le0, no_eq0, no_0eq, no_eqm, no_meq, no_m0, no_mlt, no_mge, no_mgt, no_mm, no_i01, no_i10, no_in, no_or, no_ifm, no_mul, nI_add, no_sub, pk_div, iI_if, nI_clamp, oI_n, oI_s, not_true_eq_false, not_false_eq_true, forall_const, true_implies, false_and, and_false, or_false, false_or, Classical.not_not, true_or, or_true, no_b, no_eq1, eq_self, and_self, sk_301, sk_302, sl_302, sp_301, n0, w0, re_10, re_n, mw_re, f1, y, rN_n z1, rP_n z1, rT_n z1, er_n z1, nx_n z1, nW_n z1]
      | exact rfl
      | (split <;> omega))
  · have z1 : e1.1 = 0 := Classical.byContradiction z1
    have g1 := z1
    rw [← f1] at g1
    have s1 := rP_0 g1
    have p1 := pz_0 g1
    have b1 : pv B n N (a + 1) < 16 := by omega
    have n1 : nx e1 (a + 1) = a + 1 + 1 := nx_0 z1
    have hv2 := NV_nx (B := B) (n := n) (e := e1) (a := a + 1) hv1
    rw [n1] at hv2
    generalize w1 : nW B n e1 (a + 1) v1 = v2 at hv2
    obtain ⟨e2, f2⟩ : ∃ e, rN B n e1 (a + 1 + 1) 0 10 = e := ⟨_, rfl⟩
    have c2 : e2.1 < 5 := by rw [← f2]; exact rN_c c1
    rw [f2]
    by_cases z2 : ¬ e2.1 = 0
    · have y : (e2.1 = 0) = False := eq_false z2
      try simp only [rN_n z2, rP_n z2, er_n z2]
      refine ⟨a + 1 + 1, v2, μ, ?_, Fw_rf, hv2, fun q => absurd q z2⟩
      refine ev_tri hok (okM_X11_readsKitchen 0) (Nat.le_of_ble_eq_true rfl) 400 ?_
      rw [at_X11_readsKitchen_0]
      repeat' (first
        | (with_reducible refine ev_rid ?_; simp (disch := first | omega | assumption) only [ev_run_c, ev_run_n, ev_fj, ev_stp, ev_lk, ev_fv, ev_as, ev_sz, ev_st1, ev_st2, ev_rm, ev_pk, ev_Jof, ev_go, lv_args, List.map_cons, List.map_nil, List.zip_cons_cons, List.zip_nil_left, List.zip_nil_right, List.nil_append, List.cons_append, ↓reduceIte, reduceCtorEq, Int.reduceToNat, Nat.reduceEqDiff, Nat.reduceAdd, Nat.reduceLT, Nat.reduceLeDiff, Nat.reduceMul, Nat.reduceSub, Value.category, false_implies, true_and, and_true, Bool.false_eq_true, Option.some.injEq, exists_eq_left', Option.toList_some, Option.toList_none, ev_km, ev_k2, ev_k3, ev_k4, ev_k5, ev_l0, ev_l1, sh_1, sh_2, sh_3, sh_4, sh_5, at_X11_readsKitchen_31, ca_X11_118, ca_X11_149, ca_X11_153, ca_X11_168, cd_X11_readsKitchen_0, cd_X11_readsKitchen_31, fl_X11_62, ev_b_9, no_0, no_1, no_lt, no_le, no_eq, no_lt0, no_ge0, no_gt0, no_le0, no_eq0, no_0eq, no_eqm, no_meq, no_m0, no_mlt, no_mge, no_mgt, no_mm, no_i01, no_i10, no_in, no_or, no_ifm, no_mul, nI_add, no_sub, pk_div, iI_if, nI_clamp, oI_n, oI_s, not_true_eq_false, not_false_eq_true, forall_const, true_implies, false_and, and_false, or_false, false_or, Classical.not_not, true_or, or_true, no_b, no_eq1, eq_self, and_self, sk_301, sk_302, sl_302, sp_301, n0, w0, re_10, re_n, mw_re, f1, z1, p1, n1, w1, f2, y, rN_n z2, rP_n z2, rT_n z2, er_n z2, nx_n z2, nW_n z2])
        | (with_reducible refine ev_gid ?_; simp (disch := first | omega | assumption) only [ev_run_c, ev_run_n, ev_fj, ev_stp, ev_lk, ev_fv, ev_as, ev_sz, ev_st1, ev_st2, ev_rm, ev_pk, ev_Jof, ev_go, lv_args, List.map_cons, List.map_nil, List.zip_cons_cons, List.zip_nil_left, List.zip_nil_right, List.nil_append, List.cons_append, ↓reduceIte, reduceCtorEq, Int.reduceToNat, Nat.reduceEqDiff, Nat.reduceAdd, Nat.reduceLT, Nat.reduceLeDiff, Nat.reduceMul, Nat.reduceSub, Value.category, false_implies, true_and, and_true, Bool.false_eq_true, Option.some.injEq, exists_eq_left', Option.toList_some, Option.toList_none, ev_km, ev_k2, ev_k3, ev_k4, ev_k5, ev_l0, ev_l1, sh_1, sh_2, sh_3, sh_4, sh_5, at_X11_readsKitchen_31, ca_X11_118, ca_X11_149, ca_X11_153, ca_X11_168, cd_X11_readsKitchen_0, cd_X11_readsKitchen_31, fl_X11_62, ev_b_9, no_0, no_1, no_lt, no_le, no_eq, no_lt0, no_ge0, no_gt0, no_le0, no_eq0, no_0eq, no_eqm, no_meq, no_m0, no_mlt, no_mge, no_mgt, no_mm, no_i01, no_i10, no_in, no_or, no_ifm, no_mul, nI_add, no_sub, pk_div, iI_if, nI_clamp, oI_n, oI_s, not_true_eq_false, not_false_eq_true, forall_const, true_implies, false_and, and_false, or_false, false_or, Classical.not_not, true_or, or_true, no_b, no_eq1, eq_self, and_self, sk_301, sk_302, sl_302, sp_301, n0, w0, re_10, re_n, mw_re, f1, z1, p1, n1, w1, f2, y, rN_n z2, rP_n z2, rT_n z2, er_n z2, nx_n z2, nW_n z2])
        | (with_reducible refine And.intro (fun q => ?_) (fun q => ?_) <;> (try simp (disch := first | omega | assumption) only [no_0, no_1, no_lt, no_le, no_eq, no_lt0, no_ge0, no_gt0, no_le0, no_eq0, no_0eq, no_eqm, no_meq, no_m0, no_mlt, no_mge, no_mgt, no_mm, no_i01, no_i10, no_in, no_or, no_ifm, no_mul, nI_add, no_sub, pk_div, iI_if, nI_clamp, oI_n, oI_s, not_true_eq_false, not_false_eq_true, forall_const, true_implies, false_and, and_false, or_false, false_or, Classical.not_not, true_or, or_true, no_b, no_eq1, eq_self, and_self, sk_301, sk_302, sl_302, sp_301, n0, w0, re_10, re_n, mw_re, f1, z1, p1, n1, w1, f2, y, rN_n z2, rP_n z2, rT_n z2, er_n z2, nx_n z2, nW_n z2] at q))
        | with_reducible refine ev_ci (m_go hok (by first | with_reducible assumption | exact RB_mw (by with_reducible assumption)) ?_) ?_
        | with_reducible refine ev_ci (m_readPerson hok (by with_reducible assumption) (by with_reducible assumption) (by with_reducible assumption) ?_) ?_
        | with_reducible refine ev_ci (m_readNumber hok (by with_reducible assumption) ?_ (by with_reducible assumption) ?_ ?_) ?_
        | with_reducible refine ev_ci (m_X11_puts hok (by first | exact MR_re (by with_reducible assumption) | exact MR_re mw_R) ?_ ?_) ?_
        | omega
        | with_reducible assumption
        | with_reducible rfl
        | with_reducible refine lp_nx ?_ ?_ ?_ ?_
        | with_reducible refine lp_st ?_ ?_ ?_
        | with_reducible refine ls_c ?_ ?_
        | with_reducible refine vi_c ?_
        | with_reducible refine re_c ?_
        | with_reducible refine vz_c ?_
        | with_reducible refine rz_c ?_
        | exact trivial
        | with_reducible refine And.intro ?_ ?_
        | simp (disch := first | omega | assumption) only [ev_run_c, ev_run_n, ev_fj, ev_stp, ev_lk, ev_fv, ev_as, ev_sz, ev_st1, ev_st2, ev_rm, ev_pk, ev_Jof, ev_go, lv_args, List.map_cons, List.map_nil, List.zip_cons_cons, List.zip_nil_left, List.zip_nil_right, List.nil_append, List.cons_append, ↓reduceIte, reduceCtorEq, Int.reduceToNat, Nat.reduceEqDiff, Nat.reduceAdd, Nat.reduceLT, Nat.reduceLeDiff, Nat.reduceMul, Nat.reduceSub, Value.category, false_implies, true_and, and_true, Bool.false_eq_true, Option.some.injEq, exists_eq_left', Option.toList_some, Option.toList_none, ev_km, ev_k2, ev_k3, ev_k4, ev_k5, ev_l0, ev_l1, sh_1, sh_2, sh_3, sh_4, sh_5, at_X11_readsKitchen_31, ca_X11_118, ca_X11_149, ca_X11_153, ca_X11_168, cd_X11_readsKitchen_0, cd_X11_readsKitchen_31, fl_X11_62, ev_b_9, no_0, no_1, no_lt, no_le, no_eq, no_lt0, no_ge0, no_gt0, no_le0, no_eq0, no_0eq, no_eqm, no_meq, no_m0, no_mlt, no_mge, no_mgt, no_mm, no_i01, no_i10, no_in, no_or, no_ifm, no_mul, nI_add, no_sub, pk_div, iI_if, nI_clamp, oI_n, oI_s, not_true_eq_false, not_false_eq_true, forall_const, true_implies, false_and, and_false, or_false, false_or, Classical.not_not, true_or, or_true, no_b, no_eq1, eq_self, and_self, sk_301, sk_302, sl_302, sp_301, n0, w0, re_10, re_n, mw_re, f1, z1, p1, n1, w1, f2, y, rN_n z2, rP_n z2, rT_n z2, er_n z2, nx_n z2, nW_n z2]
        | exact rfl
        | (split <;> omega))
    · have z2 : e2.1 = 0 := Classical.byContradiction z2
      have g2 := z2
      rw [← f2] at g2
      have s2 := nmc_0 (rN_0 g2).2.1
      have n2 : nx e2 (a + 1 + 1) = a + 1 + 1 + 1 := nx_0 z2
      have hv3 := NV_nx (B := B) (n := n) (e := e2) (a := a + 1 + 1) hv2
      rw [n2] at hv3
      generalize w2 : nW B n e2 (a + 1 + 1) v2 = v3 at hv3
      refine ⟨a + 1 + 1 + 1, v3, mw μ (up N (8 + 59 * (pv B n N (a + 1)) + 0) (tvl B n (a + 1 + 1))), ?_, Fw_mw, hv3, fun _ => ⟨rfl, mw_R⟩⟩
      refine ev_tri hok (okM_X11_readsKitchen 0) (Nat.le_of_ble_eq_true rfl) 400 ?_
      rw [at_X11_readsKitchen_0]
      repeat' (first
        | (with_reducible refine ev_rid ?_; simp (disch := first | omega | assumption) only [ev_run_c, ev_run_n, ev_fj, ev_stp, ev_lk, ev_fv, ev_as, ev_sz, ev_st1, ev_st2, ev_rm, ev_pk, ev_Jof, ev_go, lv_args, List.map_cons, List.map_nil, List.zip_cons_cons, List.zip_nil_left, List.zip_nil_right, List.nil_append, List.cons_append, ↓reduceIte, reduceCtorEq, Int.reduceToNat, Nat.reduceEqDiff, Nat.reduceAdd, Nat.reduceLT, Nat.reduceLeDiff, Nat.reduceMul, Nat.reduceSub, Value.category, false_implies, true_and, and_true, Bool.false_eq_true, Option.some.injEq, exists_eq_left', Option.toList_some, Option.toList_none, ev_km, ev_k2, ev_k3, ev_k4, ev_k5, ev_l0, ev_l1, sh_1, sh_2, sh_3, sh_4, sh_5, at_X11_readsKitchen_31, ca_X11_118, ca_X11_149, ca_X11_153, ca_X11_168, cd_X11_readsKitchen_0, cd_X11_readsKitchen_31, fl_X11_62, ev_b_9, no_0, no_1, no_lt, no_le, no_eq, no_lt0, no_ge0, no_gt0, no_le0, no_eq0, no_0eq, no_eqm, no_meq, no_m0, no_mlt, no_mge, no_mgt, no_mm, no_i01, no_i10, no_in, no_or, no_ifm, no_mul, nI_add, no_sub, pk_div, iI_if, nI_clamp, oI_n, oI_s, not_true_eq_false, not_false_eq_true, forall_const, true_implies, false_and, and_false, or_false, false_or, Classical.not_not, true_or, or_true, no_b, no_eq1, eq_self, and_self, sk_301, sk_302, sl_302, sp_301, n0, w0, re_10, re_n, mw_re, mw_mw, f1, z1, p1, n1, w1, f2, z2, n2, w2])
        | (with_reducible refine ev_gid ?_; simp (disch := first | omega | assumption) only [ev_run_c, ev_run_n, ev_fj, ev_stp, ev_lk, ev_fv, ev_as, ev_sz, ev_st1, ev_st2, ev_rm, ev_pk, ev_Jof, ev_go, lv_args, List.map_cons, List.map_nil, List.zip_cons_cons, List.zip_nil_left, List.zip_nil_right, List.nil_append, List.cons_append, ↓reduceIte, reduceCtorEq, Int.reduceToNat, Nat.reduceEqDiff, Nat.reduceAdd, Nat.reduceLT, Nat.reduceLeDiff, Nat.reduceMul, Nat.reduceSub, Value.category, false_implies, true_and, and_true, Bool.false_eq_true, Option.some.injEq, exists_eq_left', Option.toList_some, Option.toList_none, ev_km, ev_k2, ev_k3, ev_k4, ev_k5, ev_l0, ev_l1, sh_1, sh_2, sh_3, sh_4, sh_5, at_X11_readsKitchen_31, ca_X11_118, ca_X11_149, ca_X11_153, ca_X11_168, cd_X11_readsKitchen_0, cd_X11_readsKitchen_31, fl_X11_62, ev_b_9, no_0, no_1, no_lt, no_le, no_eq, no_lt0, no_ge0, no_gt0, no_le0, no_eq0, no_0eq, no_eqm, no_meq, no_m0, no_mlt, no_mge, no_mgt, no_mm, no_i01, no_i10, no_in, no_or, no_ifm, no_mul, nI_add, no_sub, pk_div, iI_if, nI_clamp, oI_n, oI_s, not_true_eq_false, not_false_eq_true, forall_const, true_implies, false_and, and_false, or_false, false_or, Classical.not_not, true_or, or_true, no_b, no_eq1, eq_self, and_self, sk_301, sk_302, sl_302, sp_301, n0, w0, re_10, re_n, mw_re, mw_mw, f1, z1, p1, n1, w1, f2, z2, n2, w2])
        | (with_reducible refine And.intro (fun q => ?_) (fun q => ?_) <;> (try simp (disch := first | omega | assumption) only [no_0, no_1, no_lt, no_le, no_eq, no_lt0, no_ge0, no_gt0, no_le0, no_eq0, no_0eq, no_eqm, no_meq, no_m0, no_mlt, no_mge, no_mgt, no_mm, no_i01, no_i10, no_in, no_or, no_ifm, no_mul, nI_add, no_sub, pk_div, iI_if, nI_clamp, oI_n, oI_s, not_true_eq_false, not_false_eq_true, forall_const, true_implies, false_and, and_false, or_false, false_or, Classical.not_not, true_or, or_true, no_b, no_eq1, eq_self, and_self, sk_301, sk_302, sl_302, sp_301, n0, w0, re_10, re_n, mw_re, mw_mw, f1, z1, p1, n1, w1, f2, z2, n2, w2] at q))
        | with_reducible refine ev_ci (m_go hok (by first | with_reducible assumption | exact RB_mw (by with_reducible assumption)) ?_) ?_
        | with_reducible refine ev_ci (m_readPerson hok (by with_reducible assumption) (by with_reducible assumption) (by with_reducible assumption) ?_) ?_
        | with_reducible refine ev_ci (m_readNumber hok (by with_reducible assumption) ?_ (by with_reducible assumption) ?_ ?_) ?_
        | with_reducible refine ev_ci (m_X11_puts hok (by first | exact MR_re (by with_reducible assumption) | exact MR_re mw_R) ?_ ?_) ?_
        | omega
        | with_reducible assumption
        | with_reducible rfl
        | with_reducible refine lp_nx ?_ ?_ ?_ ?_
        | with_reducible refine lp_st ?_ ?_ ?_
        | with_reducible refine ls_c ?_ ?_
        | with_reducible refine vi_c ?_
        | with_reducible refine re_c ?_
        | with_reducible refine vz_c ?_
        | with_reducible refine rz_c ?_
        | exact trivial
        | with_reducible refine And.intro ?_ ?_
        | simp (disch := first | omega | assumption) only [ev_run_c, ev_run_n, ev_fj, ev_stp, ev_lk, ev_fv, ev_as, ev_sz, ev_st1, ev_st2, ev_rm, ev_pk, ev_Jof, ev_go, lv_args, List.map_cons, List.map_nil, List.zip_cons_cons, List.zip_nil_left, List.zip_nil_right, List.nil_append, List.cons_append, ↓reduceIte, reduceCtorEq, Int.reduceToNat, Nat.reduceEqDiff, Nat.reduceAdd, Nat.reduceLT, Nat.reduceLeDiff, Nat.reduceMul, Nat.reduceSub, Value.category, false_implies, true_and, and_true, Bool.false_eq_true, Option.some.injEq, exists_eq_left', Option.toList_some, Option.toList_none, ev_km, ev_k2, ev_k3, ev_k4, ev_k5, ev_l0, ev_l1, sh_1, sh_2, sh_3, sh_4, sh_5, at_X11_readsKitchen_31, ca_X11_118, ca_X11_149, ca_X11_153, ca_X11_168, cd_X11_readsKitchen_0, cd_X11_readsKitchen_31, fl_X11_62, ev_b_9, no_0, no_1, no_lt, no_le, no_eq, no_lt0, no_ge0, no_gt0, no_le0, no_eq0, no_0eq, no_eqm, no_meq, no_m0, no_mlt, no_mge, no_mgt, no_mm, no_i01, no_i10, no_in, no_or, no_ifm, no_mul, nI_add, no_sub, pk_div, iI_if, nI_clamp, oI_n, oI_s, not_true_eq_false, not_false_eq_true, forall_const, true_implies, false_and, and_false, or_false, false_or, Classical.not_not, true_or, or_true, no_b, no_eq1, eq_self, and_self, sk_301, sk_302, sl_302, sp_301, n0, w0, re_10, re_n, mw_re, mw_mw, f1, z1, p1, n1, w1, f2, z2, n2, w2]
        | exact rfl
        | (split <;> omega))
set_option maxHeartbeats 2000000 in
theorem rx_conflict (hok : ev_ok sh_S G) (hR : RB B n μ) (hN : MR N μ) (hI : INV N) {a : Nat} {v : Int32} (hv : NV B n a v) : RX G B n mi_X11_readsConflict a v μ (q_conflict B n N (a + 1)) (nI9 B n N a 6) (aI9 B n N a 6) := by
  have hh := iv_h hI
  have hN1 : N 1 ≤ 10 := hh.2.1
  have n0 : nx (0, -1) a = a + 1 := rfl
  have hv1 := NV_nx (B := B) (n := n) (e := (0, -1)) (a := a) hv
  rw [n0] at hv1
  generalize w0 : nW B n (0, -1) a v = v1 at hv1
  obtain ⟨e1, f1⟩ : ∃ e, rP B n N (0, -1) (a + 1) = e := ⟨_, rfl⟩
  have c1 : e1.1 < 5 := by rw [← f1]; exact rP_c (by decide)
  have hq : q_conflict B n N (a + 1) = er (rN B n e1 (a + 1 + 1) 0 (N 1)) (N (8 + 59 * (pv B n N (a + 1)) + (33 + (tvl B n (a + 1 + 1)))) ≠ 0) 4 (a + 1 + 1) B n := by rw [← f1]; rfl
  rw [hq]
  by_cases z1 : ¬ e1.1 = 0
  · have y : (e1.1 = 0) = False := eq_false z1
    try simp only [rN_n z1, rP_n z1, er_n z1]
    refine ⟨a + 1, v1, μ, ?_, Fw_rf, hv1, fun q => absurd q z1⟩
    refine ev_tri hok (okM_X11_readsConflict 0) (Nat.le_of_ble_eq_true rfl) 400 ?_
    rw [at_X11_readsConflict_0]
    repeat' (first
      | (with_reducible refine ev_rid ?_; simp (disch := first | omega | assumption) only [ev_run_c, ev_run_n, ev_fj, ev_stp, ev_lk, ev_fv, ev_as, ev_sz, ev_st1, ev_st2, ev_rm, ev_pk, ev_Jof, ev_go, lv_args, List.map_cons, List.map_nil, List.zip_cons_cons, List.zip_nil_left, List.zip_nil_right, List.nil_append, List.cons_append, ↓reduceIte, reduceCtorEq, Int.reduceToNat, Nat.reduceEqDiff, Nat.reduceAdd, Nat.reduceLT, Nat.reduceLeDiff, Nat.reduceMul, Nat.reduceSub, Value.category, false_implies, true_and, and_true, Bool.false_eq_true, Option.some.injEq, exists_eq_left', Option.toList_some, Option.toList_none, ev_km, ev_k2, ev_k3, ev_k4, ev_k5, ev_l0, ev_l1, sh_1, sh_2, sh_3, sh_4, sh_5, at_X11_readsConflict_39, at_X11_readsConflict_40, at_X11_readsConflict_60, ca_X11_118, ca_X11_121, ca_X11_143, ca_X11_146, ca_X11_149, ca_X11_168, cd_X11_readsConflict_0, cd_X11_readsConflict_39, cd_X11_readsConflict_40, cd_X11_readsConflict_60, fl_X11_62, ev_b_33, no_0, no_1, no_lt, no_le, no_eq, no_lt0, no_ge0, no_gt0, no_le0, no_eq0, no_0eq, no_eqm, no_meq, no_m0, no_mlt, no_mge, no_mgt, no_mm, no_i01, no_i10, no_in, no_or, no_ifm, no_mul, nI_add, no_sub, pk_div, iI_if, nI_clamp, oI_n, oI_s, not_true_eq_false, not_false_eq_true, forall_const, true_implies, false_and, and_false, or_false, false_or, Classical.not_not, true_or, or_true, no_b, no_eq1, eq_self, and_self, sk_301, sk_302, sl_302, sp_301, n0, w0, re_10, re_n, mw_re, f1, y, rN_n z1, rP_n z1, rT_n z1, er_n z1, nx_n z1, nW_n z1])
      | (with_reducible refine ev_gid ?_; simp (disch := first | omega | assumption) only [ev_run_c, ev_run_n, ev_fj, ev_stp, ev_lk, ev_fv, ev_as, ev_sz, ev_st1, ev_st2, ev_rm, ev_pk, ev_Jof, ev_go, lv_args, List.map_cons, List.map_nil, List.zip_cons_cons, List.zip_nil_left, List.zip_nil_right, List.nil_append, List.cons_append, ↓reduceIte, reduceCtorEq, Int.reduceToNat, Nat.reduceEqDiff, Nat.reduceAdd, Nat.reduceLT, Nat.reduceLeDiff, Nat.reduceMul, Nat.reduceSub, Value.category, false_implies, true_and, and_true, Bool.false_eq_true, Option.some.injEq, exists_eq_left', Option.toList_some, Option.toList_none, ev_km, ev_k2, ev_k3, ev_k4, ev_k5, ev_l0, ev_l1, sh_1, sh_2, sh_3, sh_4, sh_5, at_X11_readsConflict_39, at_X11_readsConflict_40, at_X11_readsConflict_60, ca_X11_118, ca_X11_121, ca_X11_143, ca_X11_146, ca_X11_149, ca_X11_168, cd_X11_readsConflict_0, cd_X11_readsConflict_39, cd_X11_readsConflict_40, cd_X11_readsConflict_60, fl_X11_62, ev_b_33, no_0, no_1, no_lt, no_le, no_eq, no_lt0, no_ge0, no_gt0, no_le0, no_eq0, no_0eq, no_eqm, no_meq, no_m0, no_mlt, no_mge, no_mgt, no_mm, no_i01, no_i10, no_in, no_or, no_ifm, no_mul, nI_add, no_sub, pk_div, iI_if, nI_clamp, oI_n, oI_s, not_true_eq_false, not_false_eq_true, forall_const, true_implies, false_and, and_false, or_false, false_or, Classical.not_not, true_or, or_true, no_b, no_eq1, eq_self, and_self, sk_301, sk_302, sl_302, sp_301, n0, w0, re_10, re_n, mw_re, f1, y, rN_n z1, rP_n z1, rT_n z1, er_n z1, nx_n z1, nW_n z1])
      | (with_reducible refine And.intro (fun q => ?_) (fun q => ?_) <;> (try simp (disch := first | omega | assumption) only [no_0, no_1, no_lt, no_le, no_eq, no_lt0, no_ge0, no_gt0, no_le0, no_eq0, no_0eq, no_eqm, no_meq, no_m0, no_mlt, no_mge, no_mgt, no_mm, no_i01, no_i10, no_in, no_or, no_ifm, no_mul, nI_add, no_sub, pk_div, iI_if, nI_clamp, oI_n, oI_s, not_true_eq_false, not_false_eq_true, forall_const, true_implies, false_and, and_false, or_false, false_or, Classical.not_not, true_or, or_true, no_b, no_eq1, eq_self, and_self, sk_301, sk_302, sl_302, sp_301, n0, w0, re_10, re_n, mw_re, f1, y, rN_n z1, rP_n z1, rT_n z1, er_n z1, nx_n z1, nW_n z1] at q))
      | with_reducible refine ev_ci (m_go hok (by first | with_reducible assumption | exact RB_mw (by with_reducible assumption)) ?_) ?_
      | with_reducible refine ev_ci (m_readPerson hok (by with_reducible assumption) (by with_reducible assumption) (by with_reducible assumption) ?_) ?_
      | with_reducible refine ev_ci (m_pancakeHere hok (by with_reducible assumption) ?_ (by with_reducible assumption) (by with_reducible assumption)) ?_
      | with_reducible refine ev_ci (m_X11_of hok (by first | exact MR_re (by with_reducible assumption) | exact MR_re mw_R) ?_ ?_) ?_
      | with_reducible refine ev_ci (m_limits1 hok ?_) ?_
      | with_reducible refine ev_ci (m_limits0 hok ?_) ?_
      | with_reducible refine ev_ci (m_X11_puts hok (by first | exact MR_re (by with_reducible assumption) | exact MR_re mw_R) ?_ ?_) ?_
      | omega
      | with_reducible assumption
      | with_reducible rfl
      | with_reducible refine lp_nx ?_ ?_ ?_ ?_
      | with_reducible refine lp_st ?_ ?_ ?_
      | with_reducible refine ls_c ?_ ?_
      | with_reducible refine vi_c ?_
      | with_reducible refine re_c ?_
      | with_reducible refine vz_c ?_
      | with_reducible refine rz_c ?_
      | exact trivial
      | with_reducible refine And.intro ?_ ?_
      | simp (disch := first | omega | assumption) only [ev_run_c, ev_run_n, ev_fj, ev_stp, ev_lk, ev_fv, ev_as, ev_sz, ev_st1, ev_st2, ev_rm, ev_pk, ev_Jof, ev_go, lv_args, List.map_cons, List.map_nil, List.zip_cons_cons, List.zip_nil_left, List.zip_nil_right, List.nil_append, List.cons_append, ↓reduceIte, reduceCtorEq, Int.reduceToNat, Nat.reduceEqDiff, Nat.reduceAdd, Nat.reduceLT, Nat.reduceLeDiff, Nat.reduceMul, Nat.reduceSub, Value.category, false_implies, true_and, and_true, Bool.false_eq_true, Option.some.injEq, exists_eq_left', Option.toList_some, Option.toList_none, ev_km, ev_k2, ev_k3, ev_k4, ev_k5, ev_l0, ev_l1, sh_1, sh_2, sh_3, sh_4, sh_5, at_X11_readsConflict_39, at_X11_readsConflict_40, at_X11_readsConflict_60, ca_X11_118, ca_X11_121, ca_X11_143, ca_X11_146, ca_X11_149, ca_X11_168, cd_X11_readsConflict_0, cd_X11_readsConflict_39, cd_X11_readsConflict_40, cd_X11_readsConflict_60, fl_X11_62, ev_b_33, no_0, no_1, no_lt, no_le, no_eq, no_lt0, no_ge0, no_gt0, no_le0, no_eq0, no_0eq, no_eqm, no_meq, no_m0, no_mlt, no_mge, no_mgt, no_mm, no_i01, no_i10, no_in, no_or, no_ifm, no_mul, nI_add, no_sub, pk_div, iI_if, nI_clamp, oI_n, oI_s, not_true_eq_false, not_false_eq_true, forall_const, true_implies, false_and, and_false, or_false, false_or, Classical.not_not, true_or, or_true, no_b, no_eq1, eq_self, and_self, sk_301, sk_302, sl_302, sp_301, n0, w0, re_10, re_n, mw_re, f1, y, rN_n z1, rP_n z1, rT_n z1, er_n z1, nx_n z1, nW_n z1]
      | exact rfl
      | (split <;> omega))
  · have z1 : e1.1 = 0 := Classical.byContradiction z1
    have g1 := z1
    rw [← f1] at g1
    have s1 := rP_0 g1
    have p1 := pz_0 g1
    have b1 : pv B n N (a + 1) < 16 := by omega
    have n1 : nx e1 (a + 1) = a + 1 + 1 := nx_0 z1
    have hv2 := NV_nx (B := B) (n := n) (e := e1) (a := a + 1) hv1
    rw [n1] at hv2
    generalize w1 : nW B n e1 (a + 1) v1 = v2 at hv2
    obtain ⟨e2, f2⟩ : ∃ e, rN B n e1 (a + 1 + 1) 0 (N 1) = e := ⟨_, rfl⟩
    have c2 : e2.1 < 5 := by rw [← f2]; exact rN_c c1
    rw [f2]
    by_cases z2 : ¬ e2.1 = 0
    · have y : (e2.1 = 0) = False := eq_false z2
      try simp only [rN_n z2, rP_n z2, er_n z2]
      refine ⟨a + 1 + 1, v2, μ, ?_, Fw_rf, hv2, fun q => absurd q z2⟩
      refine ev_tri hok (okM_X11_readsConflict 0) (Nat.le_of_ble_eq_true rfl) 400 ?_
      rw [at_X11_readsConflict_0]
      repeat' (first
        | (with_reducible refine ev_rid ?_; simp (disch := first | omega | assumption) only [ev_run_c, ev_run_n, ev_fj, ev_stp, ev_lk, ev_fv, ev_as, ev_sz, ev_st1, ev_st2, ev_rm, ev_pk, ev_Jof, ev_go, lv_args, List.map_cons, List.map_nil, List.zip_cons_cons, List.zip_nil_left, List.zip_nil_right, List.nil_append, List.cons_append, ↓reduceIte, reduceCtorEq, Int.reduceToNat, Nat.reduceEqDiff, Nat.reduceAdd, Nat.reduceLT, Nat.reduceLeDiff, Nat.reduceMul, Nat.reduceSub, Value.category, false_implies, true_and, and_true, Bool.false_eq_true, Option.some.injEq, exists_eq_left', Option.toList_some, Option.toList_none, ev_km, ev_k2, ev_k3, ev_k4, ev_k5, ev_l0, ev_l1, sh_1, sh_2, sh_3, sh_4, sh_5, at_X11_readsConflict_39, at_X11_readsConflict_40, at_X11_readsConflict_60, ca_X11_118, ca_X11_121, ca_X11_143, ca_X11_146, ca_X11_149, ca_X11_168, cd_X11_readsConflict_0, cd_X11_readsConflict_39, cd_X11_readsConflict_40, cd_X11_readsConflict_60, fl_X11_62, ev_b_33, no_0, no_1, no_lt, no_le, no_eq, no_lt0, no_ge0, no_gt0, no_le0, no_eq0, no_0eq, no_eqm, no_meq, no_m0, no_mlt, no_mge, no_mgt, no_mm, no_i01, no_i10, no_in, no_or, no_ifm, no_mul, nI_add, no_sub, pk_div, iI_if, nI_clamp, oI_n, oI_s, not_true_eq_false, not_false_eq_true, forall_const, true_implies, false_and, and_false, or_false, false_or, Classical.not_not, true_or, or_true, no_b, no_eq1, eq_self, and_self, sk_301, sk_302, sl_302, sp_301, n0, w0, re_10, re_n, mw_re, f1, z1, p1, n1, w1, f2, y, rN_n z2, rP_n z2, rT_n z2, er_n z2, nx_n z2, nW_n z2])
        | (with_reducible refine ev_gid ?_; simp (disch := first | omega | assumption) only [ev_run_c, ev_run_n, ev_fj, ev_stp, ev_lk, ev_fv, ev_as, ev_sz, ev_st1, ev_st2, ev_rm, ev_pk, ev_Jof, ev_go, lv_args, List.map_cons, List.map_nil, List.zip_cons_cons, List.zip_nil_left, List.zip_nil_right, List.nil_append, List.cons_append, ↓reduceIte, reduceCtorEq, Int.reduceToNat, Nat.reduceEqDiff, Nat.reduceAdd, Nat.reduceLT, Nat.reduceLeDiff, Nat.reduceMul, Nat.reduceSub, Value.category, false_implies, true_and, and_true, Bool.false_eq_true, Option.some.injEq, exists_eq_left', Option.toList_some, Option.toList_none, ev_km, ev_k2, ev_k3, ev_k4, ev_k5, ev_l0, ev_l1, sh_1, sh_2, sh_3, sh_4, sh_5, at_X11_readsConflict_39, at_X11_readsConflict_40, at_X11_readsConflict_60, ca_X11_118, ca_X11_121, ca_X11_143, ca_X11_146, ca_X11_149, ca_X11_168, cd_X11_readsConflict_0, cd_X11_readsConflict_39, cd_X11_readsConflict_40, cd_X11_readsConflict_60, fl_X11_62, ev_b_33, no_0, no_1, no_lt, no_le, no_eq, no_lt0, no_ge0, no_gt0, no_le0, no_eq0, no_0eq, no_eqm, no_meq, no_m0, no_mlt, no_mge, no_mgt, no_mm, no_i01, no_i10, no_in, no_or, no_ifm, no_mul, nI_add, no_sub, pk_div, iI_if, nI_clamp, oI_n, oI_s, not_true_eq_false, not_false_eq_true, forall_const, true_implies, false_and, and_false, or_false, false_or, Classical.not_not, true_or, or_true, no_b, no_eq1, eq_self, and_self, sk_301, sk_302, sl_302, sp_301, n0, w0, re_10, re_n, mw_re, f1, z1, p1, n1, w1, f2, y, rN_n z2, rP_n z2, rT_n z2, er_n z2, nx_n z2, nW_n z2])
        | (with_reducible refine And.intro (fun q => ?_) (fun q => ?_) <;> (try simp (disch := first | omega | assumption) only [no_0, no_1, no_lt, no_le, no_eq, no_lt0, no_ge0, no_gt0, no_le0, no_eq0, no_0eq, no_eqm, no_meq, no_m0, no_mlt, no_mge, no_mgt, no_mm, no_i01, no_i10, no_in, no_or, no_ifm, no_mul, nI_add, no_sub, pk_div, iI_if, nI_clamp, oI_n, oI_s, not_true_eq_false, not_false_eq_true, forall_const, true_implies, false_and, and_false, or_false, false_or, Classical.not_not, true_or, or_true, no_b, no_eq1, eq_self, and_self, sk_301, sk_302, sl_302, sp_301, n0, w0, re_10, re_n, mw_re, f1, z1, p1, n1, w1, f2, y, rN_n z2, rP_n z2, rT_n z2, er_n z2, nx_n z2, nW_n z2] at q))
        | with_reducible refine ev_ci (m_go hok (by first | with_reducible assumption | exact RB_mw (by with_reducible assumption)) ?_) ?_
        | with_reducible refine ev_ci (m_readPerson hok (by with_reducible assumption) (by with_reducible assumption) (by with_reducible assumption) ?_) ?_
        | with_reducible refine ev_ci (m_pancakeHere hok (by with_reducible assumption) ?_ (by with_reducible assumption) (by with_reducible assumption)) ?_
        | with_reducible refine ev_ci (m_X11_of hok (by first | exact MR_re (by with_reducible assumption) | exact MR_re mw_R) ?_ ?_) ?_
        | with_reducible refine ev_ci (m_limits1 hok ?_) ?_
        | with_reducible refine ev_ci (m_limits0 hok ?_) ?_
        | with_reducible refine ev_ci (m_X11_puts hok (by first | exact MR_re (by with_reducible assumption) | exact MR_re mw_R) ?_ ?_) ?_
        | omega
        | with_reducible assumption
        | with_reducible rfl
        | with_reducible refine lp_nx ?_ ?_ ?_ ?_
        | with_reducible refine lp_st ?_ ?_ ?_
        | with_reducible refine ls_c ?_ ?_
        | with_reducible refine vi_c ?_
        | with_reducible refine re_c ?_
        | with_reducible refine vz_c ?_
        | with_reducible refine rz_c ?_
        | exact trivial
        | with_reducible refine And.intro ?_ ?_
        | simp (disch := first | omega | assumption) only [ev_run_c, ev_run_n, ev_fj, ev_stp, ev_lk, ev_fv, ev_as, ev_sz, ev_st1, ev_st2, ev_rm, ev_pk, ev_Jof, ev_go, lv_args, List.map_cons, List.map_nil, List.zip_cons_cons, List.zip_nil_left, List.zip_nil_right, List.nil_append, List.cons_append, ↓reduceIte, reduceCtorEq, Int.reduceToNat, Nat.reduceEqDiff, Nat.reduceAdd, Nat.reduceLT, Nat.reduceLeDiff, Nat.reduceMul, Nat.reduceSub, Value.category, false_implies, true_and, and_true, Bool.false_eq_true, Option.some.injEq, exists_eq_left', Option.toList_some, Option.toList_none, ev_km, ev_k2, ev_k3, ev_k4, ev_k5, ev_l0, ev_l1, sh_1, sh_2, sh_3, sh_4, sh_5, at_X11_readsConflict_39, at_X11_readsConflict_40, at_X11_readsConflict_60, ca_X11_118, ca_X11_121, ca_X11_143, ca_X11_146, ca_X11_149, ca_X11_168, cd_X11_readsConflict_0, cd_X11_readsConflict_39, cd_X11_readsConflict_40, cd_X11_readsConflict_60, fl_X11_62, ev_b_33, no_0, no_1, no_lt, no_le, no_eq, no_lt0, no_ge0, no_gt0, no_le0, no_eq0, no_0eq, no_eqm, no_meq, no_m0, no_mlt, no_mge, no_mgt, no_mm, no_i01, no_i10, no_in, no_or, no_ifm, no_mul, nI_add, no_sub, pk_div, iI_if, nI_clamp, oI_n, oI_s, not_true_eq_false, not_false_eq_true, forall_const, true_implies, false_and, and_false, or_false, false_or, Classical.not_not, true_or, or_true, no_b, no_eq1, eq_self, and_self, sk_301, sk_302, sl_302, sp_301, n0, w0, re_10, re_n, mw_re, f1, z1, p1, n1, w1, f2, y, rN_n z2, rP_n z2, rT_n z2, er_n z2, nx_n z2, nW_n z2]
        | exact rfl
        | (split <;> omega))
    · have z2 : e2.1 = 0 := Classical.byContradiction z2
      have g2 := z2
      rw [← f2] at g2
      have s2 := nmc_0 (rN_0 g2).2.1
      have b2 : tvl B n (a + 1 + 1) < 10 := by omega
      have hb := (iv_pq hI (pv B n N (a + 1)) (tvl B n (a + 1 + 1)) (by omega) (by omega)).2.2
      by_cases hc : N (8 + 59 * (pv B n N (a + 1)) + (33 + (tvl B n (a + 1 + 1)))) ≠ 0
      · rw [er_True hc]
        obtain ⟨e9, f9⟩ : ∃ e, er e2 True 4 (a + 1 + 1) B n = e := ⟨_, rfl⟩
        have c9 : e9.1 < 5 := by rw [← f9]; exact er_c c2 (by decide)
        have z9 : ¬ e9.1 = 0 := by rw [← f9, er_T z2]; exact Nat.succ_ne_zero _
        have y : (e9.1 = 0) = False := eq_false z9
        rw [f9]
        have h1 : N (8 + 59 * (pv B n N (a + 1)) + (33 + (tvl B n (a + 1 + 1)))) = 1 := by omega
        refine ⟨a + 1 + 1, v2, μ, ?_, Fw_rf, hv2, fun q => absurd q z9⟩
        refine ev_tri hok (okM_X11_readsConflict 0) (Nat.le_of_ble_eq_true rfl) 400 ?_
        rw [at_X11_readsConflict_0]
        repeat' (first
          | (with_reducible refine ev_rid ?_; simp (disch := first | omega | assumption) only [ev_run_c, ev_run_n, ev_fj, ev_stp, ev_lk, ev_fv, ev_as, ev_sz, ev_st1, ev_st2, ev_rm, ev_pk, ev_Jof, ev_go, lv_args, List.map_cons, List.map_nil, List.zip_cons_cons, List.zip_nil_left, List.zip_nil_right, List.nil_append, List.cons_append, ↓reduceIte, reduceCtorEq, Int.reduceToNat, Nat.reduceEqDiff, Nat.reduceAdd, Nat.reduceLT, Nat.reduceLeDiff, Nat.reduceMul, Nat.reduceSub, Value.category, false_implies, true_and, and_true, Bool.false_eq_true, Option.some.injEq, exists_eq_left', Option.toList_some, Option.toList_none, ev_km, ev_k2, ev_k3, ev_k4, ev_k5, ev_l0, ev_l1, sh_1, sh_2, sh_3, sh_4, sh_5, at_X11_readsConflict_39, at_X11_readsConflict_40, at_X11_readsConflict_60, ca_X11_118, ca_X11_121, ca_X11_143, ca_X11_146, ca_X11_149, ca_X11_168, cd_X11_readsConflict_0, cd_X11_readsConflict_39, cd_X11_readsConflict_40, cd_X11_readsConflict_60, fl_X11_62, ev_b_33, no_0, no_1, no_lt, no_le, no_eq, no_lt0, no_ge0, no_gt0, no_le0, no_eq0, no_0eq, no_eqm, no_meq, no_m0, no_mlt, no_mge, no_mgt, no_mm, no_i01, no_i10, no_in, no_or, no_ifm, no_mul, nI_add, no_sub, pk_div, iI_if, nI_clamp, oI_n, oI_s, not_true_eq_false, not_false_eq_true, forall_const, true_implies, false_and, and_false, or_false, false_or, Classical.not_not, true_or, or_true, no_b, no_eq1, eq_self, and_self, sk_301, sk_302, sl_302, sp_301, n0, w0, re_10, re_n, mw_re, f1, z1, p1, n1, w1, f2, z2, f9, y, nx_n z9, nW_n z9, h1])
          | (with_reducible refine ev_gid ?_; simp (disch := first | omega | assumption) only [ev_run_c, ev_run_n, ev_fj, ev_stp, ev_lk, ev_fv, ev_as, ev_sz, ev_st1, ev_st2, ev_rm, ev_pk, ev_Jof, ev_go, lv_args, List.map_cons, List.map_nil, List.zip_cons_cons, List.zip_nil_left, List.zip_nil_right, List.nil_append, List.cons_append, ↓reduceIte, reduceCtorEq, Int.reduceToNat, Nat.reduceEqDiff, Nat.reduceAdd, Nat.reduceLT, Nat.reduceLeDiff, Nat.reduceMul, Nat.reduceSub, Value.category, false_implies, true_and, and_true, Bool.false_eq_true, Option.some.injEq, exists_eq_left', Option.toList_some, Option.toList_none, ev_km, ev_k2, ev_k3, ev_k4, ev_k5, ev_l0, ev_l1, sh_1, sh_2, sh_3, sh_4, sh_5, at_X11_readsConflict_39, at_X11_readsConflict_40, at_X11_readsConflict_60, ca_X11_118, ca_X11_121, ca_X11_143, ca_X11_146, ca_X11_149, ca_X11_168, cd_X11_readsConflict_0, cd_X11_readsConflict_39, cd_X11_readsConflict_40, cd_X11_readsConflict_60, fl_X11_62, ev_b_33, no_0, no_1, no_lt, no_le, no_eq, no_lt0, no_ge0, no_gt0, no_le0, no_eq0, no_0eq, no_eqm, no_meq, no_m0, no_mlt, no_mge, no_mgt, no_mm, no_i01, no_i10, no_in, no_or, no_ifm, no_mul, nI_add, no_sub, pk_div, iI_if, nI_clamp, oI_n, oI_s, not_true_eq_false, not_false_eq_true, forall_const, true_implies, false_and, and_false, or_false, false_or, Classical.not_not, true_or, or_true, no_b, no_eq1, eq_self, and_self, sk_301, sk_302, sl_302, sp_301, n0, w0, re_10, re_n, mw_re, f1, z1, p1, n1, w1, f2, z2, f9, y, nx_n z9, nW_n z9, h1])
          | (with_reducible refine And.intro (fun q => ?_) (fun q => ?_) <;> (try simp (disch := first | omega | assumption) only [no_0, no_1, no_lt, no_le, no_eq, no_lt0, no_ge0, no_gt0, no_le0, no_eq0, no_0eq, no_eqm, no_meq, no_m0, no_mlt, no_mge, no_mgt, no_mm, no_i01, no_i10, no_in, no_or, no_ifm, no_mul, nI_add, no_sub, pk_div, iI_if, nI_clamp, oI_n, oI_s, not_true_eq_false, not_false_eq_true, forall_const, true_implies, false_and, and_false, or_false, false_or, Classical.not_not, true_or, or_true, no_b, no_eq1, eq_self, and_self, sk_301, sk_302, sl_302, sp_301, n0, w0, re_10, re_n, mw_re, f1, z1, p1, n1, w1, f2, z2, f9, y, nx_n z9, nW_n z9, h1] at q))
          | with_reducible refine ev_ci (m_go hok (by first | with_reducible assumption | exact RB_mw (by with_reducible assumption)) ?_) ?_
          | with_reducible refine ev_ci (m_readPerson hok (by with_reducible assumption) (by with_reducible assumption) (by with_reducible assumption) ?_) ?_
          | with_reducible refine ev_ci (m_pancakeHere hok (by with_reducible assumption) ?_ (by with_reducible assumption) (by with_reducible assumption)) ?_
          | with_reducible refine ev_ci (m_X11_of hok (by first | exact MR_re (by with_reducible assumption) | exact MR_re mw_R) ?_ ?_) ?_
          | with_reducible refine ev_ci (m_limits1 hok ?_) ?_
          | with_reducible refine ev_ci (m_limits0 hok ?_) ?_
          | with_reducible refine ev_ci (m_X11_puts hok (by first | exact MR_re (by with_reducible assumption) | exact MR_re mw_R) ?_ ?_) ?_
          | omega
          | with_reducible assumption
          | with_reducible rfl
          | with_reducible refine lp_nx ?_ ?_ ?_ ?_
          | with_reducible refine lp_st ?_ ?_ ?_
          | with_reducible refine ls_c ?_ ?_
          | with_reducible refine vi_c ?_
          | with_reducible refine re_c ?_
          | with_reducible refine vz_c ?_
          | with_reducible refine rz_c ?_
          | exact trivial
          | with_reducible refine And.intro ?_ ?_
          | simp (disch := first | omega | assumption) only [ev_run_c, ev_run_n, ev_fj, ev_stp, ev_lk, ev_fv, ev_as, ev_sz, ev_st1, ev_st2, ev_rm, ev_pk, ev_Jof, ev_go, lv_args, List.map_cons, List.map_nil, List.zip_cons_cons, List.zip_nil_left, List.zip_nil_right, List.nil_append, List.cons_append, ↓reduceIte, reduceCtorEq, Int.reduceToNat, Nat.reduceEqDiff, Nat.reduceAdd, Nat.reduceLT, Nat.reduceLeDiff, Nat.reduceMul, Nat.reduceSub, Value.category, false_implies, true_and, and_true, Bool.false_eq_true, Option.some.injEq, exists_eq_left', Option.toList_some, Option.toList_none, ev_km, ev_k2, ev_k3, ev_k4, ev_k5, ev_l0, ev_l1, sh_1, sh_2, sh_3, sh_4, sh_5, at_X11_readsConflict_39, at_X11_readsConflict_40, at_X11_readsConflict_60, ca_X11_118, ca_X11_121, ca_X11_143, ca_X11_146, ca_X11_149, ca_X11_168, cd_X11_readsConflict_0, cd_X11_readsConflict_39, cd_X11_readsConflict_40, cd_X11_readsConflict_60, fl_X11_62, ev_b_33, no_0, no_1, no_lt, no_le, no_eq, no_lt0, no_ge0, no_gt0, no_le0, no_eq0, no_0eq, no_eqm, no_meq, no_m0, no_mlt, no_mge, no_mgt, no_mm, no_i01, no_i10, no_in, no_or, no_ifm, no_mul, nI_add, no_sub, pk_div, iI_if, nI_clamp, oI_n, oI_s, not_true_eq_false, not_false_eq_true, forall_const, true_implies, false_and, and_false, or_false, false_or, Classical.not_not, true_or, or_true, no_b, no_eq1, eq_self, and_self, sk_301, sk_302, sl_302, sp_301, n0, w0, re_10, re_n, mw_re, f1, z1, p1, n1, w1, f2, z2, f9, y, nx_n z9, nW_n z9, h1]
          | exact rfl
          | (split <;> omega))
      · rw [er_f hc]
        have h1 : N (8 + 59 * (pv B n N (a + 1)) + (33 + (tvl B n (a + 1 + 1)))) = 0 := Classical.byContradiction hc
        have nn : nx e2 (a + 1 + 1) = a + 1 + 1 + 1 := nx_0 z2
        have hv9 := NV_nx (B := B) (n := n) (e := e2) (a := a + 1 + 1) hv2
        rw [nn] at hv9
        generalize w9 : nW B n e2 (a + 1 + 1) v2 = v9 at hv9
        refine ⟨a + 1 + 1 + 1, v9, mw μ (up N (8 + 59 * (pv B n N (a + 1)) + (33 + (tvl B n (a + 1 + 1)))) 1), ?_, Fw_mw, hv9, fun _ => ⟨rfl, mw_R⟩⟩
        refine ev_tri hok (okM_X11_readsConflict 0) (Nat.le_of_ble_eq_true rfl) 400 ?_
        rw [at_X11_readsConflict_0]
        repeat' (first
          | (with_reducible refine ev_rid ?_; simp (disch := first | omega | assumption) only [ev_run_c, ev_run_n, ev_fj, ev_stp, ev_lk, ev_fv, ev_as, ev_sz, ev_st1, ev_st2, ev_rm, ev_pk, ev_Jof, ev_go, lv_args, List.map_cons, List.map_nil, List.zip_cons_cons, List.zip_nil_left, List.zip_nil_right, List.nil_append, List.cons_append, ↓reduceIte, reduceCtorEq, Int.reduceToNat, Nat.reduceEqDiff, Nat.reduceAdd, Nat.reduceLT, Nat.reduceLeDiff, Nat.reduceMul, Nat.reduceSub, Value.category, false_implies, true_and, and_true, Bool.false_eq_true, Option.some.injEq, exists_eq_left', Option.toList_some, Option.toList_none, ev_km, ev_k2, ev_k3, ev_k4, ev_k5, ev_l0, ev_l1, sh_1, sh_2, sh_3, sh_4, sh_5, at_X11_readsConflict_39, at_X11_readsConflict_40, at_X11_readsConflict_60, ca_X11_118, ca_X11_121, ca_X11_143, ca_X11_146, ca_X11_149, ca_X11_168, cd_X11_readsConflict_0, cd_X11_readsConflict_39, cd_X11_readsConflict_40, cd_X11_readsConflict_60, fl_X11_62, ev_b_33, no_0, no_1, no_lt, no_le, no_eq, no_lt0, no_ge0, no_gt0, no_le0, no_eq0, no_0eq, no_eqm, no_meq, no_m0, no_mlt, no_mge, no_mgt, no_mm, no_i01, no_i10, no_in, no_or, no_ifm, no_mul, nI_add, no_sub, pk_div, iI_if, nI_clamp, oI_n, oI_s, not_true_eq_false, not_false_eq_true, forall_const, true_implies, false_and, and_false, or_false, false_or, Classical.not_not, true_or, or_true, no_b, no_eq1, eq_self, and_self, sk_301, sk_302, sl_302, sp_301, n0, w0, re_10, re_n, mw_re, mw_mw, f1, z1, p1, n1, w1, f2, z2, h1, nn, w9])
          | (with_reducible refine ev_gid ?_; simp (disch := first | omega | assumption) only [ev_run_c, ev_run_n, ev_fj, ev_stp, ev_lk, ev_fv, ev_as, ev_sz, ev_st1, ev_st2, ev_rm, ev_pk, ev_Jof, ev_go, lv_args, List.map_cons, List.map_nil, List.zip_cons_cons, List.zip_nil_left, List.zip_nil_right, List.nil_append, List.cons_append, ↓reduceIte, reduceCtorEq, Int.reduceToNat, Nat.reduceEqDiff, Nat.reduceAdd, Nat.reduceLT, Nat.reduceLeDiff, Nat.reduceMul, Nat.reduceSub, Value.category, false_implies, true_and, and_true, Bool.false_eq_true, Option.some.injEq, exists_eq_left', Option.toList_some, Option.toList_none, ev_km, ev_k2, ev_k3, ev_k4, ev_k5, ev_l0, ev_l1, sh_1, sh_2, sh_3, sh_4, sh_5, at_X11_readsConflict_39, at_X11_readsConflict_40, at_X11_readsConflict_60, ca_X11_118, ca_X11_121, ca_X11_143, ca_X11_146, ca_X11_149, ca_X11_168, cd_X11_readsConflict_0, cd_X11_readsConflict_39, cd_X11_readsConflict_40, cd_X11_readsConflict_60, fl_X11_62, ev_b_33, no_0, no_1, no_lt, no_le, no_eq, no_lt0, no_ge0, no_gt0, no_le0, no_eq0, no_0eq, no_eqm, no_meq, no_m0, no_mlt, no_mge, no_mgt, no_mm, no_i01, no_i10, no_in, no_or, no_ifm, no_mul, nI_add, no_sub, pk_div, iI_if, nI_clamp, oI_n, oI_s, not_true_eq_false, not_false_eq_true, forall_const, true_implies, false_and, and_false, or_false, false_or, Classical.not_not, true_or, or_true, no_b, no_eq1, eq_self, and_self, sk_301, sk_302, sl_302, sp_301, n0, w0, re_10, re_n, mw_re, mw_mw, f1, z1, p1, n1, w1, f2, z2, h1, nn, w9])
          | (with_reducible refine And.intro (fun q => ?_) (fun q => ?_) <;> (try simp (disch := first | omega | assumption) only [no_0, no_1, no_lt, no_le, no_eq, no_lt0, no_ge0, no_gt0, no_le0, no_eq0, no_0eq, no_eqm, no_meq, no_m0, no_mlt, no_mge, no_mgt, no_mm, no_i01, no_i10, no_in, no_or, no_ifm, no_mul, nI_add, no_sub, pk_div, iI_if, nI_clamp, oI_n, oI_s, not_true_eq_false, not_false_eq_true, forall_const, true_implies, false_and, and_false, or_false, false_or, Classical.not_not, true_or, or_true, no_b, no_eq1, eq_self, and_self, sk_301, sk_302, sl_302, sp_301, n0, w0, re_10, re_n, mw_re, mw_mw, f1, z1, p1, n1, w1, f2, z2, h1, nn, w9] at q))
          | with_reducible refine ev_ci (m_go hok (by first | with_reducible assumption | exact RB_mw (by with_reducible assumption)) ?_) ?_
          | with_reducible refine ev_ci (m_readPerson hok (by with_reducible assumption) (by with_reducible assumption) (by with_reducible assumption) ?_) ?_
          | with_reducible refine ev_ci (m_pancakeHere hok (by with_reducible assumption) ?_ (by with_reducible assumption) (by with_reducible assumption)) ?_
          | with_reducible refine ev_ci (m_X11_of hok (by first | exact MR_re (by with_reducible assumption) | exact MR_re mw_R) ?_ ?_) ?_
          | with_reducible refine ev_ci (m_limits1 hok ?_) ?_
          | with_reducible refine ev_ci (m_limits0 hok ?_) ?_
          | with_reducible refine ev_ci (m_X11_puts hok (by first | exact MR_re (by with_reducible assumption) | exact MR_re mw_R) ?_ ?_) ?_
          | omega
          | with_reducible assumption
          | with_reducible rfl
          | with_reducible refine lp_nx ?_ ?_ ?_ ?_
          | with_reducible refine lp_st ?_ ?_ ?_
          | with_reducible refine ls_c ?_ ?_
          | with_reducible refine vi_c ?_
          | with_reducible refine re_c ?_
          | with_reducible refine vz_c ?_
          | with_reducible refine rz_c ?_
          | exact trivial
          | with_reducible refine And.intro ?_ ?_
          | simp (disch := first | omega | assumption) only [ev_run_c, ev_run_n, ev_fj, ev_stp, ev_lk, ev_fv, ev_as, ev_sz, ev_st1, ev_st2, ev_rm, ev_pk, ev_Jof, ev_go, lv_args, List.map_cons, List.map_nil, List.zip_cons_cons, List.zip_nil_left, List.zip_nil_right, List.nil_append, List.cons_append, ↓reduceIte, reduceCtorEq, Int.reduceToNat, Nat.reduceEqDiff, Nat.reduceAdd, Nat.reduceLT, Nat.reduceLeDiff, Nat.reduceMul, Nat.reduceSub, Value.category, false_implies, true_and, and_true, Bool.false_eq_true, Option.some.injEq, exists_eq_left', Option.toList_some, Option.toList_none, ev_km, ev_k2, ev_k3, ev_k4, ev_k5, ev_l0, ev_l1, sh_1, sh_2, sh_3, sh_4, sh_5, at_X11_readsConflict_39, at_X11_readsConflict_40, at_X11_readsConflict_60, ca_X11_118, ca_X11_121, ca_X11_143, ca_X11_146, ca_X11_149, ca_X11_168, cd_X11_readsConflict_0, cd_X11_readsConflict_39, cd_X11_readsConflict_40, cd_X11_readsConflict_60, fl_X11_62, ev_b_33, no_0, no_1, no_lt, no_le, no_eq, no_lt0, no_ge0, no_gt0, no_le0, no_eq0, no_0eq, no_eqm, no_meq, no_m0, no_mlt, no_mge, no_mgt, no_mm, no_i01, no_i10, no_in, no_or, no_ifm, no_mul, nI_add, no_sub, pk_div, iI_if, nI_clamp, oI_n, oI_s, not_true_eq_false, not_false_eq_true, forall_const, true_implies, false_and, and_false, or_false, false_or, Classical.not_not, true_or, or_true, no_b, no_eq1, eq_self, and_self, sk_301, sk_302, sl_302, sp_301, n0, w0, re_10, re_n, mw_re, mw_mw, f1, z1, p1, n1, w1, f2, z2, h1, nn, w9]
          | exact rfl
          | (split <;> omega))
set_option maxHeartbeats 2000000 in
theorem rx_seat (hok : ev_ok sh_S G) (hR : RB B n μ) (hN : MR N μ) (hI : INV N) {a : Nat} {v : Int32} (hv : NV B n a v) : RX G B n mi_X11_readsSeat a v μ (q_seat B n N (a + 1)) (nI9 B n N a 7) (aI9 B n N a 7) := by
  have hh := iv_h hI
  have hN1 : N 1 ≤ 10 := hh.2.1
  have n0 : nx (0, -1) a = a + 1 := rfl
  have hv1 := NV_nx (B := B) (n := n) (e := (0, -1)) (a := a) hv
  rw [n0] at hv1
  generalize w0 : nW B n (0, -1) a v = v1 at hv1
  obtain ⟨e1, f1⟩ : ∃ e, rP B n N (0, -1) (a + 1) = e := ⟨_, rfl⟩
  have c1 : e1.1 < 5 := by rw [← f1]; exact rP_c (by decide)
  have hq : q_seat B n N (a + 1) = er (rN B n e1 (a + 1 + 1) 0 (N 1)) (why N (pv B n N (a + 1)) (tvl B n (a + 1 + 1)) ≠ 0) 4 (a + 1 + 1) B n := by rw [← f1]; rfl
  rw [hq]
  by_cases z1 : ¬ e1.1 = 0
  · have y : (e1.1 = 0) = False := eq_false z1
    try simp only [rN_n z1, rP_n z1, er_n z1]
    refine ⟨a + 1, v1, μ, ?_, Fw_rf, hv1, fun q => absurd q z1⟩
    refine ev_tri hok (okM_X11_readsSeat 0) (Nat.le_of_ble_eq_true rfl) 400 ?_
    rw [at_X11_readsSeat_0]
    repeat' (first
      | (with_reducible refine ev_rid ?_; simp (disch := first | omega | assumption) only [ev_run_c, ev_run_n, ev_fj, ev_stp, ev_lk, ev_fv, ev_as, ev_sz, ev_st1, ev_st2, ev_rm, ev_pk, ev_Jof, ev_go, lv_args, List.map_cons, List.map_nil, List.zip_cons_cons, List.zip_nil_left, List.zip_nil_right, List.nil_append, List.cons_append, ↓reduceIte, reduceCtorEq, Int.reduceToNat, Nat.reduceEqDiff, Nat.reduceAdd, Nat.reduceLT, Nat.reduceLeDiff, Nat.reduceMul, Nat.reduceSub, Value.category, false_implies, true_and, and_true, Bool.false_eq_true, Option.some.injEq, exists_eq_left', Option.toList_some, Option.toList_none, ev_km, ev_k2, ev_k3, ev_k4, ev_k5, ev_l0, ev_l1, sh_1, sh_2, sh_3, sh_4, sh_5, at_X11_readsSeat_35, at_X11_readsSeat_36, at_X11_readsSeat_50, at_X11_readsSeat_56, ca_X11_118, ca_X11_143, ca_X11_146, ca_X11_168, ca_X11_171, ca_X11_174, cd_X11_readsSeat_0, cd_X11_readsSeat_35, cd_X11_readsSeat_36, cd_X11_readsSeat_50, cd_X11_readsSeat_56, fl_X11_62, no_0, no_1, no_lt, no_le, no_eq, no_lt0, no_ge0, no_gt0, no_le0, no_eq0, no_0eq, no_eqm, no_meq, no_m0, no_mlt, no_mge, no_mgt, no_mm, no_i01, no_i10, no_in, no_or, no_ifm, no_mul, nI_add, no_sub, pk_div, iI_if, nI_clamp, oI_n, oI_s, not_true_eq_false, not_false_eq_true, forall_const, true_implies, false_and, and_false, or_false, false_or, Classical.not_not, true_or, or_true, no_b, no_eq1, eq_self, and_self, sk_301, sk_302, sl_302, sp_301, n0, w0, re_10, re_n, mw_re, f1, y, rN_n z1, rP_n z1, rT_n z1, er_n z1, nx_n z1, nW_n z1])
      | (with_reducible refine ev_gid ?_; simp (disch := first | omega | assumption) only [ev_run_c, ev_run_n, ev_fj, ev_stp, ev_lk, ev_fv, ev_as, ev_sz, ev_st1, ev_st2, ev_rm, ev_pk, ev_Jof, ev_go, lv_args, List.map_cons, List.map_nil, List.zip_cons_cons, List.zip_nil_left, List.zip_nil_right, List.nil_append, List.cons_append, ↓reduceIte, reduceCtorEq, Int.reduceToNat, Nat.reduceEqDiff, Nat.reduceAdd, Nat.reduceLT, Nat.reduceLeDiff, Nat.reduceMul, Nat.reduceSub, Value.category, false_implies, true_and, and_true, Bool.false_eq_true, Option.some.injEq, exists_eq_left', Option.toList_some, Option.toList_none, ev_km, ev_k2, ev_k3, ev_k4, ev_k5, ev_l0, ev_l1, sh_1, sh_2, sh_3, sh_4, sh_5, at_X11_readsSeat_35, at_X11_readsSeat_36, at_X11_readsSeat_50, at_X11_readsSeat_56, ca_X11_118, ca_X11_143, ca_X11_146, ca_X11_168, ca_X11_171, ca_X11_174, cd_X11_readsSeat_0, cd_X11_readsSeat_35, cd_X11_readsSeat_36, cd_X11_readsSeat_50, cd_X11_readsSeat_56, fl_X11_62, no_0, no_1, no_lt, no_le, no_eq, no_lt0, no_ge0, no_gt0, no_le0, no_eq0, no_0eq, no_eqm, no_meq, no_m0, no_mlt, no_mge, no_mgt, no_mm, no_i01, no_i10, no_in, no_or, no_ifm, no_mul, nI_add, no_sub, pk_div, iI_if, nI_clamp, oI_n, oI_s, not_true_eq_false, not_false_eq_true, forall_const, true_implies, false_and, and_false, or_false, false_or, Classical.not_not, true_or, or_true, no_b, no_eq1, eq_self, and_self, sk_301, sk_302, sl_302, sp_301, n0, w0, re_10, re_n, mw_re, f1, y, rN_n z1, rP_n z1, rT_n z1, er_n z1, nx_n z1, nW_n z1])
      | (with_reducible refine And.intro (fun q => ?_) (fun q => ?_) <;> (try simp (disch := first | omega | assumption) only [no_0, no_1, no_lt, no_le, no_eq, no_lt0, no_ge0, no_gt0, no_le0, no_eq0, no_0eq, no_eqm, no_meq, no_m0, no_mlt, no_mge, no_mgt, no_mm, no_i01, no_i10, no_in, no_or, no_ifm, no_mul, nI_add, no_sub, pk_div, iI_if, nI_clamp, oI_n, oI_s, not_true_eq_false, not_false_eq_true, forall_const, true_implies, false_and, and_false, or_false, false_or, Classical.not_not, true_or, or_true, no_b, no_eq1, eq_self, and_self, sk_301, sk_302, sl_302, sp_301, n0, w0, re_10, re_n, mw_re, f1, y, rN_n z1, rP_n z1, rT_n z1, er_n z1, nx_n z1, nW_n z1] at q))
      | with_reducible refine ev_ci (m_go hok (by first | with_reducible assumption | exact RB_mw (by with_reducible assumption)) ?_) ?_
      | with_reducible refine ev_ci (m_readPerson hok (by with_reducible assumption) (by with_reducible assumption) (by with_reducible assumption) ?_) ?_
      | with_reducible refine ev_ci (m_pancakeHere hok (by with_reducible assumption) ?_ (by with_reducible assumption) (by with_reducible assumption)) ?_
      | with_reducible refine ev_ci (m_X11_why hok (by first | exact MR_re (by with_reducible assumption) | exact MR_re mw_R) (by with_reducible assumption) ?_ ?_) ?_
      | with_reducible refine ev_ci (m_limits1 hok ?_) ?_
      | with_reducible refine ev_ci (m_limits0 hok ?_) ?_
      | with_reducible refine ev_ci (m_X11_seats hok (by first | exact MR_re (by with_reducible assumption) | exact MR_re mw_R) ?_ ?_) ?_
      | omega
      | with_reducible assumption
      | with_reducible rfl
      | with_reducible refine lp_nx ?_ ?_ ?_ ?_
      | with_reducible refine lp_st ?_ ?_ ?_
      | with_reducible refine ls_c ?_ ?_
      | with_reducible refine vi_c ?_
      | with_reducible refine re_c ?_
      | with_reducible refine vz_c ?_
      | with_reducible refine rz_c ?_
      | exact trivial
      | with_reducible refine And.intro ?_ ?_
      | simp (disch := first | omega | assumption) only [ev_run_c, ev_run_n, ev_fj, ev_stp, ev_lk, ev_fv, ev_as, ev_sz, ev_st1, ev_st2, ev_rm, ev_pk, ev_Jof, ev_go, lv_args, List.map_cons, List.map_nil, List.zip_cons_cons, List.zip_nil_left, List.zip_nil_right, List.nil_append, List.cons_append, ↓reduceIte, reduceCtorEq, Int.reduceToNat, Nat.reduceEqDiff, Nat.reduceAdd, Nat.reduceLT, Nat.reduceLeDiff, Nat.reduceMul, Nat.reduceSub, Value.category, false_implies, true_and, and_true, Bool.false_eq_true, Option.some.injEq, exists_eq_left', Option.toList_some, Option.toList_none, ev_km, ev_k2, ev_k3, ev_k4, ev_k5, ev_l0, ev_l1, sh_1, sh_2, sh_3, sh_4, sh_5, at_X11_readsSeat_35, at_X11_readsSeat_36, at_X11_readsSeat_50, at_X11_readsSeat_56, ca_X11_118, ca_X11_143, ca_X11_146, ca_X11_168, ca_X11_171, ca_X11_174, cd_X11_readsSeat_0, cd_X11_readsSeat_35, cd_X11_readsSeat_36, cd_X11_readsSeat_50, cd_X11_readsSeat_56, fl_X11_62, no_0, no_1, no_lt, no_le, no_eq, no_lt0, no_ge0, no_gt0, no_le0, no_eq0, no_0eq, no_eqm, no_meq, no_m0, no_mlt, no_mge, no_mgt, no_mm, no_i01, no_i10, no_in, no_or, no_ifm, no_mul, nI_add, no_sub, pk_div, iI_if, nI_clamp, oI_n, oI_s, not_true_eq_false, not_false_eq_true, forall_const, true_implies, false_and, and_false, or_false, false_or, Classical.not_not, true_or, or_true, no_b, no_eq1, eq_self, and_self, sk_301, sk_302, sl_302, sp_301, n0, w0, re_10, re_n, mw_re, f1, y, rN_n z1, rP_n z1, rT_n z1, er_n z1, nx_n z1, nW_n z1]
      | exact rfl
      | (split <;> omega))
  · have z1 : e1.1 = 0 := Classical.byContradiction z1
    have g1 := z1
    rw [← f1] at g1
    have s1 := rP_0 g1
    have p1 := pz_0 g1
    have b1 : pv B n N (a + 1) < 16 := by omega
    have n1 : nx e1 (a + 1) = a + 1 + 1 := nx_0 z1
    have hv2 := NV_nx (B := B) (n := n) (e := e1) (a := a + 1) hv1
    rw [n1] at hv2
    generalize w1 : nW B n e1 (a + 1) v1 = v2 at hv2
    obtain ⟨e2, f2⟩ : ∃ e, rN B n e1 (a + 1 + 1) 0 (N 1) = e := ⟨_, rfl⟩
    have c2 : e2.1 < 5 := by rw [← f2]; exact rN_c c1
    rw [f2]
    by_cases z2 : ¬ e2.1 = 0
    · have y : (e2.1 = 0) = False := eq_false z2
      try simp only [rN_n z2, rP_n z2, er_n z2]
      refine ⟨a + 1 + 1, v2, μ, ?_, Fw_rf, hv2, fun q => absurd q z2⟩
      refine ev_tri hok (okM_X11_readsSeat 0) (Nat.le_of_ble_eq_true rfl) 400 ?_
      rw [at_X11_readsSeat_0]
      repeat' (first
        | (with_reducible refine ev_rid ?_; simp (disch := first | omega | assumption) only [ev_run_c, ev_run_n, ev_fj, ev_stp, ev_lk, ev_fv, ev_as, ev_sz, ev_st1, ev_st2, ev_rm, ev_pk, ev_Jof, ev_go, lv_args, List.map_cons, List.map_nil, List.zip_cons_cons, List.zip_nil_left, List.zip_nil_right, List.nil_append, List.cons_append, ↓reduceIte, reduceCtorEq, Int.reduceToNat, Nat.reduceEqDiff, Nat.reduceAdd, Nat.reduceLT, Nat.reduceLeDiff, Nat.reduceMul, Nat.reduceSub, Value.category, false_implies, true_and, and_true, Bool.false_eq_true, Option.some.injEq, exists_eq_left', Option.toList_some, Option.toList_none, ev_km, ev_k2, ev_k3, ev_k4, ev_k5, ev_l0, ev_l1, sh_1, sh_2, sh_3, sh_4, sh_5, at_X11_readsSeat_35, at_X11_readsSeat_36, at_X11_readsSeat_50, at_X11_readsSeat_56, ca_X11_118, ca_X11_143, ca_X11_146, ca_X11_168, ca_X11_171, ca_X11_174, cd_X11_readsSeat_0, cd_X11_readsSeat_35, cd_X11_readsSeat_36, cd_X11_readsSeat_50, cd_X11_readsSeat_56, fl_X11_62, no_0, no_1, no_lt, no_le, no_eq, no_lt0, no_ge0, no_gt0, no_le0, no_eq0, no_0eq, no_eqm, no_meq, no_m0, no_mlt, no_mge, no_mgt, no_mm, no_i01, no_i10, no_in, no_or, no_ifm, no_mul, nI_add, no_sub, pk_div, iI_if, nI_clamp, oI_n, oI_s, not_true_eq_false, not_false_eq_true, forall_const, true_implies, false_and, and_false, or_false, false_or, Classical.not_not, true_or, or_true, no_b, no_eq1, eq_self, and_self, sk_301, sk_302, sl_302, sp_301, n0, w0, re_10, re_n, mw_re, f1, z1, p1, n1, w1, f2, y, rN_n z2, rP_n z2, rT_n z2, er_n z2, nx_n z2, nW_n z2])
        | (with_reducible refine ev_gid ?_; simp (disch := first | omega | assumption) only [ev_run_c, ev_run_n, ev_fj, ev_stp, ev_lk, ev_fv, ev_as, ev_sz, ev_st1, ev_st2, ev_rm, ev_pk, ev_Jof, ev_go, lv_args, List.map_cons, List.map_nil, List.zip_cons_cons, List.zip_nil_left, List.zip_nil_right, List.nil_append, List.cons_append, ↓reduceIte, reduceCtorEq, Int.reduceToNat, Nat.reduceEqDiff, Nat.reduceAdd, Nat.reduceLT, Nat.reduceLeDiff, Nat.reduceMul, Nat.reduceSub, Value.category, false_implies, true_and, and_true, Bool.false_eq_true, Option.some.injEq, exists_eq_left', Option.toList_some, Option.toList_none, ev_km, ev_k2, ev_k3, ev_k4, ev_k5, ev_l0, ev_l1, sh_1, sh_2, sh_3, sh_4, sh_5, at_X11_readsSeat_35, at_X11_readsSeat_36, at_X11_readsSeat_50, at_X11_readsSeat_56, ca_X11_118, ca_X11_143, ca_X11_146, ca_X11_168, ca_X11_171, ca_X11_174, cd_X11_readsSeat_0, cd_X11_readsSeat_35, cd_X11_readsSeat_36, cd_X11_readsSeat_50, cd_X11_readsSeat_56, fl_X11_62, no_0, no_1, no_lt, no_le, no_eq, no_lt0, no_ge0, no_gt0, no_le0, no_eq0, no_0eq, no_eqm, no_meq, no_m0, no_mlt, no_mge, no_mgt, no_mm, no_i01, no_i10, no_in, no_or, no_ifm, no_mul, nI_add, no_sub, pk_div, iI_if, nI_clamp, oI_n, oI_s, not_true_eq_false, not_false_eq_true, forall_const, true_implies, false_and, and_false, or_false, false_or, Classical.not_not, true_or, or_true, no_b, no_eq1, eq_self, and_self, sk_301, sk_302, sl_302, sp_301, n0, w0, re_10, re_n, mw_re, f1, z1, p1, n1, w1, f2, y, rN_n z2, rP_n z2, rT_n z2, er_n z2, nx_n z2, nW_n z2])
        | (with_reducible refine And.intro (fun q => ?_) (fun q => ?_) <;> (try simp (disch := first | omega | assumption) only [no_0, no_1, no_lt, no_le, no_eq, no_lt0, no_ge0, no_gt0, no_le0, no_eq0, no_0eq, no_eqm, no_meq, no_m0, no_mlt, no_mge, no_mgt, no_mm, no_i01, no_i10, no_in, no_or, no_ifm, no_mul, nI_add, no_sub, pk_div, iI_if, nI_clamp, oI_n, oI_s, not_true_eq_false, not_false_eq_true, forall_const, true_implies, false_and, and_false, or_false, false_or, Classical.not_not, true_or, or_true, no_b, no_eq1, eq_self, and_self, sk_301, sk_302, sl_302, sp_301, n0, w0, re_10, re_n, mw_re, f1, z1, p1, n1, w1, f2, y, rN_n z2, rP_n z2, rT_n z2, er_n z2, nx_n z2, nW_n z2] at q))
        | with_reducible refine ev_ci (m_go hok (by first | with_reducible assumption | exact RB_mw (by with_reducible assumption)) ?_) ?_
        | with_reducible refine ev_ci (m_readPerson hok (by with_reducible assumption) (by with_reducible assumption) (by with_reducible assumption) ?_) ?_
        | with_reducible refine ev_ci (m_pancakeHere hok (by with_reducible assumption) ?_ (by with_reducible assumption) (by with_reducible assumption)) ?_
        | with_reducible refine ev_ci (m_X11_why hok (by first | exact MR_re (by with_reducible assumption) | exact MR_re mw_R) (by with_reducible assumption) ?_ ?_) ?_
        | with_reducible refine ev_ci (m_limits1 hok ?_) ?_
        | with_reducible refine ev_ci (m_limits0 hok ?_) ?_
        | with_reducible refine ev_ci (m_X11_seats hok (by first | exact MR_re (by with_reducible assumption) | exact MR_re mw_R) ?_ ?_) ?_
        | omega
        | with_reducible assumption
        | with_reducible rfl
        | with_reducible refine lp_nx ?_ ?_ ?_ ?_
        | with_reducible refine lp_st ?_ ?_ ?_
        | with_reducible refine ls_c ?_ ?_
        | with_reducible refine vi_c ?_
        | with_reducible refine re_c ?_
        | with_reducible refine vz_c ?_
        | with_reducible refine rz_c ?_
        | exact trivial
        | with_reducible refine And.intro ?_ ?_
        | simp (disch := first | omega | assumption) only [ev_run_c, ev_run_n, ev_fj, ev_stp, ev_lk, ev_fv, ev_as, ev_sz, ev_st1, ev_st2, ev_rm, ev_pk, ev_Jof, ev_go, lv_args, List.map_cons, List.map_nil, List.zip_cons_cons, List.zip_nil_left, List.zip_nil_right, List.nil_append, List.cons_append, ↓reduceIte, reduceCtorEq, Int.reduceToNat, Nat.reduceEqDiff, Nat.reduceAdd, Nat.reduceLT, Nat.reduceLeDiff, Nat.reduceMul, Nat.reduceSub, Value.category, false_implies, true_and, and_true, Bool.false_eq_true, Option.some.injEq, exists_eq_left', Option.toList_some, Option.toList_none, ev_km, ev_k2, ev_k3, ev_k4, ev_k5, ev_l0, ev_l1, sh_1, sh_2, sh_3, sh_4, sh_5, at_X11_readsSeat_35, at_X11_readsSeat_36, at_X11_readsSeat_50, at_X11_readsSeat_56, ca_X11_118, ca_X11_143, ca_X11_146, ca_X11_168, ca_X11_171, ca_X11_174, cd_X11_readsSeat_0, cd_X11_readsSeat_35, cd_X11_readsSeat_36, cd_X11_readsSeat_50, cd_X11_readsSeat_56, fl_X11_62, no_0, no_1, no_lt, no_le, no_eq, no_lt0, no_ge0, no_gt0, no_le0, no_eq0, no_0eq, no_eqm, no_meq, no_m0, no_mlt, no_mge, no_mgt, no_mm, no_i01, no_i10, no_in, no_or, no_ifm, no_mul, nI_add, no_sub, pk_div, iI_if, nI_clamp, oI_n, oI_s, not_true_eq_false, not_false_eq_true, forall_const, true_implies, false_and, and_false, or_false, false_or, Classical.not_not, true_or, or_true, no_b, no_eq1, eq_self, and_self, sk_301, sk_302, sl_302, sp_301, n0, w0, re_10, re_n, mw_re, f1, z1, p1, n1, w1, f2, y, rN_n z2, rP_n z2, rT_n z2, er_n z2, nx_n z2, nW_n z2]
        | exact rfl
        | (split <;> omega))
    · have z2 : e2.1 = 0 := Classical.byContradiction z2
      have g2 := z2
      rw [← f2] at g2
      have s2 := nmc_0 (rN_0 g2).2.1
      have b2 : tvl B n (a + 1 + 1) < 10 := by omega
      have hx := why_le N (pv B n N (a + 1)) (tvl B n (a + 1 + 1))
      by_cases hc : why N (pv B n N (a + 1)) (tvl B n (a + 1 + 1)) ≠ 0
      · rw [er_True hc]
        obtain ⟨e9, f9⟩ : ∃ e, er e2 True 4 (a + 1 + 1) B n = e := ⟨_, rfl⟩
        have c9 : e9.1 < 5 := by rw [← f9]; exact er_c c2 (by decide)
        have z9 : ¬ e9.1 = 0 := by rw [← f9, er_T z2]; exact Nat.succ_ne_zero _
        have y : (e9.1 = 0) = False := eq_false z9
        rw [f9]
        refine ⟨a + 1 + 1, v2, μ, ?_, Fw_rf, hv2, fun q => absurd q z9⟩
        refine ev_tri hok (okM_X11_readsSeat 0) (Nat.le_of_ble_eq_true rfl) 400 ?_
        rw [at_X11_readsSeat_0]
        repeat' (first
          | (with_reducible refine ev_rid ?_; simp (disch := first | omega | assumption) only [ev_run_c, ev_run_n, ev_fj, ev_stp, ev_lk, ev_fv, ev_as, ev_sz, ev_st1, ev_st2, ev_rm, ev_pk, ev_Jof, ev_go, lv_args, List.map_cons, List.map_nil, List.zip_cons_cons, List.zip_nil_left, List.zip_nil_right, List.nil_append, List.cons_append, ↓reduceIte, reduceCtorEq, Int.reduceToNat, Nat.reduceEqDiff, Nat.reduceAdd, Nat.reduceLT, Nat.reduceLeDiff, Nat.reduceMul, Nat.reduceSub, Value.category, false_implies, true_and, and_true, Bool.false_eq_true, Option.some.injEq, exists_eq_left', Option.toList_some, Option.toList_none, ev_km, ev_k2, ev_k3, ev_k4, ev_k5, ev_l0, ev_l1, sh_1, sh_2, sh_3, sh_4, sh_5, at_X11_readsSeat_35, at_X11_readsSeat_36, at_X11_readsSeat_50, at_X11_readsSeat_56, ca_X11_118, ca_X11_143, ca_X11_146, ca_X11_168, ca_X11_171, ca_X11_174, cd_X11_readsSeat_0, cd_X11_readsSeat_35, cd_X11_readsSeat_36, cd_X11_readsSeat_50, cd_X11_readsSeat_56, fl_X11_62, no_0, no_1, no_lt, no_le, no_eq, no_lt0, no_ge0, no_gt0, no_le0, no_eq0, no_0eq, no_eqm, no_meq, no_m0, no_mlt, no_mge, no_mgt, no_mm, no_i01, no_i10, no_in, no_or, no_ifm, no_mul, nI_add, no_sub, pk_div, iI_if, nI_clamp, oI_n, oI_s, not_true_eq_false, not_false_eq_true, forall_const, true_implies, false_and, and_false, or_false, false_or, Classical.not_not, true_or, or_true, no_b, no_eq1, eq_self, and_self, sk_301, sk_302, sl_302, sp_301, n0, w0, re_10, re_n, mw_re, f1, z1, p1, n1, w1, f2, z2, f9, y, nx_n z9, nW_n z9])
          | (with_reducible refine ev_gid ?_; simp (disch := first | omega | assumption) only [ev_run_c, ev_run_n, ev_fj, ev_stp, ev_lk, ev_fv, ev_as, ev_sz, ev_st1, ev_st2, ev_rm, ev_pk, ev_Jof, ev_go, lv_args, List.map_cons, List.map_nil, List.zip_cons_cons, List.zip_nil_left, List.zip_nil_right, List.nil_append, List.cons_append, ↓reduceIte, reduceCtorEq, Int.reduceToNat, Nat.reduceEqDiff, Nat.reduceAdd, Nat.reduceLT, Nat.reduceLeDiff, Nat.reduceMul, Nat.reduceSub, Value.category, false_implies, true_and, and_true, Bool.false_eq_true, Option.some.injEq, exists_eq_left', Option.toList_some, Option.toList_none, ev_km, ev_k2, ev_k3, ev_k4, ev_k5, ev_l0, ev_l1, sh_1, sh_2, sh_3, sh_4, sh_5, at_X11_readsSeat_35, at_X11_readsSeat_36, at_X11_readsSeat_50, at_X11_readsSeat_56, ca_X11_118, ca_X11_143, ca_X11_146, ca_X11_168, ca_X11_171, ca_X11_174, cd_X11_readsSeat_0, cd_X11_readsSeat_35, cd_X11_readsSeat_36, cd_X11_readsSeat_50, cd_X11_readsSeat_56, fl_X11_62, no_0, no_1, no_lt, no_le, no_eq, no_lt0, no_ge0, no_gt0, no_le0, no_eq0, no_0eq, no_eqm, no_meq, no_m0, no_mlt, no_mge, no_mgt, no_mm, no_i01, no_i10, no_in, no_or, no_ifm, no_mul, nI_add, no_sub, pk_div, iI_if, nI_clamp, oI_n, oI_s, not_true_eq_false, not_false_eq_true, forall_const, true_implies, false_and, and_false, or_false, false_or, Classical.not_not, true_or, or_true, no_b, no_eq1, eq_self, and_self, sk_301, sk_302, sl_302, sp_301, n0, w0, re_10, re_n, mw_re, f1, z1, p1, n1, w1, f2, z2, f9, y, nx_n z9, nW_n z9])
          | (with_reducible refine And.intro (fun q => ?_) (fun q => ?_) <;> (try simp (disch := first | omega | assumption) only [no_0, no_1, no_lt, no_le, no_eq, no_lt0, no_ge0, no_gt0, no_le0, no_eq0, no_0eq, no_eqm, no_meq, no_m0, no_mlt, no_mge, no_mgt, no_mm, no_i01, no_i10, no_in, no_or, no_ifm, no_mul, nI_add, no_sub, pk_div, iI_if, nI_clamp, oI_n, oI_s, not_true_eq_false, not_false_eq_true, forall_const, true_implies, false_and, and_false, or_false, false_or, Classical.not_not, true_or, or_true, no_b, no_eq1, eq_self, and_self, sk_301, sk_302, sl_302, sp_301, n0, w0, re_10, re_n, mw_re, f1, z1, p1, n1, w1, f2, z2, f9, y, nx_n z9, nW_n z9] at q))
          | with_reducible refine ev_ci (m_go hok (by first | with_reducible assumption | exact RB_mw (by with_reducible assumption)) ?_) ?_
          | with_reducible refine ev_ci (m_readPerson hok (by with_reducible assumption) (by with_reducible assumption) (by with_reducible assumption) ?_) ?_
          | with_reducible refine ev_ci (m_pancakeHere hok (by with_reducible assumption) ?_ (by with_reducible assumption) (by with_reducible assumption)) ?_
          | with_reducible refine ev_ci (m_X11_why hok (by first | exact MR_re (by with_reducible assumption) | exact MR_re mw_R) (by with_reducible assumption) ?_ ?_) ?_
          | with_reducible refine ev_ci (m_limits1 hok ?_) ?_
          | with_reducible refine ev_ci (m_limits0 hok ?_) ?_
          | with_reducible refine ev_ci (m_X11_seats hok (by first | exact MR_re (by with_reducible assumption) | exact MR_re mw_R) ?_ ?_) ?_
          | omega
          | with_reducible assumption
          | with_reducible rfl
          | with_reducible refine lp_nx ?_ ?_ ?_ ?_
          | with_reducible refine lp_st ?_ ?_ ?_
          | with_reducible refine ls_c ?_ ?_
          | with_reducible refine vi_c ?_
          | with_reducible refine re_c ?_
          | with_reducible refine vz_c ?_
          | with_reducible refine rz_c ?_
          | exact trivial
          | with_reducible refine And.intro ?_ ?_
          | simp (disch := first | omega | assumption) only [ev_run_c, ev_run_n, ev_fj, ev_stp, ev_lk, ev_fv, ev_as, ev_sz, ev_st1, ev_st2, ev_rm, ev_pk, ev_Jof, ev_go, lv_args, List.map_cons, List.map_nil, List.zip_cons_cons, List.zip_nil_left, List.zip_nil_right, List.nil_append, List.cons_append, ↓reduceIte, reduceCtorEq, Int.reduceToNat, Nat.reduceEqDiff, Nat.reduceAdd, Nat.reduceLT, Nat.reduceLeDiff, Nat.reduceMul, Nat.reduceSub, Value.category, false_implies, true_and, and_true, Bool.false_eq_true, Option.some.injEq, exists_eq_left', Option.toList_some, Option.toList_none, ev_km, ev_k2, ev_k3, ev_k4, ev_k5, ev_l0, ev_l1, sh_1, sh_2, sh_3, sh_4, sh_5, at_X11_readsSeat_35, at_X11_readsSeat_36, at_X11_readsSeat_50, at_X11_readsSeat_56, ca_X11_118, ca_X11_143, ca_X11_146, ca_X11_168, ca_X11_171, ca_X11_174, cd_X11_readsSeat_0, cd_X11_readsSeat_35, cd_X11_readsSeat_36, cd_X11_readsSeat_50, cd_X11_readsSeat_56, fl_X11_62, no_0, no_1, no_lt, no_le, no_eq, no_lt0, no_ge0, no_gt0, no_le0, no_eq0, no_0eq, no_eqm, no_meq, no_m0, no_mlt, no_mge, no_mgt, no_mm, no_i01, no_i10, no_in, no_or, no_ifm, no_mul, nI_add, no_sub, pk_div, iI_if, nI_clamp, oI_n, oI_s, not_true_eq_false, not_false_eq_true, forall_const, true_implies, false_and, and_false, or_false, false_or, Classical.not_not, true_or, or_true, no_b, no_eq1, eq_self, and_self, sk_301, sk_302, sl_302, sp_301, n0, w0, re_10, re_n, mw_re, f1, z1, p1, n1, w1, f2, z2, f9, y, nx_n z9, nW_n z9]
          | exact rfl
          | (split <;> omega))
      · rw [er_f hc]
        have h1 : why N (pv B n N (a + 1)) (tvl B n (a + 1 + 1)) = 0 := Classical.byContradiction hc
        have h2 : N (952 + 9 * (tvl B n (a + 1 + 1)) + 5) < 3 := by have := iv_q hI (tvl B n (a + 1 + 1)) (by omega); have := why_z h1; omega
        have nn : nx e2 (a + 1 + 1) = a + 1 + 1 + 1 := nx_0 z2
        have hv9 := NV_nx (B := B) (n := n) (e := e2) (a := a + 1 + 1) hv2
        rw [nn] at hv9
        generalize w9 : nW B n e2 (a + 1 + 1) v2 = v9 at hv9
        refine ⟨a + 1 + 1 + 1, v9, mw μ (stN N (pv B n N (a + 1)) (tvl B n (a + 1 + 1))), ?_, Fw_mw, hv9, fun _ => ⟨rfl, mw_R⟩⟩
        refine ev_tri hok (okM_X11_readsSeat 0) (Nat.le_of_ble_eq_true rfl) 400 ?_
        rw [at_X11_readsSeat_0]
        repeat' (first
          | (with_reducible refine ev_rid ?_; simp (disch := first | omega | assumption) only [ev_run_c, ev_run_n, ev_fj, ev_stp, ev_lk, ev_fv, ev_as, ev_sz, ev_st1, ev_st2, ev_rm, ev_pk, ev_Jof, ev_go, lv_args, List.map_cons, List.map_nil, List.zip_cons_cons, List.zip_nil_left, List.zip_nil_right, List.nil_append, List.cons_append, ↓reduceIte, reduceCtorEq, Int.reduceToNat, Nat.reduceEqDiff, Nat.reduceAdd, Nat.reduceLT, Nat.reduceLeDiff, Nat.reduceMul, Nat.reduceSub, Value.category, false_implies, true_and, and_true, Bool.false_eq_true, Option.some.injEq, exists_eq_left', Option.toList_some, Option.toList_none, ev_km, ev_k2, ev_k3, ev_k4, ev_k5, ev_l0, ev_l1, sh_1, sh_2, sh_3, sh_4, sh_5, at_X11_readsSeat_35, at_X11_readsSeat_36, at_X11_readsSeat_50, at_X11_readsSeat_56, ca_X11_118, ca_X11_143, ca_X11_146, ca_X11_168, ca_X11_171, ca_X11_174, cd_X11_readsSeat_0, cd_X11_readsSeat_35, cd_X11_readsSeat_36, cd_X11_readsSeat_50, cd_X11_readsSeat_56, fl_X11_62, no_0, no_1, no_lt, no_le, no_eq, no_lt0, no_ge0, no_gt0, no_le0, no_eq0, no_0eq, no_eqm, no_meq, no_m0, no_mlt, no_mge, no_mgt, no_mm, no_i01, no_i10, no_in, no_or, no_ifm, no_mul, nI_add, no_sub, pk_div, iI_if, nI_clamp, oI_n, oI_s, not_true_eq_false, not_false_eq_true, forall_const, true_implies, false_and, and_false, or_false, false_or, Classical.not_not, true_or, or_true, no_b, no_eq1, eq_self, and_self, sk_301, sk_302, sl_302, sp_301, n0, w0, re_10, re_n, mw_re, mw_mw, f1, z1, p1, n1, w1, f2, z2, h1, nn, w9])
          | (with_reducible refine ev_gid ?_; simp (disch := first | omega | assumption) only [ev_run_c, ev_run_n, ev_fj, ev_stp, ev_lk, ev_fv, ev_as, ev_sz, ev_st1, ev_st2, ev_rm, ev_pk, ev_Jof, ev_go, lv_args, List.map_cons, List.map_nil, List.zip_cons_cons, List.zip_nil_left, List.zip_nil_right, List.nil_append, List.cons_append, ↓reduceIte, reduceCtorEq, Int.reduceToNat, Nat.reduceEqDiff, Nat.reduceAdd, Nat.reduceLT, Nat.reduceLeDiff, Nat.reduceMul, Nat.reduceSub, Value.category, false_implies, true_and, and_true, Bool.false_eq_true, Option.some.injEq, exists_eq_left', Option.toList_some, Option.toList_none, ev_km, ev_k2, ev_k3, ev_k4, ev_k5, ev_l0, ev_l1, sh_1, sh_2, sh_3, sh_4, sh_5, at_X11_readsSeat_35, at_X11_readsSeat_36, at_X11_readsSeat_50, at_X11_readsSeat_56, ca_X11_118, ca_X11_143, ca_X11_146, ca_X11_168, ca_X11_171, ca_X11_174, cd_X11_readsSeat_0, cd_X11_readsSeat_35, cd_X11_readsSeat_36, cd_X11_readsSeat_50, cd_X11_readsSeat_56, fl_X11_62, no_0, no_1, no_lt, no_le, no_eq, no_lt0, no_ge0, no_gt0, no_le0, no_eq0, no_0eq, no_eqm, no_meq, no_m0, no_mlt, no_mge, no_mgt, no_mm, no_i01, no_i10, no_in, no_or, no_ifm, no_mul, nI_add, no_sub, pk_div, iI_if, nI_clamp, oI_n, oI_s, not_true_eq_false, not_false_eq_true, forall_const, true_implies, false_and, and_false, or_false, false_or, Classical.not_not, true_or, or_true, no_b, no_eq1, eq_self, and_self, sk_301, sk_302, sl_302, sp_301, n0, w0, re_10, re_n, mw_re, mw_mw, f1, z1, p1, n1, w1, f2, z2, h1, nn, w9])
          | (with_reducible refine And.intro (fun q => ?_) (fun q => ?_) <;> (try simp (disch := first | omega | assumption) only [no_0, no_1, no_lt, no_le, no_eq, no_lt0, no_ge0, no_gt0, no_le0, no_eq0, no_0eq, no_eqm, no_meq, no_m0, no_mlt, no_mge, no_mgt, no_mm, no_i01, no_i10, no_in, no_or, no_ifm, no_mul, nI_add, no_sub, pk_div, iI_if, nI_clamp, oI_n, oI_s, not_true_eq_false, not_false_eq_true, forall_const, true_implies, false_and, and_false, or_false, false_or, Classical.not_not, true_or, or_true, no_b, no_eq1, eq_self, and_self, sk_301, sk_302, sl_302, sp_301, n0, w0, re_10, re_n, mw_re, mw_mw, f1, z1, p1, n1, w1, f2, z2, h1, nn, w9] at q))
          | with_reducible refine ev_ci (m_go hok (by first | with_reducible assumption | exact RB_mw (by with_reducible assumption)) ?_) ?_
          | with_reducible refine ev_ci (m_readPerson hok (by with_reducible assumption) (by with_reducible assumption) (by with_reducible assumption) ?_) ?_
          | with_reducible refine ev_ci (m_pancakeHere hok (by with_reducible assumption) ?_ (by with_reducible assumption) (by with_reducible assumption)) ?_
          | with_reducible refine ev_ci (m_X11_why hok (by first | exact MR_re (by with_reducible assumption) | exact MR_re mw_R) (by with_reducible assumption) ?_ ?_) ?_
          | with_reducible refine ev_ci (m_limits1 hok ?_) ?_
          | with_reducible refine ev_ci (m_limits0 hok ?_) ?_
          | with_reducible refine ev_ci (m_X11_seats hok (by first | exact MR_re (by with_reducible assumption) | exact MR_re mw_R) ?_ ?_) ?_
          | omega
          | with_reducible assumption
          | with_reducible rfl
          | with_reducible refine lp_nx ?_ ?_ ?_ ?_
          | with_reducible refine lp_st ?_ ?_ ?_
          | with_reducible refine ls_c ?_ ?_
          | with_reducible refine vi_c ?_
          | with_reducible refine re_c ?_
          | with_reducible refine vz_c ?_
          | with_reducible refine rz_c ?_
          | exact trivial
          | with_reducible refine And.intro ?_ ?_
          | simp (disch := first | omega | assumption) only [ev_run_c, ev_run_n, ev_fj, ev_stp, ev_lk, ev_fv, ev_as, ev_sz, ev_st1, ev_st2, ev_rm, ev_pk, ev_Jof, ev_go, lv_args, List.map_cons, List.map_nil, List.zip_cons_cons, List.zip_nil_left, List.zip_nil_right, List.nil_append, List.cons_append, ↓reduceIte, reduceCtorEq, Int.reduceToNat, Nat.reduceEqDiff, Nat.reduceAdd, Nat.reduceLT, Nat.reduceLeDiff, Nat.reduceMul, Nat.reduceSub, Value.category, false_implies, true_and, and_true, Bool.false_eq_true, Option.some.injEq, exists_eq_left', Option.toList_some, Option.toList_none, ev_km, ev_k2, ev_k3, ev_k4, ev_k5, ev_l0, ev_l1, sh_1, sh_2, sh_3, sh_4, sh_5, at_X11_readsSeat_35, at_X11_readsSeat_36, at_X11_readsSeat_50, at_X11_readsSeat_56, ca_X11_118, ca_X11_143, ca_X11_146, ca_X11_168, ca_X11_171, ca_X11_174, cd_X11_readsSeat_0, cd_X11_readsSeat_35, cd_X11_readsSeat_36, cd_X11_readsSeat_50, cd_X11_readsSeat_56, fl_X11_62, no_0, no_1, no_lt, no_le, no_eq, no_lt0, no_ge0, no_gt0, no_le0, no_eq0, no_0eq, no_eqm, no_meq, no_m0, no_mlt, no_mge, no_mgt, no_mm, no_i01, no_i10, no_in, no_or, no_ifm, no_mul, nI_add, no_sub, pk_div, iI_if, nI_clamp, oI_n, oI_s, not_true_eq_false, not_false_eq_true, forall_const, true_implies, false_and, and_false, or_false, false_or, Classical.not_not, true_or, or_true, no_b, no_eq1, eq_self, and_self, sk_301, sk_302, sl_302, sp_301, n0, w0, re_10, re_n, mw_re, mw_mw, f1, z1, p1, n1, w1, f2, z2, h1, nn, w9]
          | exact rfl
          | (split <;> omega))
end RItA
