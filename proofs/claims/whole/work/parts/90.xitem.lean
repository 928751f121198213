/-! ===== the class's parser: items (by program, wip/whole/genrd.py) ===== -/
section XItem
variable {G : ev_G} {N : Nat → Nat} {B : Nat → Nat} {n m p : Nat} {μ μ' : ev_M}
def q_bid (B : Nat → Nat) (n : Nat) (N : Nat → Nat) (a : Nat) : Nat × Int32 := rN B n (rN B n (er (rP B n N (0, -1) a) (N (8 + 59 * (pv B n N a) + 1) = 0) 3 a B n) (a + 1) 0 (N 1)) (a + 1 + 1) 0 4
set_option maxHeartbeats 1000000 in
theorem rd_bid (hok : ev_ok sh_S G) (hT : TT B n m μ) (hp6 : p = 6) (hP : PR p N μ) (hI : INV N) {a : Nat} (ha : a ≤ m) : RD G mi_X7_readBid a μ (q_bid B n N a) (up N (8 + 59 * (pv B n N a) + (13 + (tvl B n (a + 1)))) (tvl B n (a + 1 + 1))) (a + 1 + 1 + 1) := by
  have hK := And.intro pk_5.1 pk_5.2.2
  have hpp : sh_pt 5 0 = p := by rw [hp6]; exact pk_5.2.1
  have hp : p ∈ sh_B := by rw [hp6]; exact sh_6
  have hlt := xp_lt hp
  have hh := iv_h hI
  have hm5 := hT.1
  have hP6 : PR 6 N μ := by rw [← hp6]; exact hP
  unfold q_bid
  have h1 := m_person (e := (0, -1)) (a := a) hok hT hP6 hh.1 (by decide) (fun _ => ha) (by omega)
  have c1 : (rP B n N (0, -1) a).1 < 5 := rP_c (by decide)
  have g1 := fun (h : (rP B n N (0, -1) a).1 = 0) => (rP_0 h).1
  have n1 : (rP B n N (0, -1) a).1 = 0 → a + 1 ≤ m := rP_nx hT (fun _ => ha)
  have v1 : (rP B n N (0, -1) a).1 = 0 → pv B n N a < N 0 := fun h => (rP_0 h).2.2.2.1
  have t1 : (rP B n N (0, -1) a).1 = 0 → a ≤ m := fun h => (fun _ => ha) (rP_0 h).1
  generalize rP B n N (0, -1) a = e1 at h1 c1 g1 n1 v1 t1 ⊢
  have h2 := m_checkTaster (e := e1) (a := a) (i := (pv B n N a)) hok hT hp6 hP hI c1 t1 (by omega) (fun h => by have := v1 h; omega)
  have c2 : (er e1 (N (8 + 59 * (pv B n N a) + 1) = 0) 3 a B n).1 < 5 := er_c c1 (by decide)
  have g2 := fun (h : (er e1 (N (8 + 59 * (pv B n N a) + 1) = 0) 3 a B n).1 = 0) => (er_0 h (by decide)).1
  have n2 : (er e1 (N (8 + 59 * (pv B n N a) + 1) = 0) 3 a B n).1 = 0 → a + 1 ≤ m := er_nx (by decide) n1
  have w2 : (er e1 (N (8 + 59 * (pv B n N a) + 1) = 0) 3 a B n).1 = 0 → ¬ (N (8 + 59 * (pv B n N a) + 1) = 0) := fun h => (er_0 h (by decide)).2.1
  generalize er e1 (N (8 + 59 * (pv B n N a) + 1) = 0) 3 a B n = e2 at h2 c2 g2 n2 w2 ⊢
  have h3 := m_pancake (e := e2) (a := a + 1) hok hT hP6 hh.2.1 c2 n2 (by omega)
  have c3 : (rN B n e2 (a + 1) 0 (N 1)).1 < 5 := rN_c c2
  have g3 := fun (h : (rN B n e2 (a + 1) 0 (N 1)).1 = 0) => (rN_0 h).1
  have n3 : (rN B n e2 (a + 1) 0 (N 1)).1 = 0 → a + 1 + 1 ≤ m := rN_nx hT n2
  have v3 : (rN B n e2 (a + 1) 0 (N 1)).1 = 0 → tvl B n (a + 1) < N 1 := fun h => (nmc_0 (rN_0 h).2.1).2.2
  have t3 : (rN B n e2 (a + 1) 0 (N 1)).1 = 0 → (a + 1) ≤ m := fun h => n2 (rN_0 h).1
  generalize rN B n e2 (a + 1) 0 (N 1) = e3 at h3 c3 g3 n3 v3 t3 ⊢
  have h4 := m_number (e := e3) (a := a + 1 + 1) (l := 0) (g := 4) (y := nI 3) hok hT c3 n3 (by omega) (by omega) (by omega) (by decide)
  have c4 : (rN B n e3 (a + 1 + 1) 0 4).1 < 5 := rN_c c3
  have g4 := fun (h : (rN B n e3 (a + 1 + 1) 0 4).1 = 0) => (rN_0 h).1
  have n4 : (rN B n e3 (a + 1 + 1) 0 4).1 = 0 → a + 1 + 1 + 1 ≤ m := rN_nx hT n3
  have v4 : (rN B n e3 (a + 1 + 1) 0 4).1 = 0 → 0 ≤ tvl B n (a + 1 + 1) ∧ tvl B n (a + 1 + 1) < 4 := fun h => (nmc_0 (rN_0 h).2.1).2
  have t4 : (rN B n e3 (a + 1 + 1) 0 4).1 = 0 → (a + 1 + 1) ≤ m := fun h => n3 (rN_0 h).1
  generalize rN B n e3 (a + 1 + 1) 0 4 = e4 at h4 c4 g4 n4 v4 t4 ⊢
  by_cases hz : e4.1 = 0
  · have z4 := hz
    have z3 := g4 z4
    have z2 := g3 z3
    have z1 := g2 z2
    have u1 := v1 z1
    have u3 := v3 z3
    have u4 := v4 z4
    have r1 : rv e1.1 (pv B n N a) = nI (pv B n N a) := by rw [z1]; rfl
    have r3 : rv e3.1 (tvl B n (a + 1)) = nI (tvl B n (a + 1)) := by rw [z3]; rfl
    have r4 : rv e4.1 (tvl B n (a + 1 + 1)) = nI (tvl B n (a + 1 + 1)) := by rw [z4]; rfl
    try simp only [r1, r3, r4] at h1
    try simp only [r1, r3, r4] at h2
    try simp only [r1, r3, r4] at h3
    try simp only [r1, r3, r4] at h4
    have hPz : PR p N (pe e4 (a + 1 + 1 + 1) μ) := PR_p hp6 hP
    have hop := m_X8_set (μ := pe e4 (a + 1 + 1 + 1) μ) hok (sh_T9 hp) (xp_t9 hp) (i := (pv B n N a)) (j := (tvl B n (a + 1))) (by omega) (by omega) (nI (tvl B n (a + 1 + 1)))
    refine RD_o hp6 (μ'' := w1 (pe e4 (a + 1 + 1 + 1) μ) (p + 10) ((pv B n N a) * 10 + (tvl B n (a + 1))) (nI (tvl B n (a + 1 + 1)))) ?_ hz (Fp_w1 Fp_rf (by omega) (by omega)) (PR_sbi hPz (fun j hj => (iv_p hI j hj).2) (by omega) (by omega) hh.1 hh.2.1)
    refine ev_tri hok okM_X7_readBid (Nat.le_of_ble_eq_true rfl) 400 ?_
    rw [at_X7_readBid_0]
    repeat' (first
      | (with_reducible refine ev_rid ?_; simp (disch := first | omega | assumption) only [ev_run_c, ev_run_n, ev_fj, ev_stp, ev_lk, ev_fv, ev_as, ev_sz, ev_st1, ev_st2, ev_rm, ev_pk, ev_Jof, ev_go, lv_args, List.map_cons, List.map_nil, List.zip_cons_cons, List.zip_nil_left, List.zip_nil_right, List.nil_append, List.cons_append, ↓reduceIte, reduceCtorEq, Int.reduceToNat, Nat.reduceEqDiff, Nat.reduceAdd, Nat.reduceLT, Nat.reduceLeDiff, Nat.reduceMul, Nat.reduceSub, Value.category, false_implies, true_and, and_true, Bool.false_eq_true, Option.some.injEq, exists_eq_left', Option.toList_some, Option.toList_none, ev_km, ev_k2, ev_k3, ev_k4, ev_k5, ev_l0, ev_l1, sh_1, sh_2, sh_3, sh_4, sh_5, at_X7_readBid_42, ca_X7_199, ca_X7_210, ca_X7_240, ca_X7_243, ca_X7_81, cd_X7_readBid_0, cd_X7_readBid_42, fl_X7_12, fl_X7_246, fl_X7_43, no_0, no_1, no_lt, no_le, no_eq, no_lt0, no_ge0, no_gt0, no_le0, no_eq0, no_0eq, no_eqm, no_meq, no_m0, no_mlt, no_mge, no_mgt, no_mm, no_i01, no_i10, no_in, no_or, no_ifm, no_mul, nI_add, no_sub, pk_div, iI_if, nI_clamp, oI_n, oI_s, not_true_eq_false, not_false_eq_true, forall_const, true_implies, false_and, and_false, or_false, false_or, Classical.not_not, true_or, or_true, no_b, no_eq1, eq_self, and_self, xk_0 hp, xk_1 hp, xk_2 hp, xk_3 hp, xk_4 hp, xk_5 hp, xk_6 hp, xk_7 hp, xk_8 hp, xk_9 hp, xk_10 hp, xk_11 hp, xk_12 hp, xk_13 hp, xk_14 hp, xk_15 hp, xk_16 hp, xk_17 hp, xk_18 hp, xk_19 hp, xk_20 hp, xk_21 hp, xl_1 hp, xl_2 hp, xl_3 hp, xl_4 hp, xl_6 hp, xl_8 hp, xl_10 hp, xl_12 hp, xl_14 hp, xl_15 hp, xl_17 hp, xl_18 hp, xl_21 hp, xp_7 hp, xp_8 hp, xp_9 hp, xp_10 hp, xp_11 hp, xp_12 hp, xp_13 hp, xp_14 hp, xp_15 hp, xp_16 hp, xp_17 hp, xp_t5 hp, xp_t7 hp, xp_t9 hp, xp_t11 hp, xp_t20 hp, xp_s19 hp, xp_a13 hp, xp_b13 hp, xp_a16 hp, xp_b16 hp, xc_r5 hp, xc_c5 hp, xc_r7 hp, xc_c7 hp, xc_r9 hp, xc_c9 hp, xc_r11 hp, xc_c11 hp, xc_r20 hp, xc_c20 hp, no_on, hK, hpp, pe_1, pe_7, pe_w7, w1_d, hz])
      | (with_reducible refine ev_gid ?_; simp (disch := first | omega | assumption) only [ev_run_c, ev_run_n, ev_fj, ev_stp, ev_lk, ev_fv, ev_as, ev_sz, ev_st1, ev_st2, ev_rm, ev_pk, ev_Jof, ev_go, lv_args, List.map_cons, List.map_nil, List.zip_cons_cons, List.zip_nil_left, List.zip_nil_right, List.nil_append, List.cons_append, ↓reduceIte, reduceCtorEq, Int.reduceToNat, Nat.reduceEqDiff, Nat.reduceAdd, Nat.reduceLT, Nat.reduceLeDiff, Nat.reduceMul, Nat.reduceSub, Value.category, false_implies, true_and, and_true, Bool.false_eq_true, Option.some.injEq, exists_eq_left', Option.toList_some, Option.toList_none, ev_km, ev_k2, ev_k3, ev_k4, ev_k5, ev_l0, ev_l1, sh_1, sh_2, sh_3, sh_4, sh_5, at_X7_readBid_42, ca_X7_199, ca_X7_210, ca_X7_240, ca_X7_243, ca_X7_81, cd_X7_readBid_0, cd_X7_readBid_42, fl_X7_12, fl_X7_246, fl_X7_43, no_0, no_1, no_lt, no_le, no_eq, no_lt0, no_ge0, no_gt0, no_le0, no_eq0, no_0eq, no_eqm, no_meq, no_m0, no_mlt, no_mge, no_mgt, no_mm, no_i01, no_i10, no_in, no_or, no_ifm, no_mul, nI_add, no_sub, pk_div, iI_if, nI_clamp, oI_n, oI_s, not_true_eq_false, not_false_eq_true, forall_const, true_implies, false_and, and_false, or_false, false_or, Classical.not_not, true_or, or_true, no_b, no_eq1, eq_self, and_self, xk_0 hp, xk_1 hp, xk_2 hp, xk_3 hp, xk_4 hp, xk_5 hp, xk_6 hp, xk_7 hp, xk_8 hp, xk_9 hp, xk_10 hp, xk_11 hp, xk_12 hp, xk_13 hp, xk_14 hp, xk_15 hp, xk_16 hp, xk_17 hp, xk_18 hp, xk_19 hp, xk_20 hp, xk_21 hp, xl_1 hp, xl_2 hp, xl_3 hp, xl_4 hp, xl_6 hp, xl_8 hp, xl_10 hp, xl_12 hp, xl_14 hp, xl_15 hp, xl_17 hp, xl_18 hp, xl_21 hp, xp_7 hp, xp_8 hp, xp_9 hp, xp_10 hp, xp_11 hp, xp_12 hp, xp_13 hp, xp_14 hp, xp_15 hp, xp_16 hp, xp_17 hp, xp_t5 hp, xp_t7 hp, xp_t9 hp, xp_t11 hp, xp_t20 hp, xp_s19 hp, xp_a13 hp, xp_b13 hp, xp_a16 hp, xp_b16 hp, xc_r5 hp, xc_c5 hp, xc_r7 hp, xc_c7 hp, xc_r9 hp, xc_c9 hp, xc_r11 hp, xc_c11 hp, xc_r20 hp, xc_c20 hp, no_on, hK, hpp, pe_1, pe_7, pe_w7, w1_d, hz])
      | (with_reducible refine And.intro (fun q => ?_) (fun q => ?_) <;> (try simp (disch := first | omega | assumption) only [no_0, no_1, no_lt, no_le, no_eq, no_lt0, no_ge0, no_gt0, no_le0, no_eq0, no_0eq, no_eqm, no_meq, no_m0, no_mlt, no_mge, no_mgt, no_mm, no_i01, no_i10, no_in, no_or, no_ifm, no_mul, nI_add, no_sub, pk_div, iI_if, nI_clamp, oI_n, oI_s, not_true_eq_false, not_false_eq_true, forall_const, true_implies, false_and, and_false, or_false, false_or, Classical.not_not, true_or, or_true, no_b, no_eq1, eq_self, and_self, xk_0 hp, xk_1 hp, xk_2 hp, xk_3 hp, xk_4 hp, xk_5 hp, xk_6 hp, xk_7 hp, xk_8 hp, xk_9 hp, xk_10 hp, xk_11 hp, xk_12 hp, xk_13 hp, xk_14 hp, xk_15 hp, xk_16 hp, xk_17 hp, xk_18 hp, xk_19 hp, xk_20 hp, xk_21 hp, xl_1 hp, xl_2 hp, xl_3 hp, xl_4 hp, xl_6 hp, xl_8 hp, xl_10 hp, xl_12 hp, xl_14 hp, xl_15 hp, xl_17 hp, xl_18 hp, xl_21 hp, xp_7 hp, xp_8 hp, xp_9 hp, xp_10 hp, xp_11 hp, xp_12 hp, xp_13 hp, xp_14 hp, xp_15 hp, xp_16 hp, xp_17 hp, xp_t5 hp, xp_t7 hp, xp_t9 hp, xp_t11 hp, xp_t20 hp, xp_s19 hp, xp_a13 hp, xp_b13 hp, xp_a16 hp, xp_b16 hp, xc_r5 hp, xc_c5 hp, xc_r7 hp, xc_c7 hp, xc_r9 hp, xc_c9 hp, xc_r11 hp, xc_c11 hp, xc_r20 hp, xc_c20 hp, no_on, hK, hpp, pe_1, pe_7, pe_w7, w1_d, hz] at q))
      | (with_reducible refine ev_ci h1 ?_)
      | (with_reducible refine ev_ci h2 ?_)
      | (with_reducible refine ev_ci h3 ?_)
      | (with_reducible refine ev_ci h4 ?_)
      | (with_reducible refine ev_ci hop ?_)
      | with_reducible refine ev_ci (m_X8_set hok (sh_T20 hp) (xp_t20 hp) ?_ ?_ _) ?_
      | omega
      | with_reducible assumption
      | with_reducible rfl
      | (refine Nat.lt_of_lt_of_le ?_ (Nat.le_refl 312); omega)
      | with_reducible refine lp_nx ?_ ?_ ?_ ?_
      | with_reducible refine lp_st ?_ ?_ ?_
      | with_reducible refine ls_c ?_ ?_
      | with_reducible refine vi_c ?_
      | with_reducible refine re_c ?_
      | with_reducible refine vz_c ?_
      | with_reducible refine rz_c ?_
      | exact trivial
      | with_reducible refine And.intro ?_ ?_
      | simp (disch := first | omega | assumption) only [ev_run_c, ev_run_n, ev_fj, ev_stp, ev_lk, ev_fv, ev_as, ev_sz, ev_st1, ev_st2, ev_rm, ev_pk, ev_Jof, ev_go, lv_args, List.map_cons, List.map_nil, List.zip_cons_cons, List.zip_nil_left, List.zip_nil_right, List.nil_append, List.cons_append, ↓reduceIte, reduceCtorEq, Int.reduceToNat, Nat.reduceEqDiff, Nat.reduceAdd, Nat.reduceLT, Nat.reduceLeDiff, Nat.reduceMul, Nat.reduceSub, Value.category, false_implies, true_and, and_true, Bool.false_eq_true, Option.some.injEq, exists_eq_left', Option.toList_some, Option.toList_none, ev_km, ev_k2, ev_k3, ev_k4, ev_k5, ev_l0, ev_l1, sh_1, sh_2, sh_3, sh_4, sh_5, at_X7_readBid_42, ca_X7_199, ca_X7_210, ca_X7_240, ca_X7_243, ca_X7_81, cd_X7_readBid_0, cd_X7_readBid_42, fl_X7_12, fl_X7_246, fl_X7_43, no_0, no_1, no_lt, no_le, no_eq, no_lt0, no_ge0, no_gt0, no_le0, no_eq0, no_0eq, no_eqm, no_meq, no_m0, no_mlt, no_mge, no_mgt, no_mm, no_i01, no_i10, no_in, no_or, no_ifm, no_mul, nI_add, no_sub, pk_div, iI_if, nI_clamp, oI_n, oI_s, not_true_eq_false, not_false_eq_true, forall_const, true_implies, false_and, and_false, or_false, false_or, Classical.not_not, true_or, or_true, no_b, no_eq1, eq_self, and_self, xk_0 hp, xk_1 hp, xk_2 hp, xk_3 hp, xk_4 hp, xk_5 hp, xk_6 hp, xk_7 hp, xk_8 hp, xk_9 hp, xk_10 hp, xk_11 hp, xk_12 hp, xk_13 hp, xk_14 hp, xk_15 hp, xk_16 hp, xk_17 hp, xk_18 hp, xk_19 hp, xk_20 hp, xk_21 hp, xl_1 hp, xl_2 hp, xl_3 hp, xl_4 hp, xl_6 hp, xl_8 hp, xl_10 hp, xl_12 hp, xl_14 hp, xl_15 hp, xl_17 hp, xl_18 hp, xl_21 hp, xp_7 hp, xp_8 hp, xp_9 hp, xp_10 hp, xp_11 hp, xp_12 hp, xp_13 hp, xp_14 hp, xp_15 hp, xp_16 hp, xp_17 hp, xp_t5 hp, xp_t7 hp, xp_t9 hp, xp_t11 hp, xp_t20 hp, xp_s19 hp, xp_a13 hp, xp_b13 hp, xp_a16 hp, xp_b16 hp, xc_r5 hp, xc_c5 hp, xc_r7 hp, xc_c7 hp, xc_r9 hp, xc_c9 hp, xc_r11 hp, xc_c11 hp, xc_r20 hp, xc_c20 hp, no_on, hK, hpp, pe_1, pe_7, pe_w7, w1_d, hz]
      | exact rfl
      | (split <;> omega))
  · refine RD_e (a2 := a + 1 + 1 + 1) ?_ hz c4
    refine ev_tri hok okM_X7_readBid (Nat.le_of_ble_eq_true rfl) 400 ?_
    rw [at_X7_readBid_0]
    repeat' (first
      | (with_reducible refine ev_rid ?_; simp (disch := first | omega | assumption) only [ev_run_c, ev_run_n, ev_fj, ev_stp, ev_lk, ev_fv, ev_as, ev_sz, ev_st1, ev_st2, ev_rm, ev_pk, ev_Jof, ev_go, lv_args, List.map_cons, List.map_nil, List.zip_cons_cons, List.zip_nil_left, List.zip_nil_right, List.nil_append, List.cons_append, ↓reduceIte, reduceCtorEq, Int.reduceToNat, Nat.reduceEqDiff, Nat.reduceAdd, Nat.reduceLT, Nat.reduceLeDiff, Nat.reduceMul, Nat.reduceSub, Value.category, false_implies, true_and, and_true, Bool.false_eq_true, Option.some.injEq, exists_eq_left', Option.toList_some, Option.toList_none, ev_km, ev_k2, ev_k3, ev_k4, ev_k5, ev_l0, ev_l1, sh_1, sh_2, sh_3, sh_4, sh_5, at_X7_readBid_42, ca_X7_199, ca_X7_210, ca_X7_240, ca_X7_243, ca_X7_81, cd_X7_readBid_0, cd_X7_readBid_42, fl_X7_12, fl_X7_246, fl_X7_43, no_0, no_1, no_lt, no_le, no_eq, no_lt0, no_ge0, no_gt0, no_le0, no_eq0, no_0eq, no_eqm, no_meq, no_m0, no_mlt, no_mge, no_mgt, no_mm, no_i01, no_i10, no_in, no_or, no_ifm, no_mul, nI_add, no_sub, pk_div, iI_if, nI_clamp, oI_n, oI_s, not_true_eq_false, not_false_eq_true, forall_const, true_implies, false_and, and_false, or_false, false_or, Classical.not_not, true_or, or_true, no_b, no_eq1, eq_self, and_self, xk_0 hp, xk_1 hp, xk_2 hp, xk_3 hp, xk_4 hp, xk_5 hp, xk_6 hp, xk_7 hp, xk_8 hp, xk_9 hp, xk_10 hp, xk_11 hp, xk_12 hp, xk_13 hp, xk_14 hp, xk_15 hp, xk_16 hp, xk_17 hp, xk_18 hp, xk_19 hp, xk_20 hp, xk_21 hp, xl_1 hp, xl_2 hp, xl_3 hp, xl_4 hp, xl_6 hp, xl_8 hp, xl_10 hp, xl_12 hp, xl_14 hp, xl_15 hp, xl_17 hp, xl_18 hp, xl_21 hp, xp_7 hp, xp_8 hp, xp_9 hp, xp_10 hp, xp_11 hp, xp_12 hp, xp_13 hp, xp_14 hp, xp_15 hp, xp_16 hp, xp_17 hp, xp_t5 hp, xp_t7 hp, xp_t9 hp, xp_t11 hp, xp_t20 hp, xp_s19 hp, xp_a13 hp, xp_b13 hp, xp_a16 hp, xp_b16 hp, xc_r5 hp, xc_c5 hp, xc_r7 hp, xc_c7 hp, xc_r9 hp, xc_c9 hp, xc_r11 hp, xc_c11 hp, xc_r20 hp, xc_c20 hp, no_on, hK, hpp, pe_1, pe_7, pe_w7, w1_d, hz])
      | (with_reducible refine ev_gid ?_; simp (disch := first | omega | assumption) only [ev_run_c, ev_run_n, ev_fj, ev_stp, ev_lk, ev_fv, ev_as, ev_sz, ev_st1, ev_st2, ev_rm, ev_pk, ev_Jof, ev_go, lv_args, List.map_cons, List.map_nil, List.zip_cons_cons, List.zip_nil_left, List.zip_nil_right, List.nil_append, List.cons_append, ↓reduceIte, reduceCtorEq, Int.reduceToNat, Nat.reduceEqDiff, Nat.reduceAdd, Nat.reduceLT, Nat.reduceLeDiff, Nat.reduceMul, Nat.reduceSub, Value.category, false_implies, true_and, and_true, Bool.false_eq_true, Option.some.injEq, exists_eq_left', Option.toList_some, Option.toList_none, ev_km, ev_k2, ev_k3, ev_k4, ev_k5, ev_l0, ev_l1, sh_1, sh_2, sh_3, sh_4, sh_5, at_X7_readBid_42, ca_X7_199, ca_X7_210, ca_X7_240, ca_X7_243, ca_X7_81, cd_X7_readBid_0, cd_X7_readBid_42, fl_X7_12, fl_X7_246, fl_X7_43, no_0, no_1, no_lt, no_le, no_eq, no_lt0, no_ge0, no_gt0, no_le0, no_eq0, no_0eq, no_eqm, no_meq, no_m0, no_mlt, no_mge, no_mgt, no_mm, no_i01, no_i10, no_in, no_or, no_ifm, no_mul, nI_add, no_sub, pk_div, iI_if, nI_clamp, oI_n, oI_s, not_true_eq_false, not_false_eq_true, forall_const, true_implies, false_and, and_false, or_false, false_or, Classical.not_not, true_or, or_true, no_b, no_eq1, eq_self, and_self, xk_0 hp, xk_1 hp, xk_2 hp, xk_3 hp, xk_4 hp, xk_5 hp, xk_6 hp, xk_7 hp, xk_8 hp, xk_9 hp, xk_10 hp, xk_11 hp, xk_12 hp, xk_13 hp, xk_14 hp, xk_15 hp, xk_16 hp, xk_17 hp, xk_18 hp, xk_19 hp, xk_20 hp, xk_21 hp, xl_1 hp, xl_2 hp, xl_3 hp, xl_4 hp, xl_6 hp, xl_8 hp, xl_10 hp, xl_12 hp, xl_14 hp, xl_15 hp, xl_17 hp, xl_18 hp, xl_21 hp, xp_7 hp, xp_8 hp, xp_9 hp, xp_10 hp, xp_11 hp, xp_12 hp, xp_13 hp, xp_14 hp, xp_15 hp, xp_16 hp, xp_17 hp, xp_t5 hp, xp_t7 hp, xp_t9 hp, xp_t11 hp, xp_t20 hp, xp_s19 hp, xp_a13 hp, xp_b13 hp, xp_a16 hp, xp_b16 hp, xc_r5 hp, xc_c5 hp, xc_r7 hp, xc_c7 hp, xc_r9 hp, xc_c9 hp, xc_r11 hp, xc_c11 hp, xc_r20 hp, xc_c20 hp, no_on, hK, hpp, pe_1, pe_7, pe_w7, w1_d, hz])
      | (with_reducible refine And.intro (fun q => ?_) (fun q => ?_) <;> (try simp (disch := first | omega | assumption) only [no_0, no_1, no_lt, no_le, no_eq, no_lt0, no_ge0, no_gt0, no_le0, no_eq0, no_0eq, no_eqm, no_meq, no_m0, no_mlt, no_mge, no_mgt, no_mm, no_i01, no_i10, no_in, no_or, no_ifm, no_mul, nI_add, no_sub, pk_div, iI_if, nI_clamp, oI_n, oI_s, not_true_eq_false, not_false_eq_true, forall_const, true_implies, false_and, and_false, or_false, false_or, Classical.not_not, true_or, or_true, no_b, no_eq1, eq_self, and_self, xk_0 hp, xk_1 hp, xk_2 hp, xk_3 hp, xk_4 hp, xk_5 hp, xk_6 hp, xk_7 hp, xk_8 hp, xk_9 hp, xk_10 hp, xk_11 hp, xk_12 hp, xk_13 hp, xk_14 hp, xk_15 hp, xk_16 hp, xk_17 hp, xk_18 hp, xk_19 hp, xk_20 hp, xk_21 hp, xl_1 hp, xl_2 hp, xl_3 hp, xl_4 hp, xl_6 hp, xl_8 hp, xl_10 hp, xl_12 hp, xl_14 hp, xl_15 hp, xl_17 hp, xl_18 hp, xl_21 hp, xp_7 hp, xp_8 hp, xp_9 hp, xp_10 hp, xp_11 hp, xp_12 hp, xp_13 hp, xp_14 hp, xp_15 hp, xp_16 hp, xp_17 hp, xp_t5 hp, xp_t7 hp, xp_t9 hp, xp_t11 hp, xp_t20 hp, xp_s19 hp, xp_a13 hp, xp_b13 hp, xp_a16 hp, xp_b16 hp, xc_r5 hp, xc_c5 hp, xc_r7 hp, xc_c7 hp, xc_r9 hp, xc_c9 hp, xc_r11 hp, xc_c11 hp, xc_r20 hp, xc_c20 hp, no_on, hK, hpp, pe_1, pe_7, pe_w7, w1_d, hz] at q))
      | (with_reducible refine ev_ci h1 ?_)
      | (with_reducible refine ev_ci h2 ?_)
      | (with_reducible refine ev_ci h3 ?_)
      | (with_reducible refine ev_ci h4 ?_)
      | with_reducible refine ev_ci (m_X8_set hok (sh_T20 hp) (xp_t20 hp) ?_ ?_ _) ?_
      | omega
      | with_reducible assumption
      | with_reducible rfl
      | (refine Nat.lt_of_lt_of_le ?_ (Nat.le_refl 312); omega)
      | with_reducible refine lp_nx ?_ ?_ ?_ ?_
      | with_reducible refine lp_st ?_ ?_ ?_
      | with_reducible refine ls_c ?_ ?_
      | with_reducible refine vi_c ?_
      | with_reducible refine re_c ?_
      | with_reducible refine vz_c ?_
      | with_reducible refine rz_c ?_
      | exact trivial
      | with_reducible refine And.intro ?_ ?_
      | simp (disch := first | omega | assumption) only [ev_run_c, ev_run_n, ev_fj, ev_stp, ev_lk, ev_fv, ev_as, ev_sz, ev_st1, ev_st2, ev_rm, ev_pk, ev_Jof, ev_go, lv_args, List.map_cons, List.map_nil, List.zip_cons_cons, List.zip_nil_left, List.zip_nil_right, List.nil_append, List.cons_append, ↓reduceIte, reduceCtorEq, Int.reduceToNat, Nat.reduceEqDiff, Nat.reduceAdd, Nat.reduceLT, Nat.reduceLeDiff, Nat.reduceMul, Nat.reduceSub, Value.category, false_implies, true_and, and_true, Bool.false_eq_true, Option.some.injEq, exists_eq_left', Option.toList_some, Option.toList_none, ev_km, ev_k2, ev_k3, ev_k4, ev_k5, ev_l0, ev_l1, sh_1, sh_2, sh_3, sh_4, sh_5, at_X7_readBid_42, ca_X7_199, ca_X7_210, ca_X7_240, ca_X7_243, ca_X7_81, cd_X7_readBid_0, cd_X7_readBid_42, fl_X7_12, fl_X7_246, fl_X7_43, no_0, no_1, no_lt, no_le, no_eq, no_lt0, no_ge0, no_gt0, no_le0, no_eq0, no_0eq, no_eqm, no_meq, no_m0, no_mlt, no_mge, no_mgt, no_mm, no_i01, no_i10, no_in, no_or, no_ifm, no_mul, nI_add, no_sub, pk_div, iI_if, nI_clamp, oI_n, oI_s, not_true_eq_false, not_false_eq_true, forall_const, true_implies, false_and, and_false, or_false, false_or, Classical.not_not, true_or, or_true, no_b, no_eq1, eq_self, and_self, xk_0 hp, xk_1 hp, xk_2 hp, xk_3 hp, xk_4 hp, xk_5 hp, xk_6 hp, xk_7 hp, xk_8 hp, xk_9 hp, xk_10 hp, xk_11 hp, xk_12 hp, xk_13 hp, xk_14 hp, xk_15 hp, xk_16 hp, xk_17 hp, xk_18 hp, xk_19 hp, xk_20 hp, xk_21 hp, xl_1 hp, xl_2 hp, xl_3 hp, xl_4 hp, xl_6 hp, xl_8 hp, xl_10 hp, xl_12 hp, xl_14 hp, xl_15 hp, xl_17 hp, xl_18 hp, xl_21 hp, xp_7 hp, xp_8 hp, xp_9 hp, xp_10 hp, xp_11 hp, xp_12 hp, xp_13 hp, xp_14 hp, xp_15 hp, xp_16 hp, xp_17 hp, xp_t5 hp, xp_t7 hp, xp_t9 hp, xp_t11 hp, xp_t20 hp, xp_s19 hp, xp_a13 hp, xp_b13 hp, xp_a16 hp, xp_b16 hp, xc_r5 hp, xc_c5 hp, xc_r7 hp, xc_c7 hp, xc_r9 hp, xc_c9 hp, xc_r11 hp, xc_c11 hp, xc_r20 hp, xc_c20 hp, no_on, hK, hpp, pe_1, pe_7, pe_w7, w1_d, hz]
      | exact rfl
      | (split <;> omega))
def q_limit (B : Nat → Nat) (n : Nat) (N : Nat → Nat) (a : Nat) : Nat × Int32 := rN B n (er (rP B n N (0, -1) a) (N (8 + 59 * (pv B n N a) + 1) = 0) 3 a B n) (a + 1) 1 7
set_option maxHeartbeats 1000000 in
theorem rd_limit (hok : ev_ok sh_S G) (hT : TT B n m μ) (hp6 : p = 6) (hP : PR p N μ) (hI : INV N) {a : Nat} (ha : a ≤ m) : RD G mi_X7_readLimit a μ (q_limit B n N a) (up N (8 + 59 * (pv B n N a) + 1) (tvl B n (a + 1))) (a + 1 + 1) := by
  have hK := And.intro pk_5.1 pk_5.2.2
  have hpp : sh_pt 5 0 = p := by rw [hp6]; exact pk_5.2.1
  have hp : p ∈ sh_B := by rw [hp6]; exact sh_6
  have hlt := xp_lt hp
  have hh := iv_h hI
  have hm5 := hT.1
  have hP6 : PR 6 N μ := by rw [← hp6]; exact hP
  unfold q_limit
  have h1 := m_person (e := (0, -1)) (a := a) hok hT hP6 hh.1 (by decide) (fun _ => ha) (by omega)
  have c1 : (rP B n N (0, -1) a).1 < 5 := rP_c (by decide)
  have g1 := fun (h : (rP B n N (0, -1) a).1 = 0) => (rP_0 h).1
  have n1 : (rP B n N (0, -1) a).1 = 0 → a + 1 ≤ m := rP_nx hT (fun _ => ha)
  have v1 : (rP B n N (0, -1) a).1 = 0 → pv B n N a < N 0 := fun h => (rP_0 h).2.2.2.1
  have t1 : (rP B n N (0, -1) a).1 = 0 → a ≤ m := fun h => (fun _ => ha) (rP_0 h).1
  generalize rP B n N (0, -1) a = e1 at h1 c1 g1 n1 v1 t1 ⊢
  have h2 := m_checkTaster (e := e1) (a := a) (i := (pv B n N a)) hok hT hp6 hP hI c1 t1 (by omega) (fun h => by have := v1 h; omega)
  have c2 : (er e1 (N (8 + 59 * (pv B n N a) + 1) = 0) 3 a B n).1 < 5 := er_c c1 (by decide)
  have g2 := fun (h : (er e1 (N (8 + 59 * (pv B n N a) + 1) = 0) 3 a B n).1 = 0) => (er_0 h (by decide)).1
  have n2 : (er e1 (N (8 + 59 * (pv B n N a) + 1) = 0) 3 a B n).1 = 0 → a + 1 ≤ m := er_nx (by decide) n1
  have w2 : (er e1 (N (8 + 59 * (pv B n N a) + 1) = 0) 3 a B n).1 = 0 → ¬ (N (8 + 59 * (pv B n N a) + 1) = 0) := fun h => (er_0 h (by decide)).2.1
  generalize er e1 (N (8 + 59 * (pv B n N a) + 1) = 0) 3 a B n = e2 at h2 c2 g2 n2 w2 ⊢
  have h3 := m_number (e := e2) (a := a + 1) (l := 1) (g := 7) (y := nI 6) hok hT c2 n2 (by omega) (by omega) (by omega) (by decide)
  have c3 : (rN B n e2 (a + 1) 1 7).1 < 5 := rN_c c2
  have g3 := fun (h : (rN B n e2 (a + 1) 1 7).1 = 0) => (rN_0 h).1
  have n3 : (rN B n e2 (a + 1) 1 7).1 = 0 → a + 1 + 1 ≤ m := rN_nx hT n2
  have v3 : (rN B n e2 (a + 1) 1 7).1 = 0 → 1 ≤ tvl B n (a + 1) ∧ tvl B n (a + 1) < 7 := fun h => (nmc_0 (rN_0 h).2.1).2
  have t3 : (rN B n e2 (a + 1) 1 7).1 = 0 → (a + 1) ≤ m := fun h => n2 (rN_0 h).1
  generalize rN B n e2 (a + 1) 1 7 = e3 at h3 c3 g3 n3 v3 t3 ⊢
  by_cases hz : e3.1 = 0
  · have z3 := hz
    have z2 := g3 z3
    have z1 := g2 z2
    have u1 := v1 z1
    have u3 := v3 z3
    have r1 : rv e1.1 (pv B n N a) = nI (pv B n N a) := by rw [z1]; rfl
    have r3 : rv e3.1 (tvl B n (a + 1)) = nI (tvl B n (a + 1)) := by rw [z3]; rfl
    try simp only [r1, r3] at h1
    try simp only [r1, r3] at h2
    try simp only [r1, r3] at h3
    have hPz : PR p N (pe e3 (a + 1 + 1) μ) := PR_p hp6 hP
    have hop := m_X10_setCell (μ := pe e3 (a + 1 + 1) μ) hok (a := p + 3) (j := (pv B n N a)) (by omega) (xk_3 hp) (by rw [xl_3 hp]; omega) (by rw [xl_3 hp]; omega) (nI (tvl B n (a + 1)))
    refine RD_o hp6 (μ'' := w1 (pe e3 (a + 1 + 1) μ) (p + 3) (pv B n N a) (nI (tvl B n (a + 1)))) ?_ hz (Fp_w1 Fp_rf (by omega) (by omega)) (PR_sli hPz (fun j hj => (iv_p hI j hj).2) (by omega) hh.1 hh.2.1)
    refine ev_tri hok okM_X7_readLimit (Nat.le_of_ble_eq_true rfl) 400 ?_
    rw [at_X7_readLimit_0]
    repeat' (first
      | (with_reducible refine ev_rid ?_; simp (disch := first | omega | assumption) only [ev_run_c, ev_run_n, ev_fj, ev_stp, ev_lk, ev_fv, ev_as, ev_sz, ev_st1, ev_st2, ev_rm, ev_pk, ev_Jof, ev_go, lv_args, List.map_cons, List.map_nil, List.zip_cons_cons, List.zip_nil_left, List.zip_nil_right, List.nil_append, List.cons_append, ↓reduceIte, reduceCtorEq, Int.reduceToNat, Nat.reduceEqDiff, Nat.reduceAdd, Nat.reduceLT, Nat.reduceLeDiff, Nat.reduceMul, Nat.reduceSub, Value.category, false_implies, true_and, and_true, Bool.false_eq_true, Option.some.injEq, exists_eq_left', Option.toList_some, Option.toList_none, ev_km, ev_k2, ev_k3, ev_k4, ev_k5, ev_l0, ev_l1, sh_1, sh_2, sh_3, sh_4, sh_5, at_X7_readLimit_37, ca_X7_199, ca_X7_219, ca_X7_240, ca_X7_81, cd_X7_readLimit_0, cd_X7_readLimit_37, fl_X7_12, fl_X7_216, fl_X7_43, ev_b_6, no_0, no_1, no_lt, no_le, no_eq, no_lt0, no_ge0, no_gt0, no_le0, no_eq0, no_0eq, no_eqm, no_meq, no_m0, no_mlt, no_mge, no_mgt, no_mm, no_i01, no_i10, no_in, no_or, no_ifm, no_mul, nI_add, no_sub, pk_div, iI_if, nI_clamp, oI_n, oI_s, not_true_eq_false, not_false_eq_true, forall_const, true_implies, false_and, and_false, or_false, false_or, Classical.not_not, true_or, or_true, no_b, no_eq1, eq_self, and_self, xk_0 hp, xk_1 hp, xk_2 hp, xk_3 hp, xk_4 hp, xk_5 hp, xk_6 hp, xk_7 hp, xk_8 hp, xk_9 hp, xk_10 hp, xk_11 hp, xk_12 hp, xk_13 hp, xk_14 hp, xk_15 hp, xk_16 hp, xk_17 hp, xk_18 hp, xk_19 hp, xk_20 hp, xk_21 hp, xl_1 hp, xl_2 hp, xl_3 hp, xl_4 hp, xl_6 hp, xl_8 hp, xl_10 hp, xl_12 hp, xl_14 hp, xl_15 hp, xl_17 hp, xl_18 hp, xl_21 hp, xp_7 hp, xp_8 hp, xp_9 hp, xp_10 hp, xp_11 hp, xp_12 hp, xp_13 hp, xp_14 hp, xp_15 hp, xp_16 hp, xp_17 hp, xp_t5 hp, xp_t7 hp, xp_t9 hp, xp_t11 hp, xp_t20 hp, xp_s19 hp, xp_a13 hp, xp_b13 hp, xp_a16 hp, xp_b16 hp, xc_r5 hp, xc_c5 hp, xc_r7 hp, xc_c7 hp, xc_r9 hp, xc_c9 hp, xc_r11 hp, xc_c11 hp, xc_r20 hp, xc_c20 hp, no_on, hK, hpp, pe_1, pe_7, pe_w7, w1_d, hz])
      | (with_reducible refine ev_gid ?_; simp (disch := first | omega | assumption) only [ev_run_c, ev_run_n, ev_fj, ev_stp, ev_lk, ev_fv, ev_as, ev_sz, ev_st1, ev_st2, ev_rm, ev_pk, ev_Jof, ev_go, lv_args, List.map_cons, List.map_nil, List.zip_cons_cons, List.zip_nil_left, List.zip_nil_right, List.nil_append, List.cons_append, ↓reduceIte, reduceCtorEq, Int.reduceToNat, Nat.reduceEqDiff, Nat.reduceAdd, Nat.reduceLT, Nat.reduceLeDiff, Nat.reduceMul, Nat.reduceSub, Value.category, false_implies, true_and, and_true, Bool.false_eq_true, Option.some.injEq, exists_eq_left', Option.toList_some, Option.toList_none, ev_km, ev_k2, ev_k3, ev_k4, ev_k5, ev_l0, ev_l1, sh_1, sh_2, sh_3, sh_4, sh_5, at_X7_readLimit_37, ca_X7_199, ca_X7_219, ca_X7_240, ca_X7_81, cd_X7_readLimit_0, cd_X7_readLimit_37, fl_X7_12, fl_X7_216, fl_X7_43, ev_b_6, no_0, no_1, no_lt, no_le, no_eq, no_lt0, no_ge0, no_gt0, no_le0, no_eq0, no_0eq, no_eqm, no_meq, no_m0, no_mlt, no_mge, no_mgt, no_mm, no_i01, no_i10, no_in, no_or, no_ifm, no_mul, nI_add, no_sub, pk_div, iI_if, nI_clamp, oI_n, oI_s, not_true_eq_false, not_false_eq_true, forall_const, true_implies, false_and, and_false, or_false, false_or, Classical.not_not, true_or, or_true, no_b, no_eq1, eq_self, and_self, xk_0 hp, xk_1 hp, xk_2 hp, xk_3 hp, xk_4 hp, xk_5 hp, xk_6 hp, xk_7 hp, xk_8 hp, xk_9 hp, xk_10 hp, xk_11 hp, xk_12 hp, xk_13 hp, xk_14 hp, xk_15 hp, xk_16 hp, xk_17 hp, xk_18 hp, xk_19 hp, xk_20 hp, xk_21 hp, xl_1 hp, xl_2 hp, xl_3 hp, xl_4 hp, xl_6 hp, xl_8 hp, xl_10 hp, xl_12 hp, xl_14 hp, xl_15 hp, xl_17 hp, xl_18 hp, xl_21 hp, xp_7 hp, xp_8 hp, xp_9 hp, xp_10 hp, xp_11 hp, xp_12 hp, xp_13 hp, xp_14 hp, xp_15 hp, xp_16 hp, xp_17 hp, xp_t5 hp, xp_t7 hp, xp_t9 hp, xp_t11 hp, xp_t20 hp, xp_s19 hp, xp_a13 hp, xp_b13 hp, xp_a16 hp, xp_b16 hp, xc_r5 hp, xc_c5 hp, xc_r7 hp, xc_c7 hp, xc_r9 hp, xc_c9 hp, xc_r11 hp, xc_c11 hp, xc_r20 hp, xc_c20 hp, no_on, hK, hpp, pe_1, pe_7, pe_w7, w1_d, hz])
      | (with_reducible refine And.intro (fun q => ?_) (fun q => ?_) <;> (try simp (disch := first | omega | assumption) only [no_0, no_1, no_lt, no_le, no_eq, no_lt0, no_ge0, no_gt0, no_le0, no_eq0, no_0eq, no_eqm, no_meq, no_m0, no_mlt, no_mge, no_mgt, no_mm, no_i01, no_i10, no_in, no_or, no_ifm, no_mul, nI_add, no_sub, pk_div, iI_if, nI_clamp, oI_n, oI_s, not_true_eq_false, not_false_eq_true, forall_const, true_implies, false_and, and_false, or_false, false_or, Classical.not_not, true_or, or_true, no_b, no_eq1, eq_self, and_self, xk_0 hp, xk_1 hp, xk_2 hp, xk_3 hp, xk_4 hp, xk_5 hp, xk_6 hp, xk_7 hp, xk_8 hp, xk_9 hp, xk_10 hp, xk_11 hp, xk_12 hp, xk_13 hp, xk_14 hp, xk_15 hp, xk_16 hp, xk_17 hp, xk_18 hp, xk_19 hp, xk_20 hp, xk_21 hp, xl_1 hp, xl_2 hp, xl_3 hp, xl_4 hp, xl_6 hp, xl_8 hp, xl_10 hp, xl_12 hp, xl_14 hp, xl_15 hp, xl_17 hp, xl_18 hp, xl_21 hp, xp_7 hp, xp_8 hp, xp_9 hp, xp_10 hp, xp_11 hp, xp_12 hp, xp_13 hp, xp_14 hp, xp_15 hp, xp_16 hp, xp_17 hp, xp_t5 hp, xp_t7 hp, xp_t9 hp, xp_t11 hp, xp_t20 hp, xp_s19 hp, xp_a13 hp, xp_b13 hp, xp_a16 hp, xp_b16 hp, xc_r5 hp, xc_c5 hp, xc_r7 hp, xc_c7 hp, xc_r9 hp, xc_c9 hp, xc_r11 hp, xc_c11 hp, xc_r20 hp, xc_c20 hp, no_on, hK, hpp, pe_1, pe_7, pe_w7, w1_d, hz] at q))
      | (with_reducible refine ev_ci h1 ?_)
      | (with_reducible refine ev_ci h2 ?_)
      | (with_reducible refine ev_ci h3 ?_)
      | (with_reducible refine ev_ci hop ?_)
      | with_reducible refine ev_ci (m_X10_setCell hok ?_ ?_ ?_ ?_ _) ?_
      | omega
      | with_reducible assumption
      | with_reducible rfl
      | (refine Nat.lt_of_lt_of_le ?_ (Nat.le_refl 312); omega)
      | with_reducible refine lp_nx ?_ ?_ ?_ ?_
      | with_reducible refine lp_st ?_ ?_ ?_
      | with_reducible refine ls_c ?_ ?_
      | with_reducible refine vi_c ?_
      | with_reducible refine re_c ?_
      | with_reducible refine vz_c ?_
      | with_reducible refine rz_c ?_
      | exact trivial
      | with_reducible refine And.intro ?_ ?_
      | simp (disch := first | omega | assumption) only [ev_run_c, ev_run_n, ev_fj, ev_stp, ev_lk, ev_fv, ev_as, ev_sz, ev_st1, ev_st2, ev_rm, ev_pk, ev_Jof, ev_go, lv_args, List.map_cons, List.map_nil, List.zip_cons_cons, List.zip_nil_left, List.zip_nil_right, List.nil_append, List.cons_append, ↓reduceIte, reduceCtorEq, Int.reduceToNat, Nat.reduceEqDiff, Nat.reduceAdd, Nat.reduceLT, Nat.reduceLeDiff, Nat.reduceMul, Nat.reduceSub, Value.category, false_implies, true_and, and_true, Bool.false_eq_true, Option.some.injEq, exists_eq_left', Option.toList_some, Option.toList_none, ev_km, ev_k2, ev_k3, ev_k4, ev_k5, ev_l0, ev_l1, sh_1, sh_2, sh_3, sh_4, sh_5, at_X7_readLimit_37, ca_X7_199, ca_X7_219, ca_X7_240, ca_X7_81, cd_X7_readLimit_0, cd_X7_readLimit_37, fl_X7_12, fl_X7_216, fl_X7_43, ev_b_6, no_0, no_1, no_lt, no_le, no_eq, no_lt0, no_ge0, no_gt0, no_le0, no_eq0, no_0eq, no_eqm, no_meq, no_m0, no_mlt, no_mge, no_mgt, no_mm, no_i01, no_i10, no_in, no_or, no_ifm, no_mul, nI_add, no_sub, pk_div, iI_if, nI_clamp, oI_n, oI_s, not_true_eq_false, not_false_eq_true, forall_const, true_implies, false_and, and_false, or_false, false_or, Classical.not_not, true_or, or_true, no_b, no_eq1, eq_self, and_self, xk_0 hp, xk_1 hp, xk_2 hp, xk_3 hp, xk_4 hp, xk_5 hp, xk_6 hp, xk_7 hp, xk_8 hp, xk_9 hp, xk_10 hp, xk_11 hp, xk_12 hp, xk_13 hp, xk_14 hp, xk_15 hp, xk_16 hp, xk_17 hp, xk_18 hp, xk_19 hp, xk_20 hp, xk_21 hp, xl_1 hp, xl_2 hp, xl_3 hp, xl_4 hp, xl_6 hp, xl_8 hp, xl_10 hp, xl_12 hp, xl_14 hp, xl_15 hp, xl_17 hp, xl_18 hp, xl_21 hp, xp_7 hp, xp_8 hp, xp_9 hp, xp_10 hp, xp_11 hp, xp_12 hp, xp_13 hp, xp_14 hp, xp_15 hp, xp_16 hp, xp_17 hp, xp_t5 hp, xp_t7 hp, xp_t9 hp, xp_t11 hp, xp_t20 hp, xp_s19 hp, xp_a13 hp, xp_b13 hp, xp_a16 hp, xp_b16 hp, xc_r5 hp, xc_c5 hp, xc_r7 hp, xc_c7 hp, xc_r9 hp, xc_c9 hp, xc_r11 hp, xc_c11 hp, xc_r20 hp, xc_c20 hp, no_on, hK, hpp, pe_1, pe_7, pe_w7, w1_d, hz]
      | exact rfl
      | (split <;> omega))
  · refine RD_e (a2 := a + 1 + 1) ?_ hz c3
    refine ev_tri hok okM_X7_readLimit (Nat.le_of_ble_eq_true rfl) 400 ?_
    rw [at_X7_readLimit_0]
    repeat' (first
      | (with_reducible refine ev_rid ?_; simp (disch := first | omega | assumption) only [ev_run_c, ev_run_n, ev_fj, ev_stp, ev_lk, ev_fv, ev_as, ev_sz, ev_st1, ev_st2, ev_rm, ev_pk, ev_Jof, ev_go, lv_args, List.map_cons, List.map_nil, List.zip_cons_cons, List.zip_nil_left, List.zip_nil_right, List.nil_append, List.cons_append, ↓reduceIte, reduceCtorEq, Int.reduceToNat, Nat.reduceEqDiff, Nat.reduceAdd, Nat.reduceLT, Nat.reduceLeDiff, Nat.reduceMul, Nat.reduceSub, Value.category, false_implies, true_and, and_true, Bool.false_eq_true, Option.some.injEq, exists_eq_left', Option.toList_some, Option.toList_none, ev_km, ev_k2, ev_k3, ev_k4, ev_k5, ev_l0, ev_l1, sh_1, sh_2, sh_3, sh_4, sh_5, at_X7_readLimit_37, ca_X7_199, ca_X7_219, ca_X7_240, ca_X7_81, cd_X7_readLimit_0, cd_X7_readLimit_37, fl_X7_12, fl_X7_216, fl_X7_43, ev_b_6, no_0, no_1, no_lt, no_le, no_eq, no_lt0, no_ge0, no_gt0, no_le0, no_eq0, no_0eq, no_eqm, no_meq, no_m0, no_mlt, no_mge, no_mgt, no_mm, no_i01, no_i10, no_in, no_or, no_ifm, no_mul, nI_add, no_sub, pk_div, iI_if, nI_clamp, oI_n, oI_s, not_true_eq_false, not_false_eq_true, forall_const, true_implies, false_and, and_false, or_false, false_or, Classical.not_not, true_or, or_true, no_b, no_eq1, eq_self, and_self, xk_0 hp, xk_1 hp, xk_2 hp, xk_3 hp, xk_4 hp, xk_5 hp, xk_6 hp, xk_7 hp, xk_8 hp, xk_9 hp, xk_10 hp, xk_11 hp, xk_12 hp, xk_13 hp, xk_14 hp, xk_15 hp, xk_16 hp, xk_17 hp, xk_18 hp, xk_19 hp, xk_20 hp, xk_21 hp, xl_1 hp, xl_2 hp, xl_3 hp, xl_4 hp, xl_6 hp, xl_8 hp, xl_10 hp, xl_12 hp, xl_14 hp, xl_15 hp, xl_17 hp, xl_18 hp, xl_21 hp, xp_7 hp, xp_8 hp, xp_9 hp, xp_10 hp, xp_11 hp, xp_12 hp, xp_13 hp, xp_14 hp, xp_15 hp, xp_16 hp, xp_17 hp, xp_t5 hp, xp_t7 hp, xp_t9 hp, xp_t11 hp, xp_t20 hp, xp_s19 hp, xp_a13 hp, xp_b13 hp, xp_a16 hp, xp_b16 hp, xc_r5 hp, xc_c5 hp, xc_r7 hp, xc_c7 hp, xc_r9 hp, xc_c9 hp, xc_r11 hp, xc_c11 hp, xc_r20 hp, xc_c20 hp, no_on, hK, hpp, pe_1, pe_7, pe_w7, w1_d, hz])
      | (with_reducible refine ev_gid ?_; simp (disch := first | omega | assumption) only [ev_run_c, ev_run_n, ev_fj, ev_stp, ev_lk, ev_fv, ev_as, ev_sz, ev_st1, ev_st2, ev_rm, ev_pk, ev_Jof, ev_go, lv_args, List.map_cons, List.map_nil, List.zip_cons_cons, List.zip_nil_left, List.zip_nil_right, List.nil_append, List.cons_append, ↓reduceIte, reduceCtorEq, Int.reduceToNat, Nat.reduceEqDiff, Nat.reduceAdd, Nat.reduceLT, Nat.reduceLeDiff, Nat.reduceMul, Nat.reduceSub, Value.category, false_implies, true_and, and_true, Bool.false_eq_true, Option.some.injEq, exists_eq_left', Option.toList_some, Option.toList_none, ev_km, ev_k2, ev_k3, ev_k4, ev_k5, ev_l0, ev_l1, sh_1, sh_2, sh_3, sh_4, sh_5, at_X7_readLimit_37, ca_X7_199, ca_X7_219, ca_X7_240, ca_X7_81, cd_X7_readLimit_0, cd_X7_readLimit_37, fl_X7_12, fl_X7_216, fl_X7_43, ev_b_6, no_0, no_1, no_lt, no_le, no_eq, no_lt0, no_ge0, no_gt0, no_le0, no_eq0, no_0eq, no_eqm, no_meq, no_m0, no_mlt, no_mge, no_mgt, no_mm, no_i01, no_i10, no_in, no_or, no_ifm, no_mul, nI_add, no_sub, pk_div, iI_if, nI_clamp, oI_n, oI_s, not_true_eq_false, not_false_eq_true, forall_const, true_implies, false_and, and_false, or_false, false_or, Classical.not_not, true_or, or_true, no_b, no_eq1, eq_self, and_self, xk_0 hp, xk_1 hp, xk_2 hp, xk_3 hp, xk_4 hp, xk_5 hp, xk_6 hp, xk_7 hp, xk_8 hp, xk_9 hp, xk_10 hp, xk_11 hp, xk_12 hp, xk_13 hp, xk_14 hp, xk_15 hp, xk_16 hp, xk_17 hp, xk_18 hp, xk_19 hp, xk_20 hp, xk_21 hp, xl_1 hp, xl_2 hp, xl_3 hp, xl_4 hp, xl_6 hp, xl_8 hp, xl_10 hp, xl_12 hp, xl_14 hp, xl_15 hp, xl_17 hp, xl_18 hp, xl_21 hp, xp_7 hp, xp_8 hp, xp_9 hp, xp_10 hp, xp_11 hp, xp_12 hp, xp_13 hp, xp_14 hp, xp_15 hp, xp_16 hp, xp_17 hp, xp_t5 hp, xp_t7 hp, xp_t9 hp, xp_t11 hp, xp_t20 hp, xp_s19 hp, xp_a13 hp, xp_b13 hp, xp_a16 hp, xp_b16 hp, xc_r5 hp, xc_c5 hp, xc_r7 hp, xc_c7 hp, xc_r9 hp, xc_c9 hp, xc_r11 hp, xc_c11 hp, xc_r20 hp, xc_c20 hp, no_on, hK, hpp, pe_1, pe_7, pe_w7, w1_d, hz])
      | (with_reducible refine And.intro (fun q => ?_) (fun q => ?_) <;> (try simp (disch := first | omega | assumption) only [no_0, no_1, no_lt, no_le, no_eq, no_lt0, no_ge0, no_gt0, no_le0, no_eq0, no_0eq, no_eqm, no_meq, no_m0, no_mlt, no_mge, no_mgt, no_mm, no_i01, no_i10, no_in, no_or, no_ifm, no_mul, nI_add, no_sub, pk_div, iI_if, nI_clamp, oI_n, oI_s, not_true_eq_false, not_false_eq_true, forall_const, true_implies, false_and, and_false, or_false, false_or, Classical.not_not, true_or, or_true, no_b, no_eq1, eq_self, and_self, xk_0 hp, xk_1 hp, xk_2 hp, xk_3 hp, xk_4 hp, xk_5 hp, xk_6 hp, xk_7 hp, xk_8 hp, xk_9 hp, xk_10 hp, xk_11 hp, xk_12 hp, xk_13 hp, xk_14 hp, xk_15 hp, xk_16 hp, xk_17 hp, xk_18 hp, xk_19 hp, xk_20 hp, xk_21 hp, xl_1 hp, xl_2 hp, xl_3 hp, xl_4 hp, xl_6 hp, xl_8 hp, xl_10 hp, xl_12 hp, xl_14 hp, xl_15 hp, xl_17 hp, xl_18 hp, xl_21 hp, xp_7 hp, xp_8 hp, xp_9 hp, xp_10 hp, xp_11 hp, xp_12 hp, xp_13 hp, xp_14 hp, xp_15 hp, xp_16 hp, xp_17 hp, xp_t5 hp, xp_t7 hp, xp_t9 hp, xp_t11 hp, xp_t20 hp, xp_s19 hp, xp_a13 hp, xp_b13 hp, xp_a16 hp, xp_b16 hp, xc_r5 hp, xc_c5 hp, xc_r7 hp, xc_c7 hp, xc_r9 hp, xc_c9 hp, xc_r11 hp, xc_c11 hp, xc_r20 hp, xc_c20 hp, no_on, hK, hpp, pe_1, pe_7, pe_w7, w1_d, hz] at q))
      | (with_reducible refine ev_ci h1 ?_)
      | (with_reducible refine ev_ci h2 ?_)
      | (with_reducible refine ev_ci h3 ?_)
      | with_reducible refine ev_ci (m_X10_setCell hok ?_ ?_ ?_ ?_ _) ?_
      | omega
      | with_reducible assumption
      | with_reducible rfl
      | (refine Nat.lt_of_lt_of_le ?_ (Nat.le_refl 312); omega)
      | with_reducible refine lp_nx ?_ ?_ ?_ ?_
      | with_reducible refine lp_st ?_ ?_ ?_
      | with_reducible refine ls_c ?_ ?_
      | with_reducible refine vi_c ?_
      | with_reducible refine re_c ?_
      | with_reducible refine vz_c ?_
      | with_reducible refine rz_c ?_
      | exact trivial
      | with_reducible refine And.intro ?_ ?_
      | simp (disch := first | omega | assumption) only [ev_run_c, ev_run_n, ev_fj, ev_stp, ev_lk, ev_fv, ev_as, ev_sz, ev_st1, ev_st2, ev_rm, ev_pk, ev_Jof, ev_go, lv_args, List.map_cons, List.map_nil, List.zip_cons_cons, List.zip_nil_left, List.zip_nil_right, List.nil_append, List.cons_append, ↓reduceIte, reduceCtorEq, Int.reduceToNat, Nat.reduceEqDiff, Nat.reduceAdd, Nat.reduceLT, Nat.reduceLeDiff, Nat.reduceMul, Nat.reduceSub, Value.category, false_implies, true_and, and_true, Bool.false_eq_true, Option.some.injEq, exists_eq_left', Option.toList_some, Option.toList_none, ev_km, ev_k2, ev_k3, ev_k4, ev_k5, ev_l0, ev_l1, sh_1, sh_2, sh_3, sh_4, sh_5, at_X7_readLimit_37, ca_X7_199, ca_X7_219, ca_X7_240, ca_X7_81, cd_X7_readLimit_0, cd_X7_readLimit_37, fl_X7_12, fl_X7_216, fl_X7_43, ev_b_6, no_0, no_1, no_lt, no_le, no_eq, no_lt0, no_ge0, no_gt0, no_le0, no_eq0, no_0eq, no_eqm, no_meq, no_m0, no_mlt, no_mge, no_mgt, no_mm, no_i01, no_i10, no_in, no_or, no_ifm, no_mul, nI_add, no_sub, pk_div, iI_if, nI_clamp, oI_n, oI_s, not_true_eq_false, not_false_eq_true, forall_const, true_implies, false_and, and_false, or_false, false_or, Classical.not_not, true_or, or_true, no_b, no_eq1, eq_self, and_self, xk_0 hp, xk_1 hp, xk_2 hp, xk_3 hp, xk_4 hp, xk_5 hp, xk_6 hp, xk_7 hp, xk_8 hp, xk_9 hp, xk_10 hp, xk_11 hp, xk_12 hp, xk_13 hp, xk_14 hp, xk_15 hp, xk_16 hp, xk_17 hp, xk_18 hp, xk_19 hp, xk_20 hp, xk_21 hp, xl_1 hp, xl_2 hp, xl_3 hp, xl_4 hp, xl_6 hp, xl_8 hp, xl_10 hp, xl_12 hp, xl_14 hp, xl_15 hp, xl_17 hp, xl_18 hp, xl_21 hp, xp_7 hp, xp_8 hp, xp_9 hp, xp_10 hp, xp_11 hp, xp_12 hp, xp_13 hp, xp_14 hp, xp_15 hp, xp_16 hp, xp_17 hp, xp_t5 hp, xp_t7 hp, xp_t9 hp, xp_t11 hp, xp_t20 hp, xp_s19 hp, xp_a13 hp, xp_b13 hp, xp_a16 hp, xp_b16 hp, xc_r5 hp, xc_c5 hp, xc_r7 hp, xc_c7 hp, xc_r9 hp, xc_c9 hp, xc_r11 hp, xc_c11 hp, xc_r20 hp, xc_c20 hp, no_on, hK, hpp, pe_1, pe_7, pe_w7, w1_d, hz]
      | exact rfl
      | (split <;> omega))
def q_kitchen (B : Nat → Nat) (n : Nat) (N : Nat → Nat) (a : Nat) : Nat × Int32 := rN B n (rP B n N (0, -1) a) (a + 1) 0 10
set_option maxHeartbeats 1000000 in
theorem rd_kitchen (hok : ev_ok sh_S G) (hT : TT B n m μ) (hp6 : p = 6) (hP : PR p N μ) (hI : INV N) {a : Nat} (ha : a ≤ m) : RD G mi_X7_readKitchen a μ (q_kitchen B n N a) (up N (8 + 59 * (pv B n N a) + 0) (tvl B n (a + 1))) (a + 1 + 1) := by
  have hK := And.intro pk_5.1 pk_5.2.2
  have hpp : sh_pt 5 0 = p := by rw [hp6]; exact pk_5.2.1
  have hp : p ∈ sh_B := by rw [hp6]; exact sh_6
  have hlt := xp_lt hp
  have hh := iv_h hI
  have hm5 := hT.1
  have hP6 : PR 6 N μ := by rw [← hp6]; exact hP
  unfold q_kitchen
  have h1 := m_person (e := (0, -1)) (a := a) hok hT hP6 hh.1 (by decide) (fun _ => ha) (by omega)
  have c1 : (rP B n N (0, -1) a).1 < 5 := rP_c (by decide)
  have g1 := fun (h : (rP B n N (0, -1) a).1 = 0) => (rP_0 h).1
  have n1 : (rP B n N (0, -1) a).1 = 0 → a + 1 ≤ m := rP_nx hT (fun _ => ha)
  have v1 : (rP B n N (0, -1) a).1 = 0 → pv B n N a < N 0 := fun h => (rP_0 h).2.2.2.1
  have t1 : (rP B n N (0, -1) a).1 = 0 → a ≤ m := fun h => (fun _ => ha) (rP_0 h).1
  generalize rP B n N (0, -1) a = e1 at h1 c1 g1 n1 v1 t1 ⊢
  have h2 := m_number (e := e1) (a := a + 1) (l := 0) (g := 10) (y := nI 9) hok hT c1 n1 (by omega) (by omega) (by omega) (by decide)
  have c2 : (rN B n e1 (a + 1) 0 10).1 < 5 := rN_c c1
  have g2 := fun (h : (rN B n e1 (a + 1) 0 10).1 = 0) => (rN_0 h).1
  have n2 : (rN B n e1 (a + 1) 0 10).1 = 0 → a + 1 + 1 ≤ m := rN_nx hT n1
  have v2 : (rN B n e1 (a + 1) 0 10).1 = 0 → 0 ≤ tvl B n (a + 1) ∧ tvl B n (a + 1) < 10 := fun h => (nmc_0 (rN_0 h).2.1).2
  have t2 : (rN B n e1 (a + 1) 0 10).1 = 0 → (a + 1) ≤ m := fun h => n1 (rN_0 h).1
  generalize rN B n e1 (a + 1) 0 10 = e2 at h2 c2 g2 n2 v2 t2 ⊢
  by_cases hz : e2.1 = 0
  · have z2 := hz
    have z1 := g2 z2
    have u1 := v1 z1
    have u2 := v2 z2
    have r1 : rv e1.1 (pv B n N a) = nI (pv B n N a) := by rw [z1]; rfl
    have r2 : rv e2.1 (tvl B n (a + 1)) = nI (tvl B n (a + 1)) := by rw [z2]; rfl
    try simp only [r1, r2] at h1
    try simp only [r1, r2] at h2
    have hPz : PR p N (pe e2 (a + 1 + 1) μ) := PR_p hp6 hP
    have hop := m_X10_setCell (μ := pe e2 (a + 1 + 1) μ) hok (a := p + 2) (j := (pv B n N a)) (by omega) (xk_2 hp) (by rw [xl_2 hp]; omega) (by rw [xl_2 hp]; omega) (nI (tvl B n (a + 1)))
    refine RD_o hp6 (μ'' := w1 (pe e2 (a + 1 + 1) μ) (p + 2) (pv B n N a) (nI (tvl B n (a + 1)))) ?_ hz (Fp_w1 Fp_rf (by omega) (by omega)) (PR_ski hPz (fun j hj => (iv_p hI j hj).2) (by omega) hh.1 hh.2.1)
    refine ev_tri hok okM_X7_readKitchen (Nat.le_of_ble_eq_true rfl) 400 ?_
    rw [at_X7_readKitchen_0]
    repeat' (first
      | (with_reducible refine ev_rid ?_; simp (disch := first | omega | assumption) only [ev_run_c, ev_run_n, ev_fj, ev_stp, ev_lk, ev_fv, ev_as, ev_sz, ev_st1, ev_st2, ev_rm, ev_pk, ev_Jof, ev_go, lv_args, List.map_cons, List.map_nil, List.zip_cons_cons, List.zip_nil_left, List.zip_nil_right, List.nil_append, List.cons_append, ↓reduceIte, reduceCtorEq, Int.reduceToNat, Nat.reduceEqDiff, Nat.reduceAdd, Nat.reduceLT, Nat.reduceLeDiff, Nat.reduceMul, Nat.reduceSub, Value.category, false_implies, true_and, and_true, Bool.false_eq_true, Option.some.injEq, exists_eq_left', Option.toList_some, Option.toList_none, ev_km, ev_k2, ev_k3, ev_k4, ev_k5, ev_l0, ev_l1, sh_1, sh_2, sh_3, sh_4, sh_5, at_X7_readKitchen_32, ca_X7_199, ca_X7_219, ca_X7_81, cd_X7_readKitchen_0, cd_X7_readKitchen_32, fl_X7_12, fl_X7_289, fl_X7_43, ev_b_9, no_0, no_1, no_lt, no_le, no_eq, no_lt0, no_ge0, no_gt0, no_le0, no_eq0, no_0eq, no_eqm, no_meq, no_m0, no_mlt, no_mge, no_mgt, no_mm, no_i01, no_i10, no_in, no_or, no_ifm, no_mul, nI_add, no_sub, pk_div, iI_if, nI_clamp, oI_n, oI_s, not_true_eq_false, not_false_eq_true, forall_const, true_implies, false_and, and_false, or_false, false_or, Classical.not_not, true_or, or_true, no_b, no_eq1, eq_self, and_self, xk_0 hp, xk_1 hp, xk_2 hp, xk_3 hp, xk_4 hp, xk_5 hp, xk_6 hp, xk_7 hp, xk_8 hp, xk_9 hp, xk_10 hp, xk_11 hp, xk_12 hp, xk_13 hp, xk_14 hp, xk_15 hp, xk_16 hp, xk_17 hp, xk_18 hp, xk_19 hp, xk_20 hp, xk_21 hp, xl_1 hp, xl_2 hp, xl_3 hp, xl_4 hp, xl_6 hp, xl_8 hp, xl_10 hp, xl_12 hp, xl_14 hp, xl_15 hp, xl_17 hp, xl_18 hp, xl_21 hp, xp_7 hp, xp_8 hp, xp_9 hp, xp_10 hp, xp_11 hp, xp_12 hp, xp_13 hp, xp_14 hp, xp_15 hp, xp_16 hp, xp_17 hp, xp_t5 hp, xp_t7 hp, xp_t9 hp, xp_t11 hp, xp_t20 hp, xp_s19 hp, xp_a13 hp, xp_b13 hp, xp_a16 hp, xp_b16 hp, xc_r5 hp, xc_c5 hp, xc_r7 hp, xc_c7 hp, xc_r9 hp, xc_c9 hp, xc_r11 hp, xc_c11 hp, xc_r20 hp, xc_c20 hp, no_on, hK, hpp, pe_1, pe_7, pe_w7, w1_d, hz])
      | (with_reducible refine ev_gid ?_; simp (disch := first | omega | assumption) only [ev_run_c, ev_run_n, ev_fj, ev_stp, ev_lk, ev_fv, ev_as, ev_sz, ev_st1, ev_st2, ev_rm, ev_pk, ev_Jof, ev_go, lv_args, List.map_cons, List.map_nil, List.zip_cons_cons, List.zip_nil_left, List.zip_nil_right, List.nil_append, List.cons_append, ↓reduceIte, reduceCtorEq, Int.reduceToNat, Nat.reduceEqDiff, Nat.reduceAdd, Nat.reduceLT, Nat.reduceLeDiff, Nat.reduceMul, Nat.reduceSub, Value.category, false_implies, true_and, and_true, Bool.false_eq_true, Option.some.injEq, exists_eq_left', Option.toList_some, Option.toList_none, ev_km, ev_k2, ev_k3, ev_k4, ev_k5, ev_l0, ev_l1, sh_1, sh_2, sh_3, sh_4, sh_5, at_X7_readKitchen_32, ca_X7_199, ca_X7_219, ca_X7_81, cd_X7_readKitchen_0, cd_X7_readKitchen_32, fl_X7_12, fl_X7_289, fl_X7_43, ev_b_9, no_0, no_1, no_lt, no_le, no_eq, no_lt0, no_ge0, no_gt0, no_le0, no_eq0, no_0eq, no_eqm, no_meq, no_m0, no_mlt, no_mge, no_mgt, no_mm, no_i01, no_i10, no_in, no_or, no_ifm, no_mul, nI_add, no_sub, pk_div, iI_if, nI_clamp, oI_n, oI_s, not_true_eq_false, not_false_eq_true, forall_const, true_implies, false_and, and_false, or_false, false_or, Classical.not_not, true_or, or_true, no_b, no_eq1, eq_self, and_self, xk_0 hp, xk_1 hp, xk_2 hp, xk_3 hp, xk_4 hp, xk_5 hp, xk_6 hp, xk_7 hp, xk_8 hp, xk_9 hp, xk_10 hp, xk_11 hp, xk_12 hp, xk_13 hp, xk_14 hp, xk_15 hp, xk_16 hp, xk_17 hp, xk_18 hp, xk_19 hp, xk_20 hp, xk_21 hp, xl_1 hp, xl_2 hp, xl_3 hp, xl_4 hp, xl_6 hp, xl_8 hp, xl_10 hp, xl_12 hp, xl_14 hp, xl_15 hp, xl_17 hp, xl_18 hp, xl_21 hp, xp_7 hp, xp_8 hp, xp_9 hp, xp_10 hp, xp_11 hp, xp_12 hp, xp_13 hp, xp_14 hp, xp_15 hp, xp_16 hp, xp_17 hp, xp_t5 hp, xp_t7 hp, xp_t9 hp, xp_t11 hp, xp_t20 hp, xp_s19 hp, xp_a13 hp, xp_b13 hp, xp_a16 hp, xp_b16 hp, xc_r5 hp, xc_c5 hp, xc_r7 hp, xc_c7 hp, xc_r9 hp, xc_c9 hp, xc_r11 hp, xc_c11 hp, xc_r20 hp, xc_c20 hp, no_on, hK, hpp, pe_1, pe_7, pe_w7, w1_d, hz])
      | (with_reducible refine And.intro (fun q => ?_) (fun q => ?_) <;> (try simp (disch := first | omega | assumption) only [no_0, no_1, no_lt, no_le, no_eq, no_lt0, no_ge0, no_gt0, no_le0, no_eq0, no_0eq, no_eqm, no_meq, no_m0, no_mlt, no_mge, no_mgt, no_mm, no_i01, no_i10, no_in, no_or, no_ifm, no_mul, nI_add, no_sub, pk_div, iI_if, nI_clamp, oI_n, oI_s, not_true_eq_false, not_false_eq_true, forall_const, true_implies, false_and, and_false, or_false, false_or, Classical.not_not, true_or, or_true, no_b, no_eq1, eq_self, and_self, xk_0 hp, xk_1 hp, xk_2 hp, xk_3 hp, xk_4 hp, xk_5 hp, xk_6 hp, xk_7 hp, xk_8 hp, xk_9 hp, xk_10 hp, xk_11 hp, xk_12 hp, xk_13 hp, xk_14 hp, xk_15 hp, xk_16 hp, xk_17 hp, xk_18 hp, xk_19 hp, xk_20 hp, xk_21 hp, xl_1 hp, xl_2 hp, xl_3 hp, xl_4 hp, xl_6 hp, xl_8 hp, xl_10 hp, xl_12 hp, xl_14 hp, xl_15 hp, xl_17 hp, xl_18 hp, xl_21 hp, xp_7 hp, xp_8 hp, xp_9 hp, xp_10 hp, xp_11 hp, xp_12 hp, xp_13 hp, xp_14 hp, xp_15 hp, xp_16 hp, xp_17 hp, xp_t5 hp, xp_t7 hp, xp_t9 hp, xp_t11 hp, xp_t20 hp, xp_s19 hp, xp_a13 hp, xp_b13 hp, xp_a16 hp, xp_b16 hp, xc_r5 hp, xc_c5 hp, xc_r7 hp, xc_c7 hp, xc_r9 hp, xc_c9 hp, xc_r11 hp, xc_c11 hp, xc_r20 hp, xc_c20 hp, no_on, hK, hpp, pe_1, pe_7, pe_w7, w1_d, hz] at q))
      | (with_reducible refine ev_ci h1 ?_)
      | (with_reducible refine ev_ci h2 ?_)
      | (with_reducible refine ev_ci hop ?_)
      | with_reducible refine ev_ci (m_X10_setCell hok ?_ ?_ ?_ ?_ _) ?_
      | omega
      | with_reducible assumption
      | with_reducible rfl
      | (refine Nat.lt_of_lt_of_le ?_ (Nat.le_refl 312); omega)
      | with_reducible refine lp_nx ?_ ?_ ?_ ?_
      | with_reducible refine lp_st ?_ ?_ ?_
      | with_reducible refine ls_c ?_ ?_
      | with_reducible refine vi_c ?_
      | with_reducible refine re_c ?_
      | with_reducible refine vz_c ?_
      | with_reducible refine rz_c ?_
      | exact trivial
      | with_reducible refine And.intro ?_ ?_
      | simp (disch := first | omega | assumption) only [ev_run_c, ev_run_n, ev_fj, ev_stp, ev_lk, ev_fv, ev_as, ev_sz, ev_st1, ev_st2, ev_rm, ev_pk, ev_Jof, ev_go, lv_args, List.map_cons, List.map_nil, List.zip_cons_cons, List.zip_nil_left, List.zip_nil_right, List.nil_append, List.cons_append, ↓reduceIte, reduceCtorEq, Int.reduceToNat, Nat.reduceEqDiff, Nat.reduceAdd, Nat.reduceLT, Nat.reduceLeDiff, Nat.reduceMul, Nat.reduceSub, Value.category, false_implies, true_and, and_true, Bool.false_eq_true, Option.some.injEq, exists_eq_left', Option.toList_some, Option.toList_none, ev_km, ev_k2, ev_k3, ev_k4, ev_k5, ev_l0, ev_l1, sh_1, sh_2, sh_3, sh_4, sh_5, at_X7_readKitchen_32, ca_X7_199, ca_X7_219, ca_X7_81, cd_X7_readKitchen_0, cd_X7_readKitchen_32, fl_X7_12, fl_X7_289, fl_X7_43, ev_b_9, no_0, no_1, no_lt, no_le, no_eq, no_lt0, no_ge0, no_gt0, no_le0, no_eq0, no_0eq, no_eqm, no_meq, no_m0, no_mlt, no_mge, no_mgt, no_mm, no_i01, no_i10, no_in, no_or, no_ifm, no_mul, nI_add, no_sub, pk_div, iI_if, nI_clamp, oI_n, oI_s, not_true_eq_false, not_false_eq_true, forall_const, true_implies, false_and, and_false, or_false, false_or, Classical.not_not, true_or, or_true, no_b, no_eq1, eq_self, and_self, xk_0 hp, xk_1 hp, xk_2 hp, xk_3 hp, xk_4 hp, xk_5 hp, xk_6 hp, xk_7 hp, xk_8 hp, xk_9 hp, xk_10 hp, xk_11 hp, xk_12 hp, xk_13 hp, xk_14 hp, xk_15 hp, xk_16 hp, xk_17 hp, xk_18 hp, xk_19 hp, xk_20 hp, xk_21 hp, xl_1 hp, xl_2 hp, xl_3 hp, xl_4 hp, xl_6 hp, xl_8 hp, xl_10 hp, xl_12 hp, xl_14 hp, xl_15 hp, xl_17 hp, xl_18 hp, xl_21 hp, xp_7 hp, xp_8 hp, xp_9 hp, xp_10 hp, xp_11 hp, xp_12 hp, xp_13 hp, xp_14 hp, xp_15 hp, xp_16 hp, xp_17 hp, xp_t5 hp, xp_t7 hp, xp_t9 hp, xp_t11 hp, xp_t20 hp, xp_s19 hp, xp_a13 hp, xp_b13 hp, xp_a16 hp, xp_b16 hp, xc_r5 hp, xc_c5 hp, xc_r7 hp, xc_c7 hp, xc_r9 hp, xc_c9 hp, xc_r11 hp, xc_c11 hp, xc_r20 hp, xc_c20 hp, no_on, hK, hpp, pe_1, pe_7, pe_w7, w1_d, hz]
      | exact rfl
      | (split <;> omega))
  · refine RD_e (a2 := a + 1 + 1) ?_ hz c2
    refine ev_tri hok okM_X7_readKitchen (Nat.le_of_ble_eq_true rfl) 400 ?_
    rw [at_X7_readKitchen_0]
    repeat' (first
      | (with_reducible refine ev_rid ?_; simp (disch := first | omega | assumption) only [ev_run_c, ev_run_n, ev_fj, ev_stp, ev_lk, ev_fv, ev_as, ev_sz, ev_st1, ev_st2, ev_rm, ev_pk, ev_Jof, ev_go, lv_args, List.map_cons, List.map_nil, List.zip_cons_cons, List.zip_nil_left, List.zip_nil_right, List.nil_append, List.cons_append, ↓reduceIte, reduceCtorEq, Int.reduceToNat, Nat.reduceEqDiff, Nat.reduceAdd, Nat.reduceLT, Nat.reduceLeDiff, Nat.reduceMul, Nat.reduceSub, Value.category, false_implies, true_and, and_true, Bool.false_eq_true, Option.some.injEq, exists_eq_left', Option.toList_some, Option.toList_none, ev_km, ev_k2, ev_k3, ev_k4, ev_k5, ev_l0, ev_l1, sh_1, sh_2, sh_3, sh_4, sh_5, at_X7_readKitchen_32, ca_X7_199, ca_X7_219, ca_X7_81, cd_X7_readKitchen_0, cd_X7_readKitchen_32, fl_X7_12, fl_X7_289, fl_X7_43, ev_b_9, no_0, no_1, no_lt, no_le, no_eq, no_lt0, no_ge0, no_gt0, no_le0, no_eq0, no_0eq, no_eqm, no_meq, no_m0, no_mlt, no_mge, no_mgt, no_mm, no_i01, no_i10, no_in, no_or, no_ifm, no_mul, nI_add, no_sub, pk_div, iI_if, nI_clamp, oI_n, oI_s, not_true_eq_false, not_false_eq_true, forall_const, true_implies, false_and, and_false, or_false, false_or, Classical.not_not, true_or, or_true, no_b, no_eq1, eq_self, and_self, xk_0 hp, xk_1 hp, xk_2 hp, xk_3 hp, xk_4 hp, xk_5 hp, xk_6 hp, xk_7 hp, xk_8 hp, xk_9 hp, xk_10 hp, xk_11 hp, xk_12 hp, xk_13 hp, xk_14 hp, xk_15 hp, xk_16 hp, xk_17 hp, xk_18 hp, xk_19 hp, xk_20 hp, xk_21 hp, xl_1 hp, xl_2 hp, xl_3 hp, xl_4 hp, xl_6 hp, xl_8 hp, xl_10 hp, xl_12 hp, xl_14 hp, xl_15 hp, xl_17 hp, xl_18 hp, xl_21 hp, xp_7 hp, xp_8 hp, xp_9 hp, xp_10 hp, xp_11 hp, xp_12 hp, xp_13 hp, xp_14 hp, xp_15 hp, xp_16 hp, xp_17 hp, xp_t5 hp, xp_t7 hp, xp_t9 hp, xp_t11 hp, xp_t20 hp, xp_s19 hp, xp_a13 hp, xp_b13 hp, xp_a16 hp, xp_b16 hp, xc_r5 hp, xc_c5 hp, xc_r7 hp, xc_c7 hp, xc_r9 hp, xc_c9 hp, xc_r11 hp, xc_c11 hp, xc_r20 hp, xc_c20 hp, no_on, hK, hpp, pe_1, pe_7, pe_w7, w1_d, hz])
      | (with_reducible refine ev_gid ?_; simp (disch := first | omega | assumption) only [ev_run_c, ev_run_n, ev_fj, ev_stp, ev_lk, ev_fv, ev_as, ev_sz, ev_st1, ev_st2, ev_rm, ev_pk, ev_Jof, ev_go, lv_args, List.map_cons, List.map_nil, List.zip_cons_cons, List.zip_nil_left, List.zip_nil_right, List.nil_append, List.cons_append, ↓reduceIte, reduceCtorEq, Int.reduceToNat, Nat.reduceEqDiff, Nat.reduceAdd, Nat.reduceLT, Nat.reduceLeDiff, Nat.reduceMul, Nat.reduceSub, Value.category, false_implies, true_and, and_true, Bool.false_eq_true, Option.some.injEq, exists_eq_left', Option.toList_some, Option.toList_none, ev_km, ev_k2, ev_k3, ev_k4, ev_k5, ev_l0, ev_l1, sh_1, sh_2, sh_3, sh_4, sh_5, at_X7_readKitchen_32, ca_X7_199, ca_X7_219, ca_X7_81, cd_X7_readKitchen_0, cd_X7_readKitchen_32, fl_X7_12, fl_X7_289, fl_X7_43, ev_b_9, no_0, no_1, no_lt, no_le, no_eq, no_lt0, no_ge0, no_gt0, no_le0, no_eq0, no_0eq, no_eqm, no_meq, no_m0, no_mlt, no_mge, no_mgt, no_mm, no_i01, no_i10, no_in, no_or, no_ifm, no_mul, nI_add, no_sub, pk_div, iI_if, nI_clamp, oI_n, oI_s, not_true_eq_false, not_false_eq_true, forall_const, true_implies, false_and, and_false, or_false, false_or, Classical.not_not, true_or, or_true, no_b, no_eq1, eq_self, and_self, xk_0 hp, xk_1 hp, xk_2 hp, xk_3 hp, xk_4 hp, xk_5 hp, xk_6 hp, xk_7 hp, xk_8 hp, xk_9 hp, xk_10 hp, xk_11 hp, xk_12 hp, xk_13 hp, xk_14 hp, xk_15 hp, xk_16 hp, xk_17 hp, xk_18 hp, xk_19 hp, xk_20 hp, xk_21 hp, xl_1 hp, xl_2 hp, xl_3 hp, xl_4 hp, xl_6 hp, xl_8 hp, xl_10 hp, xl_12 hp, xl_14 hp, xl_15 hp, xl_17 hp, xl_18 hp, xl_21 hp, xp_7 hp, xp_8 hp, xp_9 hp, xp_10 hp, xp_11 hp, xp_12 hp, xp_13 hp, xp_14 hp, xp_15 hp, xp_16 hp, xp_17 hp, xp_t5 hp, xp_t7 hp, xp_t9 hp, xp_t11 hp, xp_t20 hp, xp_s19 hp, xp_a13 hp, xp_b13 hp, xp_a16 hp, xp_b16 hp, xc_r5 hp, xc_c5 hp, xc_r7 hp, xc_c7 hp, xc_r9 hp, xc_c9 hp, xc_r11 hp, xc_c11 hp, xc_r20 hp, xc_c20 hp, no_on, hK, hpp, pe_1, pe_7, pe_w7, w1_d, hz])
      | (with_reducible refine And.intro (fun q => ?_) (fun q => ?_) <;> (try simp (disch := first | omega | assumption) only [no_0, no_1, no_lt, no_le, no_eq, no_lt0, no_ge0, no_gt0, no_le0, no_eq0, no_0eq, no_eqm, no_meq, no_m0, no_mlt, no_mge, no_mgt, no_mm, no_i01, no_i10, no_in, no_or, no_ifm, no_mul, nI_add, no_sub, pk_div, iI_if, nI_clamp, oI_n, oI_s, not_true_eq_false, not_false_eq_true, forall_const, true_implies, false_and, and_false, or_false, false_or, Classical.not_not, true_or, or_true, no_b, no_eq1, eq_self, and_self, xk_0 hp, xk_1 hp, xk_2 hp, xk_3 hp, xk_4 hp, xk_5 hp, xk_6 hp, xk_7 hp, xk_8 hp, xk_9 hp, xk_10 hp, xk_11 hp, xk_12 hp, xk_13 hp, xk_14 hp, xk_15 hp, xk_16 hp, xk_17 hp, xk_18 hp, xk_19 hp, xk_20 hp, xk_21 hp, xl_1 hp, xl_2 hp, xl_3 hp, xl_4 hp, xl_6 hp, xl_8 hp, xl_10 hp, xl_12 hp, xl_14 hp, xl_15 hp, xl_17 hp, xl_18 hp, xl_21 hp, xp_7 hp, xp_8 hp, xp_9 hp, xp_10 hp, xp_11 hp, xp_12 hp, xp_13 hp, xp_14 hp, xp_15 hp, xp_16 hp, xp_17 hp, xp_t5 hp, xp_t7 hp, xp_t9 hp, xp_t11 hp, xp_t20 hp, xp_s19 hp, xp_a13 hp, xp_b13 hp, xp_a16 hp, xp_b16 hp, xc_r5 hp, xc_c5 hp, xc_r7 hp, xc_c7 hp, xc_r9 hp, xc_c9 hp, xc_r11 hp, xc_c11 hp, xc_r20 hp, xc_c20 hp, no_on, hK, hpp, pe_1, pe_7, pe_w7, w1_d, hz] at q))
      | (with_reducible refine ev_ci h1 ?_)
      | (with_reducible refine ev_ci h2 ?_)
      | with_reducible refine ev_ci (m_X10_setCell hok ?_ ?_ ?_ ?_ _) ?_
      | omega
      | with_reducible assumption
      | with_reducible rfl
      | (refine Nat.lt_of_lt_of_le ?_ (Nat.le_refl 312); omega)
      | with_reducible refine lp_nx ?_ ?_ ?_ ?_
      | with_reducible refine lp_st ?_ ?_ ?_
      | with_reducible refine ls_c ?_ ?_
      | with_reducible refine vi_c ?_
      | with_reducible refine re_c ?_
      | with_reducible refine vz_c ?_
      | with_reducible refine rz_c ?_
      | exact trivial
      | with_reducible refine And.intro ?_ ?_
      | simp (disch := first | omega | assumption) only [ev_run_c, ev_run_n, ev_fj, ev_stp, ev_lk, ev_fv, ev_as, ev_sz, ev_st1, ev_st2, ev_rm, ev_pk, ev_Jof, ev_go, lv_args, List.map_cons, List.map_nil, List.zip_cons_cons, List.zip_nil_left, List.zip_nil_right, List.nil_append, List.cons_append, ↓reduceIte, reduceCtorEq, Int.reduceToNat, Nat.reduceEqDiff, Nat.reduceAdd, Nat.reduceLT, Nat.reduceLeDiff, Nat.reduceMul, Nat.reduceSub, Value.category, false_implies, true_and, and_true, Bool.false_eq_true, Option.some.injEq, exists_eq_left', Option.toList_some, Option.toList_none, ev_km, ev_k2, ev_k3, ev_k4, ev_k5, ev_l0, ev_l1, sh_1, sh_2, sh_3, sh_4, sh_5, at_X7_readKitchen_32, ca_X7_199, ca_X7_219, ca_X7_81, cd_X7_readKitchen_0, cd_X7_readKitchen_32, fl_X7_12, fl_X7_289, fl_X7_43, ev_b_9, no_0, no_1, no_lt, no_le, no_eq, no_lt0, no_ge0, no_gt0, no_le0, no_eq0, no_0eq, no_eqm, no_meq, no_m0, no_mlt, no_mge, no_mgt, no_mm, no_i01, no_i10, no_in, no_or, no_ifm, no_mul, nI_add, no_sub, pk_div, iI_if, nI_clamp, oI_n, oI_s, not_true_eq_false, not_false_eq_true, forall_const, true_implies, false_and, and_false, or_false, false_or, Classical.not_not, true_or, or_true, no_b, no_eq1, eq_self, and_self, xk_0 hp, xk_1 hp, xk_2 hp, xk_3 hp, xk_4 hp, xk_5 hp, xk_6 hp, xk_7 hp, xk_8 hp, xk_9 hp, xk_10 hp, xk_11 hp, xk_12 hp, xk_13 hp, xk_14 hp, xk_15 hp, xk_16 hp, xk_17 hp, xk_18 hp, xk_19 hp, xk_20 hp, xk_21 hp, xl_1 hp, xl_2 hp, xl_3 hp, xl_4 hp, xl_6 hp, xl_8 hp, xl_10 hp, xl_12 hp, xl_14 hp, xl_15 hp, xl_17 hp, xl_18 hp, xl_21 hp, xp_7 hp, xp_8 hp, xp_9 hp, xp_10 hp, xp_11 hp, xp_12 hp, xp_13 hp, xp_14 hp, xp_15 hp, xp_16 hp, xp_17 hp, xp_t5 hp, xp_t7 hp, xp_t9 hp, xp_t11 hp, xp_t20 hp, xp_s19 hp, xp_a13 hp, xp_b13 hp, xp_a16 hp, xp_b16 hp, xc_r5 hp, xc_c5 hp, xc_r7 hp, xc_c7 hp, xc_r9 hp, xc_c9 hp, xc_r11 hp, xc_c11 hp, xc_r20 hp, xc_c20 hp, no_on, hK, hpp, pe_1, pe_7, pe_w7, w1_d, hz]
      | exact rfl
      | (split <;> omega))
def q_leave (B : Nat → Nat) (n : Nat) (N : Nat → Nat) (a : Nat) : Nat × Int32 := er (rN B n (rP B n N (0, -1) a) (a + 1) 0 (N 1)) (¬ sP N (tvl B n (a + 1)) (pv B n N a) < N (952 + 9 * (tvl B n (a + 1)) + 5)) 4 (a + 1) B n
set_option maxHeartbeats 1000000 in
theorem rd_leave (hok : ev_ok sh_S G) (hT : TT B n m μ) (hp6 : p = 6) (hP : PR p N μ) (hI : INV N) {a : Nat} (ha : a ≤ m) : RD G mi_X7_readLeave a μ (q_leave B n N a) (lvN N (pv B n N a) (tvl B n (a + 1))) (a + 1 + 1) := by
  have hK := And.intro pk_5.1 pk_5.2.2
  have hpp : sh_pt 5 0 = p := by rw [hp6]; exact pk_5.2.1
  have hp : p ∈ sh_B := by rw [hp6]; exact sh_6
  have hlt := xp_lt hp
  have hh := iv_h hI
  have hm5 := hT.1
  have hP6 : PR 6 N μ := by rw [← hp6]; exact hP
  unfold q_leave
  have h1 := m_person (e := (0, -1)) (a := a) hok hT hP6 hh.1 (by decide) (fun _ => ha) (by omega)
  have c1 : (rP B n N (0, -1) a).1 < 5 := rP_c (by decide)
  have g1 := fun (h : (rP B n N (0, -1) a).1 = 0) => (rP_0 h).1
  have n1 : (rP B n N (0, -1) a).1 = 0 → a + 1 ≤ m := rP_nx hT (fun _ => ha)
  have v1 : (rP B n N (0, -1) a).1 = 0 → pv B n N a < N 0 := fun h => (rP_0 h).2.2.2.1
  have t1 : (rP B n N (0, -1) a).1 = 0 → a ≤ m := fun h => (fun _ => ha) (rP_0 h).1
  generalize rP B n N (0, -1) a = e1 at h1 c1 g1 n1 v1 t1 ⊢
  have h2 := m_pancake (e := e1) (a := a + 1) hok hT hP6 hh.2.1 c1 n1 (by omega)
  have c2 : (rN B n e1 (a + 1) 0 (N 1)).1 < 5 := rN_c c1
  have g2 := fun (h : (rN B n e1 (a + 1) 0 (N 1)).1 = 0) => (rN_0 h).1
  have n2 : (rN B n e1 (a + 1) 0 (N 1)).1 = 0 → a + 1 + 1 ≤ m := rN_nx hT n1
  have v2 : (rN B n e1 (a + 1) 0 (N 1)).1 = 0 → tvl B n (a + 1) < N 1 := fun h => (nmc_0 (rN_0 h).2.1).2.2
  have t2 : (rN B n e1 (a + 1) 0 (N 1)).1 = 0 → (a + 1) ≤ m := fun h => n1 (rN_0 h).1
  generalize rN B n e1 (a + 1) 0 (N 1) = e2 at h2 c2 g2 n2 v2 t2 ⊢
  have h3 := m_checkSeat (e := e2) (a := a + 1) (i := (pv B n N a)) (q := (tvl B n (a + 1))) (x := rv e1.1 (pv B n N a)) hok hT hp6 hP hI c2 t2 (by omega) (fun h => ⟨by rw [g2 h]; rfl, by have := v1 (g2 h); omega, by have := v2 h; omega⟩)
  have c3 : (er e2 (¬ sP N (tvl B n (a + 1)) (pv B n N a) < N (952 + 9 * (tvl B n (a + 1)) + 5)) 4 (a + 1) B n).1 < 5 := er_c c2 (by decide)
  have g3 := fun (h : (er e2 (¬ sP N (tvl B n (a + 1)) (pv B n N a) < N (952 + 9 * (tvl B n (a + 1)) + 5)) 4 (a + 1) B n).1 = 0) => (er_0 h (by decide)).1
  have n3 : (er e2 (¬ sP N (tvl B n (a + 1)) (pv B n N a) < N (952 + 9 * (tvl B n (a + 1)) + 5)) 4 (a + 1) B n).1 = 0 → a + 1 + 1 ≤ m := er_nx (by decide) n2
  have w3 : (er e2 (¬ sP N (tvl B n (a + 1)) (pv B n N a) < N (952 + 9 * (tvl B n (a + 1)) + 5)) 4 (a + 1) B n).1 = 0 → ¬ (¬ sP N (tvl B n (a + 1)) (pv B n N a) < N (952 + 9 * (tvl B n (a + 1)) + 5)) := fun h => (er_0 h (by decide)).2.1
  generalize er e2 (¬ sP N (tvl B n (a + 1)) (pv B n N a) < N (952 + 9 * (tvl B n (a + 1)) + 5)) 4 (a + 1) B n = e3 at h3 c3 g3 n3 w3 ⊢
  by_cases hz : e3.1 = 0
  · have z3 := hz
    have z2 := g3 z3
    have z1 := g2 z2
    have u1 := v1 z1
    have u2 := v2 z2
    have r1 : rv e1.1 (pv B n N a) = nI (pv B n N a) := by rw [z1]; rfl
    have r2 : rv e2.1 (tvl B n (a + 1)) = nI (tvl B n (a + 1)) := by rw [z2]; rfl
    try simp only [r1, r2] at h1
    try simp only [r1, r2] at h2
    try simp only [r1, r2] at h3
    have hPz : PR p N (pe e3 (a + 1 + 1) μ) := PR_p hp6 hP
    have hop := m_X4_takeSeat (μ := pe e3 (a + 1 + 1) μ) hok hp hPz hI (i := (pv B n N a)) (q := (tvl B n (a + 1))) u1 u2 (by have := w3 z3; omega)
    refine RD_o hp6 (μ'' := x_take p (pv B n N a) (tvl B n (a + 1)) N (pe e3 (a + 1 + 1) μ)) ?_ hz (Fp_take Fp_rf) (PR_take hPz hI u1 u2 (by have := w3 z3; omega))
    refine ev_tri hok okM_X7_readLeave (Nat.le_of_ble_eq_true rfl) 400 ?_
    rw [at_X7_readLeave_0]
    repeat' (first
      | (with_reducible refine ev_rid ?_; simp (disch := first | omega | assumption) only [ev_run_c, ev_run_n, ev_fj, ev_stp, ev_lk, ev_fv, ev_as, ev_sz, ev_st1, ev_st2, ev_rm, ev_pk, ev_Jof, ev_go, lv_args, List.map_cons, List.map_nil, List.zip_cons_cons, List.zip_nil_left, List.zip_nil_right, List.nil_append, List.cons_append, ↓reduceIte, reduceCtorEq, Int.reduceToNat, Nat.reduceEqDiff, Nat.reduceAdd, Nat.reduceLT, Nat.reduceLeDiff, Nat.reduceMul, Nat.reduceSub, Value.category, false_implies, true_and, and_true, Bool.false_eq_true, Option.some.injEq, exists_eq_left', Option.toList_some, Option.toList_none, ev_km, ev_k2, ev_k3, ev_k4, ev_k5, ev_l0, ev_l1, sh_1, sh_2, sh_3, sh_4, sh_5, at_X7_readLeave_32, ca_X7_199, ca_X7_243, ca_X7_268, ca_X7_271, cd_X7_readLeave_0, cd_X7_readLeave_32, fl_X7_12, fl_X7_43, no_0, no_1, no_lt, no_le, no_eq, no_lt0, no_ge0, no_gt0, no_le0, no_eq0, no_0eq, no_eqm, no_meq, no_m0, no_mlt, no_mge, no_mgt, no_mm, no_i01, no_i10, no_in, no_or, no_ifm, no_mul, nI_add, no_sub, pk_div, iI_if, nI_clamp, oI_n, oI_s, not_true_eq_false, not_false_eq_true, forall_const, true_implies, false_and, and_false, or_false, false_or, Classical.not_not, true_or, or_true, no_b, no_eq1, eq_self, and_self, xk_0 hp, xk_1 hp, xk_2 hp, xk_3 hp, xk_4 hp, xk_5 hp, xk_6 hp, xk_7 hp, xk_8 hp, xk_9 hp, xk_10 hp, xk_11 hp, xk_12 hp, xk_13 hp, xk_14 hp, xk_15 hp, xk_16 hp, xk_17 hp, xk_18 hp, xk_19 hp, xk_20 hp, xk_21 hp, xl_1 hp, xl_2 hp, xl_3 hp, xl_4 hp, xl_6 hp, xl_8 hp, xl_10 hp, xl_12 hp, xl_14 hp, xl_15 hp, xl_17 hp, xl_18 hp, xl_21 hp, xp_7 hp, xp_8 hp, xp_9 hp, xp_10 hp, xp_11 hp, xp_12 hp, xp_13 hp, xp_14 hp, xp_15 hp, xp_16 hp, xp_17 hp, xp_t5 hp, xp_t7 hp, xp_t9 hp, xp_t11 hp, xp_t20 hp, xp_s19 hp, xp_a13 hp, xp_b13 hp, xp_a16 hp, xp_b16 hp, xc_r5 hp, xc_c5 hp, xc_r7 hp, xc_c7 hp, xc_r9 hp, xc_c9 hp, xc_r11 hp, xc_c11 hp, xc_r20 hp, xc_c20 hp, no_on, hK, hpp, pe_1, pe_7, pe_w7, w1_d, hz])
      | (with_reducible refine ev_gid ?_; simp (disch := first | omega | assumption) only [ev_run_c, ev_run_n, ev_fj, ev_stp, ev_lk, ev_fv, ev_as, ev_sz, ev_st1, ev_st2, ev_rm, ev_pk, ev_Jof, ev_go, lv_args, List.map_cons, List.map_nil, List.zip_cons_cons, List.zip_nil_left, List.zip_nil_right, List.nil_append, List.cons_append, ↓reduceIte, reduceCtorEq, Int.reduceToNat, Nat.reduceEqDiff, Nat.reduceAdd, Nat.reduceLT, Nat.reduceLeDiff, Nat.reduceMul, Nat.reduceSub, Value.category, false_implies, true_and, and_true, Bool.false_eq_true, Option.some.injEq, exists_eq_left', Option.toList_some, Option.toList_none, ev_km, ev_k2, ev_k3, ev_k4, ev_k5, ev_l0, ev_l1, sh_1, sh_2, sh_3, sh_4, sh_5, at_X7_readLeave_32, ca_X7_199, ca_X7_243, ca_X7_268, ca_X7_271, cd_X7_readLeave_0, cd_X7_readLeave_32, fl_X7_12, fl_X7_43, no_0, no_1, no_lt, no_le, no_eq, no_lt0, no_ge0, no_gt0, no_le0, no_eq0, no_0eq, no_eqm, no_meq, no_m0, no_mlt, no_mge, no_mgt, no_mm, no_i01, no_i10, no_in, no_or, no_ifm, no_mul, nI_add, no_sub, pk_div, iI_if, nI_clamp, oI_n, oI_s, not_true_eq_false, not_false_eq_true, forall_const, true_implies, false_and, and_false, or_false, false_or, Classical.not_not, true_or, or_true, no_b, no_eq1, eq_self, and_self, xk_0 hp, xk_1 hp, xk_2 hp, xk_3 hp, xk_4 hp, xk_5 hp, xk_6 hp, xk_7 hp, xk_8 hp, xk_9 hp, xk_10 hp, xk_11 hp, xk_12 hp, xk_13 hp, xk_14 hp, xk_15 hp, xk_16 hp, xk_17 hp, xk_18 hp, xk_19 hp, xk_20 hp, xk_21 hp, xl_1 hp, xl_2 hp, xl_3 hp, xl_4 hp, xl_6 hp, xl_8 hp, xl_10 hp, xl_12 hp, xl_14 hp, xl_15 hp, xl_17 hp, xl_18 hp, xl_21 hp, xp_7 hp, xp_8 hp, xp_9 hp, xp_10 hp, xp_11 hp, xp_12 hp, xp_13 hp, xp_14 hp, xp_15 hp, xp_16 hp, xp_17 hp, xp_t5 hp, xp_t7 hp, xp_t9 hp, xp_t11 hp, xp_t20 hp, xp_s19 hp, xp_a13 hp, xp_b13 hp, xp_a16 hp, xp_b16 hp, xc_r5 hp, xc_c5 hp, xc_r7 hp, xc_c7 hp, xc_r9 hp, xc_c9 hp, xc_r11 hp, xc_c11 hp, xc_r20 hp, xc_c20 hp, no_on, hK, hpp, pe_1, pe_7, pe_w7, w1_d, hz])
      | (with_reducible refine And.intro (fun q => ?_) (fun q => ?_) <;> (try simp (disch := first | omega | assumption) only [no_0, no_1, no_lt, no_le, no_eq, no_lt0, no_ge0, no_gt0, no_le0, no_eq0, no_0eq, no_eqm, no_meq, no_m0, no_mlt, no_mge, no_mgt, no_mm, no_i01, no_i10, no_in, no_or, no_ifm, no_mul, nI_add, no_sub, pk_div, iI_if, nI_clamp, oI_n, oI_s, not_true_eq_false, not_false_eq_true, forall_const, true_implies, false_and, and_false, or_false, false_or, Classical.not_not, true_or, or_true, no_b, no_eq1, eq_self, and_self, xk_0 hp, xk_1 hp, xk_2 hp, xk_3 hp, xk_4 hp, xk_5 hp, xk_6 hp, xk_7 hp, xk_8 hp, xk_9 hp, xk_10 hp, xk_11 hp, xk_12 hp, xk_13 hp, xk_14 hp, xk_15 hp, xk_16 hp, xk_17 hp, xk_18 hp, xk_19 hp, xk_20 hp, xk_21 hp, xl_1 hp, xl_2 hp, xl_3 hp, xl_4 hp, xl_6 hp, xl_8 hp, xl_10 hp, xl_12 hp, xl_14 hp, xl_15 hp, xl_17 hp, xl_18 hp, xl_21 hp, xp_7 hp, xp_8 hp, xp_9 hp, xp_10 hp, xp_11 hp, xp_12 hp, xp_13 hp, xp_14 hp, xp_15 hp, xp_16 hp, xp_17 hp, xp_t5 hp, xp_t7 hp, xp_t9 hp, xp_t11 hp, xp_t20 hp, xp_s19 hp, xp_a13 hp, xp_b13 hp, xp_a16 hp, xp_b16 hp, xc_r5 hp, xc_c5 hp, xc_r7 hp, xc_c7 hp, xc_r9 hp, xc_c9 hp, xc_r11 hp, xc_c11 hp, xc_r20 hp, xc_c20 hp, no_on, hK, hpp, pe_1, pe_7, pe_w7, w1_d, hz] at q))
      | (with_reducible refine ev_ci h1 ?_)
      | (with_reducible refine ev_ci h2 ?_)
      | (with_reducible refine ev_ci h3 ?_)
      | (with_reducible refine ev_ci hop ?_)
      | omega
      | with_reducible assumption
      | with_reducible rfl
      | (refine Nat.lt_of_lt_of_le ?_ (Nat.le_refl 312); omega)
      | with_reducible refine lp_nx ?_ ?_ ?_ ?_
      | with_reducible refine lp_st ?_ ?_ ?_
      | with_reducible refine ls_c ?_ ?_
      | with_reducible refine vi_c ?_
      | with_reducible refine re_c ?_
      | with_reducible refine vz_c ?_
      | with_reducible refine rz_c ?_
      | exact trivial
      | with_reducible refine And.intro ?_ ?_
      | simp (disch := first | omega | assumption) only [ev_run_c, ev_run_n, ev_fj, ev_stp, ev_lk, ev_fv, ev_as, ev_sz, ev_st1, ev_st2, ev_rm, ev_pk, ev_Jof, ev_go, lv_args, List.map_cons, List.map_nil, List.zip_cons_cons, List.zip_nil_left, List.zip_nil_right, List.nil_append, List.cons_append, ↓reduceIte, reduceCtorEq, Int.reduceToNat, Nat.reduceEqDiff, Nat.reduceAdd, Nat.reduceLT, Nat.reduceLeDiff, Nat.reduceMul, Nat.reduceSub, Value.category, false_implies, true_and, and_true, Bool.false_eq_true, Option.some.injEq, exists_eq_left', Option.toList_some, Option.toList_none, ev_km, ev_k2, ev_k3, ev_k4, ev_k5, ev_l0, ev_l1, sh_1, sh_2, sh_3, sh_4, sh_5, at_X7_readLeave_32, ca_X7_199, ca_X7_243, ca_X7_268, ca_X7_271, cd_X7_readLeave_0, cd_X7_readLeave_32, fl_X7_12, fl_X7_43, no_0, no_1, no_lt, no_le, no_eq, no_lt0, no_ge0, no_gt0, no_le0, no_eq0, no_0eq, no_eqm, no_meq, no_m0, no_mlt, no_mge, no_mgt, no_mm, no_i01, no_i10, no_in, no_or, no_ifm, no_mul, nI_add, no_sub, pk_div, iI_if, nI_clamp, oI_n, oI_s, not_true_eq_false, not_false_eq_true, forall_const, true_implies, false_and, and_false, or_false, false_or, Classical.not_not, true_or, or_true, no_b, no_eq1, eq_self, and_self, xk_0 hp, xk_1 hp, xk_2 hp, xk_3 hp, xk_4 hp, xk_5 hp, xk_6 hp, xk_7 hp, xk_8 hp, xk_9 hp, xk_10 hp, xk_11 hp, xk_12 hp, xk_13 hp, xk_14 hp, xk_15 hp, xk_16 hp, xk_17 hp, xk_18 hp, xk_19 hp, xk_20 hp, xk_21 hp, xl_1 hp, xl_2 hp, xl_3 hp, xl_4 hp, xl_6 hp, xl_8 hp, xl_10 hp, xl_12 hp, xl_14 hp, xl_15 hp, xl_17 hp, xl_18 hp, xl_21 hp, xp_7 hp, xp_8 hp, xp_9 hp, xp_10 hp, xp_11 hp, xp_12 hp, xp_13 hp, xp_14 hp, xp_15 hp, xp_16 hp, xp_17 hp, xp_t5 hp, xp_t7 hp, xp_t9 hp, xp_t11 hp, xp_t20 hp, xp_s19 hp, xp_a13 hp, xp_b13 hp, xp_a16 hp, xp_b16 hp, xc_r5 hp, xc_c5 hp, xc_r7 hp, xc_c7 hp, xc_r9 hp, xc_c9 hp, xc_r11 hp, xc_c11 hp, xc_r20 hp, xc_c20 hp, no_on, hK, hpp, pe_1, pe_7, pe_w7, w1_d, hz]
      | exact rfl
      | (split <;> omega))
  · refine RD_e (a2 := a + 1 + 1) ?_ hz c3
    refine ev_tri hok okM_X7_readLeave (Nat.le_of_ble_eq_true rfl) 400 ?_
    rw [at_X7_readLeave_0]
    repeat' (first
      | (with_reducible refine ev_rid ?_; simp (disch := first | omega | assumption) only [ev_run_c, ev_run_n, ev_fj, ev_stp, ev_lk, ev_fv, ev_as, ev_sz, ev_st1, ev_st2, ev_rm, ev_pk, ev_Jof, ev_go, lv_args, List.map_cons, List.map_nil, List.zip_cons_cons, List.zip_nil_left, List.zip_nil_right, List.nil_append, List.cons_append, ↓reduceIte, reduceCtorEq, Int.reduceToNat, Nat.reduceEqDiff, Nat.reduceAdd, Nat.reduceLT, Nat.reduceLeDiff, Nat.reduceMul, Nat.reduceSub, Value.category, false_implies, true_and, and_true, Bool.false_eq_true, Option.some.injEq, exists_eq_left', Option.toList_some, Option.toList_none, ev_km, ev_k2, ev_k3, ev_k4, ev_k5, ev_l0, ev_l1, sh_1, sh_2, sh_3, sh_4, sh_5, at_X7_readLeave_32, ca_X7_199, ca_X7_243, ca_X7_268, ca_X7_271, cd_X7_readLeave_0, cd_X7_readLeave_32, fl_X7_12, fl_X7_43, no_0, no_1, no_lt, no_le, no_eq, no_lt0, no_ge0, no_gt0, no_le0, no_eq0, no_0eq, no_eqm, no_meq, no_m0, no_mlt, no_mge, no_mgt, no_mm, no_i01, no_i10, no_in, no_or, no_ifm, no_mul, nI_add, no_sub, pk_div, iI_if, nI_clamp, oI_n, oI_s, not_true_eq_false, not_false_eq_true, forall_const, true_implies, false_and, and_false, or_false, false_or, Classical.not_not, true_or, or_true, no_b, no_eq1, eq_self, and_self, xk_0 hp, xk_1 hp, xk_2 hp, xk_3 hp, xk_4 hp, xk_5 hp, xk_6 hp, xk_7 hp, xk_8 hp, xk_9 hp, xk_10 hp, xk_11 hp, xk_12 hp, xk_13 hp, xk_14 hp, xk_15 hp, xk_16 hp, xk_17 hp, xk_18 hp, xk_19 hp, xk_20 hp, xk_21 hp, xl_1 hp, xl_2 hp, xl_3 hp, xl_4 hp, xl_6 hp, xl_8 hp, xl_10 hp, xl_12 hp, xl_14 hp, xl_15 hp, xl_17 hp, xl_18 hp, xl_21 hp, xp_7 hp, xp_8 hp, xp_9 hp, xp_10 hp, xp_11 hp, xp_12 hp, xp_13 hp, xp_14 hp, xp_15 hp, xp_16 hp, xp_17 hp, xp_t5 hp, xp_t7 hp, xp_t9 hp, xp_t11 hp, xp_t20 hp, xp_s19 hp, xp_a13 hp, xp_b13 hp, xp_a16 hp, xp_b16 hp, xc_r5 hp, xc_c5 hp, xc_r7 hp, xc_c7 hp, xc_r9 hp, xc_c9 hp, xc_r11 hp, xc_c11 hp, xc_r20 hp, xc_c20 hp, no_on, hK, hpp, pe_1, pe_7, pe_w7, w1_d, hz])
      | (with_reducible refine ev_gid ?_; simp (disch := first | omega | assumption) only [ev_run_c, ev_run_n, ev_fj, ev_stp, ev_lk, ev_fv, ev_as, ev_sz, ev_st1, ev_st2, ev_rm, ev_pk, ev_Jof, ev_go, lv_args, List.map_cons, List.map_nil, List.zip_cons_cons, List.zip_nil_left, List.zip_nil_right, List.nil_append, List.cons_append, ↓reduceIte, reduceCtorEq, Int.reduceToNat, Nat.reduceEqDiff, Nat.reduceAdd, Nat.reduceLT, Nat.reduceLeDiff, Nat.reduceMul, Nat.reduceSub, Value.category, false_implies, true_and, and_true, Bool.false_eq_true, Option.some.injEq, exists_eq_left', Option.toList_some, Option.toList_none, ev_km, ev_k2, ev_k3, ev_k4, ev_k5, ev_l0, ev_l1, sh_1, sh_2, sh_3, sh_4, sh_5, at_X7_readLeave_32, ca_X7_199, ca_X7_243, ca_X7_268, ca_X7_271, cd_X7_readLeave_0, cd_X7_readLeave_32, fl_X7_12, fl_X7_43, no_0, no_1, no_lt, no_le, no_eq, no_lt0, no_ge0, no_gt0, no_le0, no_eq0, no_0eq, no_eqm, no_meq, no_m0, no_mlt, no_mge, no_mgt, no_mm, no_i01, no_i10, no_in, no_or, no_ifm, no_mul, nI_add, no_sub, pk_div, iI_if, nI_clamp, oI_n, oI_s, not_true_eq_false, not_false_eq_true, forall_const, true_implies, false_and, and_false, or_false, false_or, Classical.not_not, true_or, or_true, no_b, no_eq1, eq_self, and_self, xk_0 hp, xk_1 hp, xk_2 hp, xk_3 hp, xk_4 hp, xk_5 hp, xk_6 hp, xk_7 hp, xk_8 hp, xk_9 hp, xk_10 hp, xk_11 hp, xk_12 hp, xk_13 hp, xk_14 hp, xk_15 hp, xk_16 hp, xk_17 hp, xk_18 hp, xk_19 hp, xk_20 hp, xk_21 hp, xl_1 hp, xl_2 hp, xl_3 hp, xl_4 hp, xl_6 hp, xl_8 hp, xl_10 hp, xl_12 hp, xl_14 hp, xl_15 hp, xl_17 hp, xl_18 hp, xl_21 hp, xp_7 hp, xp_8 hp, xp_9 hp, xp_10 hp, xp_11 hp, xp_12 hp, xp_13 hp, xp_14 hp, xp_15 hp, xp_16 hp, xp_17 hp, xp_t5 hp, xp_t7 hp, xp_t9 hp, xp_t11 hp, xp_t20 hp, xp_s19 hp, xp_a13 hp, xp_b13 hp, xp_a16 hp, xp_b16 hp, xc_r5 hp, xc_c5 hp, xc_r7 hp, xc_c7 hp, xc_r9 hp, xc_c9 hp, xc_r11 hp, xc_c11 hp, xc_r20 hp, xc_c20 hp, no_on, hK, hpp, pe_1, pe_7, pe_w7, w1_d, hz])
      | (with_reducible refine And.intro (fun q => ?_) (fun q => ?_) <;> (try simp (disch := first | omega | assumption) only [no_0, no_1, no_lt, no_le, no_eq, no_lt0, no_ge0, no_gt0, no_le0, no_eq0, no_0eq, no_eqm, no_meq, no_m0, no_mlt, no_mge, no_mgt, no_mm, no_i01, no_i10, no_in, no_or, no_ifm, no_mul, nI_add, no_sub, pk_div, iI_if, nI_clamp, oI_n, oI_s, not_true_eq_false, not_false_eq_true, forall_const, true_implies, false_and, and_false, or_false, false_or, Classical.not_not, true_or, or_true, no_b, no_eq1, eq_self, and_self, xk_0 hp, xk_1 hp, xk_2 hp, xk_3 hp, xk_4 hp, xk_5 hp, xk_6 hp, xk_7 hp, xk_8 hp, xk_9 hp, xk_10 hp, xk_11 hp, xk_12 hp, xk_13 hp, xk_14 hp, xk_15 hp, xk_16 hp, xk_17 hp, xk_18 hp, xk_19 hp, xk_20 hp, xk_21 hp, xl_1 hp, xl_2 hp, xl_3 hp, xl_4 hp, xl_6 hp, xl_8 hp, xl_10 hp, xl_12 hp, xl_14 hp, xl_15 hp, xl_17 hp, xl_18 hp, xl_21 hp, xp_7 hp, xp_8 hp, xp_9 hp, xp_10 hp, xp_11 hp, xp_12 hp, xp_13 hp, xp_14 hp, xp_15 hp, xp_16 hp, xp_17 hp, xp_t5 hp, xp_t7 hp, xp_t9 hp, xp_t11 hp, xp_t20 hp, xp_s19 hp, xp_a13 hp, xp_b13 hp, xp_a16 hp, xp_b16 hp, xc_r5 hp, xc_c5 hp, xc_r7 hp, xc_c7 hp, xc_r9 hp, xc_c9 hp, xc_r11 hp, xc_c11 hp, xc_r20 hp, xc_c20 hp, no_on, hK, hpp, pe_1, pe_7, pe_w7, w1_d, hz] at q))
      | (with_reducible refine ev_ci h1 ?_)
      | (with_reducible refine ev_ci h2 ?_)
      | (with_reducible refine ev_ci h3 ?_)
      | omega
      | with_reducible assumption
      | with_reducible rfl
      | (refine Nat.lt_of_lt_of_le ?_ (Nat.le_refl 312); omega)
      | with_reducible refine lp_nx ?_ ?_ ?_ ?_
      | with_reducible refine lp_st ?_ ?_ ?_
      | with_reducible refine ls_c ?_ ?_
      | with_reducible refine vi_c ?_
      | with_reducible refine re_c ?_
      | with_reducible refine vz_c ?_
      | with_reducible refine rz_c ?_
      | exact trivial
      | with_reducible refine And.intro ?_ ?_
      | simp (disch := first | omega | assumption) only [ev_run_c, ev_run_n, ev_fj, ev_stp, ev_lk, ev_fv, ev_as, ev_sz, ev_st1, ev_st2, ev_rm, ev_pk, ev_Jof, ev_go, lv_args, List.map_cons, List.map_nil, List.zip_cons_cons, List.zip_nil_left, List.zip_nil_right, List.nil_append, List.cons_append, ↓reduceIte, reduceCtorEq, Int.reduceToNat, Nat.reduceEqDiff, Nat.reduceAdd, Nat.reduceLT, Nat.reduceLeDiff, Nat.reduceMul, Nat.reduceSub, Value.category, false_implies, true_and, and_true, Bool.false_eq_true, Option.some.injEq, exists_eq_left', Option.toList_some, Option.toList_none, ev_km, ev_k2, ev_k3, ev_k4, ev_k5, ev_l0, ev_l1, sh_1, sh_2, sh_3, sh_4, sh_5, at_X7_readLeave_32, ca_X7_199, ca_X7_243, ca_X7_268, ca_X7_271, cd_X7_readLeave_0, cd_X7_readLeave_32, fl_X7_12, fl_X7_43, no_0, no_1, no_lt, no_le, no_eq, no_lt0, no_ge0, no_gt0, no_le0, no_eq0, no_0eq, no_eqm, no_meq, no_m0, no_mlt, no_mge, no_mgt, no_mm, no_i01, no_i10, no_in, no_or, no_ifm, no_mul, nI_add, no_sub, pk_div, iI_if, nI_clamp, oI_n, oI_s, not_true_eq_false, not_false_eq_true, forall_const, true_implies, false_and, and_false, or_false, false_or, Classical.not_not, true_or, or_true, no_b, no_eq1, eq_self, and_self, xk_0 hp, xk_1 hp, xk_2 hp, xk_3 hp, xk_4 hp, xk_5 hp, xk_6 hp, xk_7 hp, xk_8 hp, xk_9 hp, xk_10 hp, xk_11 hp, xk_12 hp, xk_13 hp, xk_14 hp, xk_15 hp, xk_16 hp, xk_17 hp, xk_18 hp, xk_19 hp, xk_20 hp, xk_21 hp, xl_1 hp, xl_2 hp, xl_3 hp, xl_4 hp, xl_6 hp, xl_8 hp, xl_10 hp, xl_12 hp, xl_14 hp, xl_15 hp, xl_17 hp, xl_18 hp, xl_21 hp, xp_7 hp, xp_8 hp, xp_9 hp, xp_10 hp, xp_11 hp, xp_12 hp, xp_13 hp, xp_14 hp, xp_15 hp, xp_16 hp, xp_17 hp, xp_t5 hp, xp_t7 hp, xp_t9 hp, xp_t11 hp, xp_t20 hp, xp_s19 hp, xp_a13 hp, xp_b13 hp, xp_a16 hp, xp_b16 hp, xc_r5 hp, xc_c5 hp, xc_r7 hp, xc_c7 hp, xc_r9 hp, xc_c9 hp, xc_r11 hp, xc_c11 hp, xc_r20 hp, xc_c20 hp, no_on, hK, hpp, pe_1, pe_7, pe_w7, w1_d, hz]
      | exact rfl
      | (split <;> omega))
def q_score (B : Nat → Nat) (n : Nat) (N : Nat → Nat) (a : Nat) : Nat × Int32 := rN B n (er (rN B n (rP B n N (0, -1) a) (a + 1) 0 (N 1)) (¬ sP N (tvl B n (a + 1)) (pv B n N a) < N (952 + 9 * (tvl B n (a + 1)) + 5)) 4 (a + 1) B n) (a + 1 + 1) 1 10
set_option maxHeartbeats 1000000 in
theorem rd_score (hok : ev_ok sh_S G) (hT : TT B n m μ) (hp6 : p = 6) (hP : PR p N μ) (hI : INV N) {a : Nat} (ha : a ≤ m) : RD G mi_X7_readScore a μ (q_score B n N a) (up N (8 + 59 * (pv B n N a) + (23 + (tvl B n (a + 1)))) (tvl B n (a + 1 + 1))) (a + 1 + 1 + 1) := by
  have hK := And.intro pk_5.1 pk_5.2.2
  have hpp : sh_pt 5 0 = p := by rw [hp6]; exact pk_5.2.1
  have hp : p ∈ sh_B := by rw [hp6]; exact sh_6
  have hlt := xp_lt hp
  have hh := iv_h hI
  have hm5 := hT.1
  have hP6 : PR 6 N μ := by rw [← hp6]; exact hP
  unfold q_score
  have h1 := m_person (e := (0, -1)) (a := a) hok hT hP6 hh.1 (by decide) (fun _ => ha) (by omega)
  have c1 : (rP B n N (0, -1) a).1 < 5 := rP_c (by decide)
  have g1 := fun (h : (rP B n N (0, -1) a).1 = 0) => (rP_0 h).1
  have n1 : (rP B n N (0, -1) a).1 = 0 → a + 1 ≤ m := rP_nx hT (fun _ => ha)
  have v1 : (rP B n N (0, -1) a).1 = 0 → pv B n N a < N 0 := fun h => (rP_0 h).2.2.2.1
  have t1 : (rP B n N (0, -1) a).1 = 0 → a ≤ m := fun h => (fun _ => ha) (rP_0 h).1
  generalize rP B n N (0, -1) a = e1 at h1 c1 g1 n1 v1 t1 ⊢
  have h2 := m_pancake (e := e1) (a := a + 1) hok hT hP6 hh.2.1 c1 n1 (by omega)
  have c2 : (rN B n e1 (a + 1) 0 (N 1)).1 < 5 := rN_c c1
  have g2 := fun (h : (rN B n e1 (a + 1) 0 (N 1)).1 = 0) => (rN_0 h).1
  have n2 : (rN B n e1 (a + 1) 0 (N 1)).1 = 0 → a + 1 + 1 ≤ m := rN_nx hT n1
  have v2 : (rN B n e1 (a + 1) 0 (N 1)).1 = 0 → tvl B n (a + 1) < N 1 := fun h => (nmc_0 (rN_0 h).2.1).2.2
  have t2 : (rN B n e1 (a + 1) 0 (N 1)).1 = 0 → (a + 1) ≤ m := fun h => n1 (rN_0 h).1
  generalize rN B n e1 (a + 1) 0 (N 1) = e2 at h2 c2 g2 n2 v2 t2 ⊢
  have h3 := m_checkSeat (e := e2) (a := a + 1) (i := (pv B n N a)) (q := (tvl B n (a + 1))) (x := rv e1.1 (pv B n N a)) hok hT hp6 hP hI c2 t2 (by omega) (fun h => ⟨by rw [g2 h]; rfl, by have := v1 (g2 h); omega, by have := v2 h; omega⟩)
  have c3 : (er e2 (¬ sP N (tvl B n (a + 1)) (pv B n N a) < N (952 + 9 * (tvl B n (a + 1)) + 5)) 4 (a + 1) B n).1 < 5 := er_c c2 (by decide)
  have g3 := fun (h : (er e2 (¬ sP N (tvl B n (a + 1)) (pv B n N a) < N (952 + 9 * (tvl B n (a + 1)) + 5)) 4 (a + 1) B n).1 = 0) => (er_0 h (by decide)).1
  have n3 : (er e2 (¬ sP N (tvl B n (a + 1)) (pv B n N a) < N (952 + 9 * (tvl B n (a + 1)) + 5)) 4 (a + 1) B n).1 = 0 → a + 1 + 1 ≤ m := er_nx (by decide) n2
  have w3 : (er e2 (¬ sP N (tvl B n (a + 1)) (pv B n N a) < N (952 + 9 * (tvl B n (a + 1)) + 5)) 4 (a + 1) B n).1 = 0 → ¬ (¬ sP N (tvl B n (a + 1)) (pv B n N a) < N (952 + 9 * (tvl B n (a + 1)) + 5)) := fun h => (er_0 h (by decide)).2.1
  generalize er e2 (¬ sP N (tvl B n (a + 1)) (pv B n N a) < N (952 + 9 * (tvl B n (a + 1)) + 5)) 4 (a + 1) B n = e3 at h3 c3 g3 n3 w3 ⊢
  have h4 := m_number (e := e3) (a := a + 1 + 1) (l := 1) (g := 10) (y := nI 9) hok hT c3 n3 (by omega) (by omega) (by omega) (by decide)
  have c4 : (rN B n e3 (a + 1 + 1) 1 10).1 < 5 := rN_c c3
  have g4 := fun (h : (rN B n e3 (a + 1 + 1) 1 10).1 = 0) => (rN_0 h).1
  have n4 : (rN B n e3 (a + 1 + 1) 1 10).1 = 0 → a + 1 + 1 + 1 ≤ m := rN_nx hT n3
  have v4 : (rN B n e3 (a + 1 + 1) 1 10).1 = 0 → 1 ≤ tvl B n (a + 1 + 1) ∧ tvl B n (a + 1 + 1) < 10 := fun h => (nmc_0 (rN_0 h).2.1).2
  have t4 : (rN B n e3 (a + 1 + 1) 1 10).1 = 0 → (a + 1 + 1) ≤ m := fun h => n3 (rN_0 h).1
  generalize rN B n e3 (a + 1 + 1) 1 10 = e4 at h4 c4 g4 n4 v4 t4 ⊢
  by_cases hz : e4.1 = 0
  · have z4 := hz
    have z3 := g4 z4
    have z2 := g3 z3
    have z1 := g2 z2
    have u1 := v1 z1
    have u2 := v2 z2
    have u4 := v4 z4
    have r1 : rv e1.1 (pv B n N a) = nI (pv B n N a) := by rw [z1]; rfl
    have r2 : rv e2.1 (tvl B n (a + 1)) = nI (tvl B n (a + 1)) := by rw [z2]; rfl
    have r4 : rv e4.1 (tvl B n (a + 1 + 1)) = nI (tvl B n (a + 1 + 1)) := by rw [z4]; rfl
    try simp only [r1, r2, r4] at h1
    try simp only [r1, r2, r4] at h2
    try simp only [r1, r2, r4] at h3
    try simp only [r1, r2, r4] at h4
    have hPz : PR p N (pe e4 (a + 1 + 1 + 1) μ) := PR_p hp6 hP
    have hop := m_X6_put (μ := pe e4 (a + 1 + 1 + 1) μ) hok hp hPz hI (i := (pv B n N a)) (q := (tvl B n (a + 1))) (v := (tvl B n (a + 1 + 1))) u1 u2 (by omega)
    refine RD_o hp6 (μ'' := x_put p (pv B n N a) (tvl B n (a + 1)) (tvl B n (a + 1 + 1)) N (pe e4 (a + 1 + 1 + 1) μ)) ?_ hz (Fp_put Fp_rf) (PR_put hPz hI u1 u2 hh.1 hh.2.1)
    refine ev_tri hok okM_X7_readScore (Nat.le_of_ble_eq_true rfl) 400 ?_
    rw [at_X7_readScore_0]
    repeat' (first
      | (with_reducible refine ev_rid ?_; simp (disch := first | omega | assumption) only [ev_run_c, ev_run_n, ev_fj, ev_stp, ev_lk, ev_fv, ev_as, ev_sz, ev_st1, ev_st2, ev_rm, ev_pk, ev_Jof, ev_go, lv_args, List.map_cons, List.map_nil, List.zip_cons_cons, List.zip_nil_left, List.zip_nil_right, List.nil_append, List.cons_append, ↓reduceIte, reduceCtorEq, Int.reduceToNat, Nat.reduceEqDiff, Nat.reduceAdd, Nat.reduceLT, Nat.reduceLeDiff, Nat.reduceMul, Nat.reduceSub, Value.category, false_implies, true_and, and_true, Bool.false_eq_true, Option.some.injEq, exists_eq_left', Option.toList_some, Option.toList_none, ev_km, ev_k2, ev_k3, ev_k4, ev_k5, ev_l0, ev_l1, sh_1, sh_2, sh_3, sh_4, sh_5, at_X7_readScore_44, ca_X7_199, ca_X7_243, ca_X7_268, ca_X7_278, ca_X7_81, cd_X7_readScore_0, cd_X7_readScore_44, fl_X7_12, fl_X7_274, fl_X7_43, ev_b_9, no_0, no_1, no_lt, no_le, no_eq, no_lt0, no_ge0, no_gt0, no_le0, no_eq0, no_0eq, no_eqm, no_meq, no_m0, no_mlt, no_mge, no_mgt, no_mm, no_i01, no_i10, no_in, no_or, no_ifm, no_mul, nI_add, no_sub, pk_div, iI_if, nI_clamp, oI_n, oI_s, not_true_eq_false, not_false_eq_true, forall_const, true_implies, false_and, and_false, or_false, false_or, Classical.not_not, true_or, or_true, no_b, no_eq1, eq_self, and_self, xk_0 hp, xk_1 hp, xk_2 hp, xk_3 hp, xk_4 hp, xk_5 hp, xk_6 hp, xk_7 hp, xk_8 hp, xk_9 hp, xk_10 hp, xk_11 hp, xk_12 hp, xk_13 hp, xk_14 hp, xk_15 hp, xk_16 hp, xk_17 hp, xk_18 hp, xk_19 hp, xk_20 hp, xk_21 hp, xl_1 hp, xl_2 hp, xl_3 hp, xl_4 hp, xl_6 hp, xl_8 hp, xl_10 hp, xl_12 hp, xl_14 hp, xl_15 hp, xl_17 hp, xl_18 hp, xl_21 hp, xp_7 hp, xp_8 hp, xp_9 hp, xp_10 hp, xp_11 hp, xp_12 hp, xp_13 hp, xp_14 hp, xp_15 hp, xp_16 hp, xp_17 hp, xp_t5 hp, xp_t7 hp, xp_t9 hp, xp_t11 hp, xp_t20 hp, xp_s19 hp, xp_a13 hp, xp_b13 hp, xp_a16 hp, xp_b16 hp, xc_r5 hp, xc_c5 hp, xc_r7 hp, xc_c7 hp, xc_r9 hp, xc_c9 hp, xc_r11 hp, xc_c11 hp, xc_r20 hp, xc_c20 hp, no_on, hK, hpp, pe_1, pe_7, pe_w7, w1_d, hz])
      | (with_reducible refine ev_gid ?_; simp (disch := first | omega | assumption) only [ev_run_c, ev_run_n, ev_fj, ev_stp, ev_lk, ev_fv, ev_as, ev_sz, ev_st1, ev_st2, ev_rm, ev_pk, ev_Jof, ev_go, lv_args, List.map_cons, List.map_nil, List.zip_cons_cons, List.zip_nil_left, List.zip_nil_right, List.nil_append, List.cons_append, ↓reduceIte, reduceCtorEq, Int.reduceToNat, Nat.reduceEqDiff, Nat.reduceAdd, Nat.reduceLT, Nat.reduceLeDiff, Nat.reduceMul, Nat.reduceSub, Value.category, false_implies, true_and, and_true, Bool.false_eq_true, Option.some.injEq, exists_eq_left', Option.toList_some, Option.toList_none, ev_km, ev_k2, ev_k3, ev_k4, ev_k5, ev_l0, ev_l1, sh_1, sh_2, sh_3, sh_4, sh_5, at_X7_readScore_44, ca_X7_199, ca_X7_243, ca_X7_268, ca_X7_278, ca_X7_81, cd_X7_readScore_0, cd_X7_readScore_44, fl_X7_12, fl_X7_274, fl_X7_43, ev_b_9, no_0, no_1, no_lt, no_le, no_eq, no_lt0, no_ge0, no_gt0, no_le0, no_eq0, no_0eq, no_eqm, no_meq, no_m0, no_mlt, no_mge, no_mgt, no_mm, no_i01, no_i10, no_in, no_or, no_ifm, no_mul, nI_add, no_sub, pk_div, iI_if, nI_clamp, oI_n, oI_s, not_true_eq_false, not_false_eq_true, forall_const, true_implies, false_and, and_false, or_false, false_or, Classical.not_not, true_or, or_true, no_b, no_eq1, eq_self, and_self, xk_0 hp, xk_1 hp, xk_2 hp, xk_3 hp, xk_4 hp, xk_5 hp, xk_6 hp, xk_7 hp, xk_8 hp, xk_9 hp, xk_10 hp, xk_11 hp, xk_12 hp, xk_13 hp, xk_14 hp, xk_15 hp, xk_16 hp, xk_17 hp, xk_18 hp, xk_19 hp, xk_20 hp, xk_21 hp, xl_1 hp, xl_2 hp, xl_3 hp, xl_4 hp, xl_6 hp, xl_8 hp, xl_10 hp, xl_12 hp, xl_14 hp, xl_15 hp, xl_17 hp, xl_18 hp, xl_21 hp, xp_7 hp, xp_8 hp, xp_9 hp, xp_10 hp, xp_11 hp, xp_12 hp, xp_13 hp, xp_14 hp, xp_15 hp, xp_16 hp, xp_17 hp, xp_t5 hp, xp_t7 hp, xp_t9 hp, xp_t11 hp, xp_t20 hp, xp_s19 hp, xp_a13 hp, xp_b13 hp, xp_a16 hp, xp_b16 hp, xc_r5 hp, xc_c5 hp, xc_r7 hp, xc_c7 hp, xc_r9 hp, xc_c9 hp, xc_r11 hp, xc_c11 hp, xc_r20 hp, xc_c20 hp, no_on, hK, hpp, pe_1, pe_7, pe_w7, w1_d, hz])
      | (with_reducible refine And.intro (fun q => ?_) (fun q => ?_) <;> (try simp (disch := first | omega | assumption) only [no_0, no_1, no_lt, no_le, no_eq, no_lt0, no_ge0, no_gt0, no_le0, no_eq0, no_0eq, no_eqm, no_meq, no_m0, no_mlt, no_mge, no_mgt, no_mm, no_i01, no_i10, no_in, no_or, no_ifm, no_mul, nI_add, no_sub, pk_div, iI_if, nI_clamp, oI_n, oI_s, not_true_eq_false, not_false_eq_true, forall_const, true_implies, false_and, and_false, or_false, false_or, Classical.not_not, true_or, or_true, no_b, no_eq1, eq_self, and_self, xk_0 hp, xk_1 hp, xk_2 hp, xk_3 hp, xk_4 hp, xk_5 hp, xk_6 hp, xk_7 hp, xk_8 hp, xk_9 hp, xk_10 hp, xk_11 hp, xk_12 hp, xk_13 hp, xk_14 hp, xk_15 hp, xk_16 hp, xk_17 hp, xk_18 hp, xk_19 hp, xk_20 hp, xk_21 hp, xl_1 hp, xl_2 hp, xl_3 hp, xl_4 hp, xl_6 hp, xl_8 hp, xl_10 hp, xl_12 hp, xl_14 hp, xl_15 hp, xl_17 hp, xl_18 hp, xl_21 hp, xp_7 hp, xp_8 hp, xp_9 hp, xp_10 hp, xp_11 hp, xp_12 hp, xp_13 hp, xp_14 hp, xp_15 hp, xp_16 hp, xp_17 hp, xp_t5 hp, xp_t7 hp, xp_t9 hp, xp_t11 hp, xp_t20 hp, xp_s19 hp, xp_a13 hp, xp_b13 hp, xp_a16 hp, xp_b16 hp, xc_r5 hp, xc_c5 hp, xc_r7 hp, xc_c7 hp, xc_r9 hp, xc_c9 hp, xc_r11 hp, xc_c11 hp, xc_r20 hp, xc_c20 hp, no_on, hK, hpp, pe_1, pe_7, pe_w7, w1_d, hz] at q))
      | (with_reducible refine ev_ci h1 ?_)
      | (with_reducible refine ev_ci h2 ?_)
      | (with_reducible refine ev_ci h3 ?_)
      | (with_reducible refine ev_ci h4 ?_)
      | (with_reducible refine ev_ci hop ?_)
      | with_reducible refine ev_ci (m_X6_put hok hp (by with_reducible assumption) (by with_reducible assumption) ?_ ?_ ?_) ?_
      | omega
      | with_reducible assumption
      | with_reducible rfl
      | (refine Nat.lt_of_lt_of_le ?_ (Nat.le_refl 312); omega)
      | with_reducible refine lp_nx ?_ ?_ ?_ ?_
      | with_reducible refine lp_st ?_ ?_ ?_
      | with_reducible refine ls_c ?_ ?_
      | with_reducible refine vi_c ?_
      | with_reducible refine re_c ?_
      | with_reducible refine vz_c ?_
      | with_reducible refine rz_c ?_
      | exact trivial
      | with_reducible refine And.intro ?_ ?_
      | simp (disch := first | omega | assumption) only [ev_run_c, ev_run_n, ev_fj, ev_stp, ev_lk, ev_fv, ev_as, ev_sz, ev_st1, ev_st2, ev_rm, ev_pk, ev_Jof, ev_go, lv_args, List.map_cons, List.map_nil, List.zip_cons_cons, List.zip_nil_left, List.zip_nil_right, List.nil_append, List.cons_append, ↓reduceIte, reduceCtorEq, Int.reduceToNat, Nat.reduceEqDiff, Nat.reduceAdd, Nat.reduceLT, Nat.reduceLeDiff, Nat.reduceMul, Nat.reduceSub, Value.category, false_implies, true_and, and_true, Bool.false_eq_true, Option.some.injEq, exists_eq_left', Option.toList_some, Option.toList_none, ev_km, ev_k2, ev_k3, ev_k4, ev_k5, ev_l0, ev_l1, sh_1, sh_2, sh_3, sh_4, sh_5, at_X7_readScore_44, ca_X7_199, ca_X7_243, ca_X7_268, ca_X7_278, ca_X7_81, cd_X7_readScore_0, cd_X7_readScore_44, fl_X7_12, fl_X7_274, fl_X7_43, ev_b_9, no_0, no_1, no_lt, no_le, no_eq, no_lt0, no_ge0, no_gt0, no_le0, no_eq0, no_0eq, no_eqm, no_meq, no_m0, no_mlt, no_mge, no_mgt, no_mm, no_i01, no_i10, no_in, no_or, no_ifm, no_mul, nI_add, no_sub, pk_div, iI_if, nI_clamp, oI_n, oI_s, not_true_eq_false, not_false_eq_true, forall_const, true_implies, false_and, and_false, or_false, false_or, Classical.not_not, true_or, or_true, no_b, no_eq1, eq_self, and_self, xk_0 hp, xk_1 hp, xk_2 hp, xk_3 hp, xk_4 hp, xk_5 hp, xk_6 hp, xk_7 hp, xk_8 hp, xk_9 hp, xk_10 hp, xk_11 hp, xk_12 hp, xk_13 hp, xk_14 hp, xk_15 hp, xk_16 hp, xk_17 hp, xk_18 hp, xk_19 hp, xk_20 hp, xk_21 hp, xl_1 hp, xl_2 hp, xl_3 hp, xl_4 hp, xl_6 hp, xl_8 hp, xl_10 hp, xl_12 hp, xl_14 hp, xl_15 hp, xl_17 hp, xl_18 hp, xl_21 hp, xp_7 hp, xp_8 hp, xp_9 hp, xp_10 hp, xp_11 hp, xp_12 hp, xp_13 hp, xp_14 hp, xp_15 hp, xp_16 hp, xp_17 hp, xp_t5 hp, xp_t7 hp, xp_t9 hp, xp_t11 hp, xp_t20 hp, xp_s19 hp, xp_a13 hp, xp_b13 hp, xp_a16 hp, xp_b16 hp, xc_r5 hp, xc_c5 hp, xc_r7 hp, xc_c7 hp, xc_r9 hp, xc_c9 hp, xc_r11 hp, xc_c11 hp, xc_r20 hp, xc_c20 hp, no_on, hK, hpp, pe_1, pe_7, pe_w7, w1_d, hz]
      | exact rfl
      | (split <;> omega))
  · refine RD_e (a2 := a + 1 + 1 + 1) ?_ hz c4
    refine ev_tri hok okM_X7_readScore (Nat.le_of_ble_eq_true rfl) 400 ?_
    rw [at_X7_readScore_0]
    repeat' (first
      | (with_reducible refine ev_rid ?_; simp (disch := first | omega | assumption) only [ev_run_c, ev_run_n, ev_fj, ev_stp, ev_lk, ev_fv, ev_as, ev_sz, ev_st1, ev_st2, ev_rm, ev_pk, ev_Jof, ev_go, lv_args, List.map_cons, List.map_nil, List.zip_cons_cons, List.zip_nil_left, List.zip_nil_right, List.nil_append, List.cons_append, ↓reduceIte, reduceCtorEq, Int.reduceToNat, Nat.reduceEqDiff, Nat.reduceAdd, Nat.reduceLT, Nat.reduceLeDiff, Nat.reduceMul, Nat.reduceSub, Value.category, false_implies, true_and, and_true, Bool.false_eq_true, Option.some.injEq, exists_eq_left', Option.toList_some, Option.toList_none, ev_km, ev_k2, ev_k3, ev_k4, ev_k5, ev_l0, ev_l1, sh_1, sh_2, sh_3, sh_4, sh_5, at_X7_readScore_44, ca_X7_199, ca_X7_243, ca_X7_268, ca_X7_278, ca_X7_81, cd_X7_readScore_0, cd_X7_readScore_44, fl_X7_12, fl_X7_274, fl_X7_43, ev_b_9, no_0, no_1, no_lt, no_le, no_eq, no_lt0, no_ge0, no_gt0, no_le0, no_eq0, no_0eq, no_eqm, no_meq, no_m0, no_mlt, no_mge, no_mgt, no_mm, no_i01, no_i10, no_in, no_or, no_ifm, no_mul, nI_add, no_sub, pk_div, iI_if, nI_clamp, oI_n, oI_s, not_true_eq_false, not_false_eq_true, forall_const, true_implies, false_and, and_false, or_false, false_or, Classical.not_not, true_or, or_true, no_b, no_eq1, eq_self, and_self, xk_0 hp, xk_1 hp, xk_2 hp, xk_3 hp, xk_4 hp, xk_5 hp, xk_6 hp, xk_7 hp, xk_8 hp, xk_9 hp, xk_10 hp, xk_11 hp, xk_12 hp, xk_13 hp, xk_14 hp, xk_15 hp, xk_16 hp, xk_17 hp, xk_18 hp, xk_19 hp, xk_20 hp, xk_21 hp, xl_1 hp, xl_2 hp, xl_3 hp, xl_4 hp, xl_6 hp, xl_8 hp, xl_10 hp, xl_12 hp, xl_14 hp, xl_15 hp, xl_17 hp, xl_18 hp, xl_21 hp, xp_7 hp, xp_8 hp, xp_9 hp, xp_10 hp, xp_11 hp, xp_12 hp, xp_13 hp, xp_14 hp, xp_15 hp, xp_16 hp, xp_17 hp, xp_t5 hp, xp_t7 hp, xp_t9 hp, xp_t11 hp, xp_t20 hp, xp_s19 hp, xp_a13 hp, xp_b13 hp, xp_a16 hp, xp_b16 hp, xc_r5 hp, xc_c5 hp, xc_r7 hp, xc_c7 hp, xc_r9 hp, xc_c9 hp, xc_r11 hp, xc_c11 hp, xc_r20 hp, xc_c20 hp, no_on, hK, hpp, pe_1, pe_7, pe_w7, w1_d, hz])
      | (with_reducible refine ev_gid ?_; simp (disch := first | omega | assumption) only [ev_run_c, ev_run_n, ev_fj, ev_stp, ev_lk, ev_fv, ev_as, ev_sz, ev_st1, ev_st2, ev_rm, ev_pk, ev_Jof, ev_go, lv_args, List.map_cons, List.map_nil, List.zip_cons_cons, List.zip_nil_left, List.zip_nil_right, List.nil_append, List.cons_append, ↓reduceIte, reduceCtorEq, Int.reduceToNat, Nat.reduceEqDiff, Nat.reduceAdd, Nat.reduceLT, Nat.reduceLeDiff, Nat.reduceMul, Nat.reduceSub, Value.category, false_implies, true_and, and_true, Bool.false_eq_true, Option.some.injEq, exists_eq_left', Option.toList_some, Option.toList_none, ev_km, ev_k2, ev_k3, ev_k4, ev_k5, ev_l0, ev_l1, sh_1, sh_2, sh_3, sh_4, sh_5, at_X7_readScore_44, ca_X7_199, ca_X7_243, ca_X7_268, ca_X7_278, ca_X7_81, cd_X7_readScore_0, cd_X7_readScore_44, fl_X7_12, fl_X7_274, fl_X7_43, ev_b_9, no_0, no_1, no_lt, no_le, no_eq, no_lt0, no_ge0, no_gt0, no_le0, no_eq0, no_0eq, no_eqm, no_meq, no_m0, no_mlt, no_mge, no_mgt, no_mm, no_i01, no_i10, no_in, no_or, no_ifm, no_mul, nI_add, no_sub, pk_div, iI_if, nI_clamp, oI_n, oI_s, not_true_eq_false, not_false_eq_true, forall_const, true_implies, false_and, and_false, or_false, false_or, Classical.not_not, true_or, or_true, no_b, no_eq1, eq_self, and_self, xk_0 hp, xk_1 hp, xk_2 hp, xk_3 hp, xk_4 hp, xk_5 hp, xk_6 hp, xk_7 hp, xk_8 hp, xk_9 hp, xk_10 hp, xk_11 hp, xk_12 hp, xk_13 hp, xk_14 hp, xk_15 hp, xk_16 hp, xk_17 hp, xk_18 hp, xk_19 hp, xk_20 hp, xk_21 hp, xl_1 hp, xl_2 hp, xl_3 hp, xl_4 hp, xl_6 hp, xl_8 hp, xl_10 hp, xl_12 hp, xl_14 hp, xl_15 hp, xl_17 hp, xl_18 hp, xl_21 hp, xp_7 hp, xp_8 hp, xp_9 hp, xp_10 hp, xp_11 hp, xp_12 hp, xp_13 hp, xp_14 hp, xp_15 hp, xp_16 hp, xp_17 hp, xp_t5 hp, xp_t7 hp, xp_t9 hp, xp_t11 hp, xp_t20 hp, xp_s19 hp, xp_a13 hp, xp_b13 hp, xp_a16 hp, xp_b16 hp, xc_r5 hp, xc_c5 hp, xc_r7 hp, xc_c7 hp, xc_r9 hp, xc_c9 hp, xc_r11 hp, xc_c11 hp, xc_r20 hp, xc_c20 hp, no_on, hK, hpp, pe_1, pe_7, pe_w7, w1_d, hz])
      | (with_reducible refine And.intro (fun q => ?_) (fun q => ?_) <;> (try simp (disch := first | omega | assumption) only [no_0, no_1, no_lt, no_le, no_eq, no_lt0, no_ge0, no_gt0, no_le0, no_eq0, no_0eq, no_eqm, no_meq, no_m0, no_mlt, no_mge, no_mgt, no_mm, no_i01, no_i10, no_in, no_or, no_ifm, no_mul, nI_add, no_sub, pk_div, iI_if, nI_clamp, oI_n, oI_s, not_true_eq_false, not_false_eq_true, forall_const, true_implies, false_and, and_false, or_false, false_or, Classical.not_not, true_or, or_true, no_b, no_eq1, eq_self, and_self, xk_0 hp, xk_1 hp, xk_2 hp, xk_3 hp, xk_4 hp, xk_5 hp, xk_6 hp, xk_7 hp, xk_8 hp, xk_9 hp, xk_10 hp, xk_11 hp, xk_12 hp, xk_13 hp, xk_14 hp, xk_15 hp, xk_16 hp, xk_17 hp, xk_18 hp, xk_19 hp, xk_20 hp, xk_21 hp, xl_1 hp, xl_2 hp, xl_3 hp, xl_4 hp, xl_6 hp, xl_8 hp, xl_10 hp, xl_12 hp, xl_14 hp, xl_15 hp, xl_17 hp, xl_18 hp, xl_21 hp, xp_7 hp, xp_8 hp, xp_9 hp, xp_10 hp, xp_11 hp, xp_12 hp, xp_13 hp, xp_14 hp, xp_15 hp, xp_16 hp, xp_17 hp, xp_t5 hp, xp_t7 hp, xp_t9 hp, xp_t11 hp, xp_t20 hp, xp_s19 hp, xp_a13 hp, xp_b13 hp, xp_a16 hp, xp_b16 hp, xc_r5 hp, xc_c5 hp, xc_r7 hp, xc_c7 hp, xc_r9 hp, xc_c9 hp, xc_r11 hp, xc_c11 hp, xc_r20 hp, xc_c20 hp, no_on, hK, hpp, pe_1, pe_7, pe_w7, w1_d, hz] at q))
      | (with_reducible refine ev_ci h1 ?_)
      | (with_reducible refine ev_ci h2 ?_)
      | (with_reducible refine ev_ci h3 ?_)
      | (with_reducible refine ev_ci h4 ?_)
      | with_reducible refine ev_ci (m_X6_put hok hp (by with_reducible assumption) (by with_reducible assumption) ?_ ?_ ?_) ?_
      | omega
      | with_reducible assumption
      | with_reducible rfl
      | (refine Nat.lt_of_lt_of_le ?_ (Nat.le_refl 312); omega)
      | with_reducible refine lp_nx ?_ ?_ ?_ ?_
      | with_reducible refine lp_st ?_ ?_ ?_
      | with_reducible refine ls_c ?_ ?_
      | with_reducible refine vi_c ?_
      | with_reducible refine re_c ?_
      | with_reducible refine vz_c ?_
      | with_reducible refine rz_c ?_
      | exact trivial
      | with_reducible refine And.intro ?_ ?_
      | simp (disch := first | omega | assumption) only [ev_run_c, ev_run_n, ev_fj, ev_stp, ev_lk, ev_fv, ev_as, ev_sz, ev_st1, ev_st2, ev_rm, ev_pk, ev_Jof, ev_go, lv_args, List.map_cons, List.map_nil, List.zip_cons_cons, List.zip_nil_left, List.zip_nil_right, List.nil_append, List.cons_append, ↓reduceIte, reduceCtorEq, Int.reduceToNat, Nat.reduceEqDiff, Nat.reduceAdd, Nat.reduceLT, Nat.reduceLeDiff, Nat.reduceMul, Nat.reduceSub, Value.category, false_implies, true_and, and_true, Bool.false_eq_true, Option.some.injEq, exists_eq_left', Option.toList_some, Option.toList_none, ev_km, ev_k2, ev_k3, ev_k4, ev_k5, ev_l0, ev_l1, sh_1, sh_2, sh_3, sh_4, sh_5, at_X7_readScore_44, ca_X7_199, ca_X7_243, ca_X7_268, ca_X7_278, ca_X7_81, cd_X7_readScore_0, cd_X7_readScore_44, fl_X7_12, fl_X7_274, fl_X7_43, ev_b_9, no_0, no_1, no_lt, no_le, no_eq, no_lt0, no_ge0, no_gt0, no_le0, no_eq0, no_0eq, no_eqm, no_meq, no_m0, no_mlt, no_mge, no_mgt, no_mm, no_i01, no_i10, no_in, no_or, no_ifm, no_mul, nI_add, no_sub, pk_div, iI_if, nI_clamp, oI_n, oI_s, not_true_eq_false, not_false_eq_true, forall_const, true_implies, false_and, and_false, or_false, false_or, Classical.not_not, true_or, or_true, no_b, no_eq1, eq_self, and_self, xk_0 hp, xk_1 hp, xk_2 hp, xk_3 hp, xk_4 hp, xk_5 hp, xk_6 hp, xk_7 hp, xk_8 hp, xk_9 hp, xk_10 hp, xk_11 hp, xk_12 hp, xk_13 hp, xk_14 hp, xk_15 hp, xk_16 hp, xk_17 hp, xk_18 hp, xk_19 hp, xk_20 hp, xk_21 hp, xl_1 hp, xl_2 hp, xl_3 hp, xl_4 hp, xl_6 hp, xl_8 hp, xl_10 hp, xl_12 hp, xl_14 hp, xl_15 hp, xl_17 hp, xl_18 hp, xl_21 hp, xp_7 hp, xp_8 hp, xp_9 hp, xp_10 hp, xp_11 hp, xp_12 hp, xp_13 hp, xp_14 hp, xp_15 hp, xp_16 hp, xp_17 hp, xp_t5 hp, xp_t7 hp, xp_t9 hp, xp_t11 hp, xp_t20 hp, xp_s19 hp, xp_a13 hp, xp_b13 hp, xp_a16 hp, xp_b16 hp, xc_r5 hp, xc_c5 hp, xc_r7 hp, xc_c7 hp, xc_r9 hp, xc_c9 hp, xc_r11 hp, xc_c11 hp, xc_r20 hp, xc_c20 hp, no_on, hK, hpp, pe_1, pe_7, pe_w7, w1_d, hz]
      | exact rfl
      | (split <;> omega))
def q_talk (B : Nat → Nat) (n : Nat) (N : Nat → Nat) (a : Nat) : Nat × Int32 := er (rN B n (0, -1) a 0 (N 1)) (scs N (tvl B n a) (N 0) < 2) 4 a B n
set_option maxHeartbeats 1000000 in
theorem rd_talk (hok : ev_ok sh_S G) (hT : TT B n m μ) (hp6 : p = 6) (hP : PR p N μ) (hI : INV N) {a : Nat} (ha : a ≤ m) : RD G mi_X7_readTalk a μ (q_talk B n N a) (tlN N (tvl B n a)) (a + 1) := by
  have hK := And.intro pk_5.1 pk_5.2.2
  have hpp : sh_pt 5 0 = p := by rw [hp6]; exact pk_5.2.1
  have hp : p ∈ sh_B := by rw [hp6]; exact sh_6
  have hlt := xp_lt hp
  have hh := iv_h hI
  have hm5 := hT.1
  have hP6 : PR 6 N μ := by rw [← hp6]; exact hP
  unfold q_talk
  have h1 := m_pancake (e := (0, -1)) (a := a) hok hT hP6 hh.2.1 (by decide) (fun _ => ha) (by omega)
  have c1 : (rN B n (0, -1) a 0 (N 1)).1 < 5 := rN_c (by decide)
  have g1 := fun (h : (rN B n (0, -1) a 0 (N 1)).1 = 0) => (rN_0 h).1
  have n1 : (rN B n (0, -1) a 0 (N 1)).1 = 0 → a + 1 ≤ m := rN_nx hT (fun _ => ha)
  have v1 : (rN B n (0, -1) a 0 (N 1)).1 = 0 → tvl B n a < N 1 := fun h => (nmc_0 (rN_0 h).2.1).2.2
  have t1 : (rN B n (0, -1) a 0 (N 1)).1 = 0 → a ≤ m := fun h => (fun _ => ha) (rN_0 h).1
  generalize rN B n (0, -1) a 0 (N 1) = e1 at h1 c1 g1 n1 v1 t1 ⊢
  have h2 := m_checkScores (e := e1) (a := a) (q := (tvl B n a)) hok hT hp6 hP hI c1 t1 (by omega) (fun h => by have := v1 h; omega)
  have c2 : (er e1 (scs N (tvl B n a) (N 0) < 2) 4 a B n).1 < 5 := er_c c1 (by decide)
  have g2 := fun (h : (er e1 (scs N (tvl B n a) (N 0) < 2) 4 a B n).1 = 0) => (er_0 h (by decide)).1
  have n2 : (er e1 (scs N (tvl B n a) (N 0) < 2) 4 a B n).1 = 0 → a + 1 ≤ m := er_nx (by decide) n1
  have w2 : (er e1 (scs N (tvl B n a) (N 0) < 2) 4 a B n).1 = 0 → ¬ (scs N (tvl B n a) (N 0) < 2) := fun h => (er_0 h (by decide)).2.1
  generalize er e1 (scs N (tvl B n a) (N 0) < 2) 4 a B n = e2 at h2 c2 g2 n2 w2 ⊢
  by_cases hz : e2.1 = 0
  · have z2 := hz
    have z1 := g2 z2
    have u1 := v1 z1
    have r1 : rv e1.1 (tvl B n a) = nI (tvl B n a) := by rw [z1]; rfl
    try simp only [r1] at h1
    try simp only [r1] at h2
    have hPz : PR p N (pe e2 (a + 1) μ) := PR_p hp6 hP
    have hop := m_X6_holdTalk (μ := pe e2 (a + 1) μ) hok hp hPz hI (q := (tvl B n a)) (by omega) (by have := w2 z2; omega)
    refine RD_o hp6 (μ'' := xhT p (tvl B n a) N (pe e2 (a + 1) μ)) ?_ hz (Fp_hT Fp_rf) (PR_hT hPz hI (by omega))
    refine ev_tri hok okM_X7_readTalk (Nat.le_of_ble_eq_true rfl) 400 ?_
    rw [at_X7_readTalk_0]
    repeat' (first
      | (with_reducible refine ev_rid ?_; simp (disch := first | omega | assumption) only [ev_run_c, ev_run_n, ev_fj, ev_stp, ev_lk, ev_fv, ev_as, ev_sz, ev_st1, ev_st2, ev_rm, ev_pk, ev_Jof, ev_go, lv_args, List.map_cons, List.map_nil, List.zip_cons_cons, List.zip_nil_left, List.zip_nil_right, List.nil_append, List.cons_append, ↓reduceIte, reduceCtorEq, Int.reduceToNat, Nat.reduceEqDiff, Nat.reduceAdd, Nat.reduceLT, Nat.reduceLeDiff, Nat.reduceMul, Nat.reduceSub, Value.category, false_implies, true_and, and_true, Bool.false_eq_true, Option.some.injEq, exists_eq_left', Option.toList_some, Option.toList_none, ev_km, ev_k2, ev_k3, ev_k4, ev_k5, ev_l0, ev_l1, sh_1, sh_2, sh_3, sh_4, sh_5, at_X7_readTalk_29, ca_X7_243, ca_X7_283, ca_X7_286, cd_X7_readTalk_0, cd_X7_readTalk_29, fl_X7_12, fl_X7_274, fl_X7_43, no_0, no_1, no_lt, no_le, no_eq, no_lt0, no_ge0, no_gt0, no_le0, no_eq0, no_0eq, no_eqm, no_meq, no_m0, no_mlt, no_mge, no_mgt, no_mm, no_i01, no_i10, no_in, no_or, no_ifm, no_mul, nI_add, no_sub, pk_div, iI_if, nI_clamp, oI_n, oI_s, not_true_eq_false, not_false_eq_true, forall_const, true_implies, false_and, and_false, or_false, false_or, Classical.not_not, true_or, or_true, no_b, no_eq1, eq_self, and_self, xk_0 hp, xk_1 hp, xk_2 hp, xk_3 hp, xk_4 hp, xk_5 hp, xk_6 hp, xk_7 hp, xk_8 hp, xk_9 hp, xk_10 hp, xk_11 hp, xk_12 hp, xk_13 hp, xk_14 hp, xk_15 hp, xk_16 hp, xk_17 hp, xk_18 hp, xk_19 hp, xk_20 hp, xk_21 hp, xl_1 hp, xl_2 hp, xl_3 hp, xl_4 hp, xl_6 hp, xl_8 hp, xl_10 hp, xl_12 hp, xl_14 hp, xl_15 hp, xl_17 hp, xl_18 hp, xl_21 hp, xp_7 hp, xp_8 hp, xp_9 hp, xp_10 hp, xp_11 hp, xp_12 hp, xp_13 hp, xp_14 hp, xp_15 hp, xp_16 hp, xp_17 hp, xp_t5 hp, xp_t7 hp, xp_t9 hp, xp_t11 hp, xp_t20 hp, xp_s19 hp, xp_a13 hp, xp_b13 hp, xp_a16 hp, xp_b16 hp, xc_r5 hp, xc_c5 hp, xc_r7 hp, xc_c7 hp, xc_r9 hp, xc_c9 hp, xc_r11 hp, xc_c11 hp, xc_r20 hp, xc_c20 hp, no_on, hK, hpp, pe_1, pe_7, pe_w7, w1_d, hz])
      | (with_reducible refine ev_gid ?_; simp (disch := first | omega | assumption) only [ev_run_c, ev_run_n, ev_fj, ev_stp, ev_lk, ev_fv, ev_as, ev_sz, ev_st1, ev_st2, ev_rm, ev_pk, ev_Jof, ev_go, lv_args, List.map_cons, List.map_nil, List.zip_cons_cons, List.zip_nil_left, List.zip_nil_right, List.nil_append, List.cons_append, ↓reduceIte, reduceCtorEq, Int.reduceToNat, Nat.reduceEqDiff, Nat.reduceAdd, Nat.reduceLT, Nat.reduceLeDiff, Nat.reduceMul, Nat.reduceSub, Value.category, false_implies, true_and, and_true, Bool.false_eq_true, Option.some.injEq, exists_eq_left', Option.toList_some, Option.toList_none, ev_km, ev_k2, ev_k3, ev_k4, ev_k5, ev_l0, ev_l1, sh_1, sh_2, sh_3, sh_4, sh_5, at_X7_readTalk_29, ca_X7_243, ca_X7_283, ca_X7_286, cd_X7_readTalk_0, cd_X7_readTalk_29, fl_X7_12, fl_X7_274, fl_X7_43, no_0, no_1, no_lt, no_le, no_eq, no_lt0, no_ge0, no_gt0, no_le0, no_eq0, no_0eq, no_eqm, no_meq, no_m0, no_mlt, no_mge, no_mgt, no_mm, no_i01, no_i10, no_in, no_or, no_ifm, no_mul, nI_add, no_sub, pk_div, iI_if, nI_clamp, oI_n, oI_s, not_true_eq_false, not_false_eq_true, forall_const, true_implies, false_and, and_false, or_false, false_or, Classical.not_not, true_or, or_true, no_b, no_eq1, eq_self, and_self, xk_0 hp, xk_1 hp, xk_2 hp, xk_3 hp, xk_4 hp, xk_5 hp, xk_6 hp, xk_7 hp, xk_8 hp, xk_9 hp, xk_10 hp, xk_11 hp, xk_12 hp, xk_13 hp, xk_14 hp, xk_15 hp, xk_16 hp, xk_17 hp, xk_18 hp, xk_19 hp, xk_20 hp, xk_21 hp, xl_1 hp, xl_2 hp, xl_3 hp, xl_4 hp, xl_6 hp, xl_8 hp, xl_10 hp, xl_12 hp, xl_14 hp, xl_15 hp, xl_17 hp, xl_18 hp, xl_21 hp, xp_7 hp, xp_8 hp, xp_9 hp, xp_10 hp, xp_11 hp, xp_12 hp, xp_13 hp, xp_14 hp, xp_15 hp, xp_16 hp, xp_17 hp, xp_t5 hp, xp_t7 hp, xp_t9 hp, xp_t11 hp, xp_t20 hp, xp_s19 hp, xp_a13 hp, xp_b13 hp, xp_a16 hp, xp_b16 hp, xc_r5 hp, xc_c5 hp, xc_r7 hp, xc_c7 hp, xc_r9 hp, xc_c9 hp, xc_r11 hp, xc_c11 hp, xc_r20 hp, xc_c20 hp, no_on, hK, hpp, pe_1, pe_7, pe_w7, w1_d, hz])
      | (with_reducible refine And.intro (fun q => ?_) (fun q => ?_) <;> (try simp (disch := first | omega | assumption) only [no_0, no_1, no_lt, no_le, no_eq, no_lt0, no_ge0, no_gt0, no_le0, no_eq0, no_0eq, no_eqm, no_meq, no_m0, no_mlt, no_mge, no_mgt, no_mm, no_i01, no_i10, no_in, no_or, no_ifm, no_mul, nI_add, no_sub, pk_div, iI_if, nI_clamp, oI_n, oI_s, not_true_eq_false, not_false_eq_true, forall_const, true_implies, false_and, and_false, or_false, false_or, Classical.not_not, true_or, or_true, no_b, no_eq1, eq_self, and_self, xk_0 hp, xk_1 hp, xk_2 hp, xk_3 hp, xk_4 hp, xk_5 hp, xk_6 hp, xk_7 hp, xk_8 hp, xk_9 hp, xk_10 hp, xk_11 hp, xk_12 hp, xk_13 hp, xk_14 hp, xk_15 hp, xk_16 hp, xk_17 hp, xk_18 hp, xk_19 hp, xk_20 hp, xk_21 hp, xl_1 hp, xl_2 hp, xl_3 hp, xl_4 hp, xl_6 hp, xl_8 hp, xl_10 hp, xl_12 hp, xl_14 hp, xl_15 hp, xl_17 hp, xl_18 hp, xl_21 hp, xp_7 hp, xp_8 hp, xp_9 hp, xp_10 hp, xp_11 hp, xp_12 hp, xp_13 hp, xp_14 hp, xp_15 hp, xp_16 hp, xp_17 hp, xp_t5 hp, xp_t7 hp, xp_t9 hp, xp_t11 hp, xp_t20 hp, xp_s19 hp, xp_a13 hp, xp_b13 hp, xp_a16 hp, xp_b16 hp, xc_r5 hp, xc_c5 hp, xc_r7 hp, xc_c7 hp, xc_r9 hp, xc_c9 hp, xc_r11 hp, xc_c11 hp, xc_r20 hp, xc_c20 hp, no_on, hK, hpp, pe_1, pe_7, pe_w7, w1_d, hz] at q))
      | (with_reducible refine ev_ci h1 ?_)
      | (with_reducible refine ev_ci h2 ?_)
      | (with_reducible refine ev_ci hop ?_)
      | omega
      | with_reducible assumption
      | with_reducible rfl
      | (refine Nat.lt_of_lt_of_le ?_ (Nat.le_refl 312); omega)
      | with_reducible refine lp_nx ?_ ?_ ?_ ?_
      | with_reducible refine lp_st ?_ ?_ ?_
      | with_reducible refine ls_c ?_ ?_
      | with_reducible refine vi_c ?_
      | with_reducible refine re_c ?_
      | with_reducible refine vz_c ?_
      | with_reducible refine rz_c ?_
      | exact trivial
      | with_reducible refine And.intro ?_ ?_
      | simp (disch := first | omega | assumption) only [ev_run_c, ev_run_n, ev_fj, ev_stp, ev_lk, ev_fv, ev_as, ev_sz, ev_st1, ev_st2, ev_rm, ev_pk, ev_Jof, ev_go, lv_args, List.map_cons, List.map_nil, List.zip_cons_cons, List.zip_nil_left, List.zip_nil_right, List.nil_append, List.cons_append, ↓reduceIte, reduceCtorEq, Int.reduceToNat, Nat.reduceEqDiff, Nat.reduceAdd, Nat.reduceLT, Nat.reduceLeDiff, Nat.reduceMul, Nat.reduceSub, Value.category, false_implies, true_and, and_true, Bool.false_eq_true, Option.some.injEq, exists_eq_left', Option.toList_some, Option.toList_none, ev_km, ev_k2, ev_k3, ev_k4, ev_k5, ev_l0, ev_l1, sh_1, sh_2, sh_3, sh_4, sh_5, at_X7_readTalk_29, ca_X7_243, ca_X7_283, ca_X7_286, cd_X7_readTalk_0, cd_X7_readTalk_29, fl_X7_12, fl_X7_274, fl_X7_43, no_0, no_1, no_lt, no_le, no_eq, no_lt0, no_ge0, no_gt0, no_le0, no_eq0, no_0eq, no_eqm, no_meq, no_m0, no_mlt, no_mge, no_mgt, no_mm, no_i01, no_i10, no_in, no_or, no_ifm, no_mul, nI_add, no_sub, pk_div, iI_if, nI_clamp, oI_n, oI_s, not_true_eq_false, not_false_eq_true, forall_const, true_implies, false_and, and_false, or_false, false_or, Classical.not_not, true_or, or_true, no_b, no_eq1, eq_self, and_self, xk_0 hp, xk_1 hp, xk_2 hp, xk_3 hp, xk_4 hp, xk_5 hp, xk_6 hp, xk_7 hp, xk_8 hp, xk_9 hp, xk_10 hp, xk_11 hp, xk_12 hp, xk_13 hp, xk_14 hp, xk_15 hp, xk_16 hp, xk_17 hp, xk_18 hp, xk_19 hp, xk_20 hp, xk_21 hp, xl_1 hp, xl_2 hp, xl_3 hp, xl_4 hp, xl_6 hp, xl_8 hp, xl_10 hp, xl_12 hp, xl_14 hp, xl_15 hp, xl_17 hp, xl_18 hp, xl_21 hp, xp_7 hp, xp_8 hp, xp_9 hp, xp_10 hp, xp_11 hp, xp_12 hp, xp_13 hp, xp_14 hp, xp_15 hp, xp_16 hp, xp_17 hp, xp_t5 hp, xp_t7 hp, xp_t9 hp, xp_t11 hp, xp_t20 hp, xp_s19 hp, xp_a13 hp, xp_b13 hp, xp_a16 hp, xp_b16 hp, xc_r5 hp, xc_c5 hp, xc_r7 hp, xc_c7 hp, xc_r9 hp, xc_c9 hp, xc_r11 hp, xc_c11 hp, xc_r20 hp, xc_c20 hp, no_on, hK, hpp, pe_1, pe_7, pe_w7, w1_d, hz]
      | exact rfl
      | (split <;> omega))
  · refine RD_e (a2 := a + 1) ?_ hz c2
    refine ev_tri hok okM_X7_readTalk (Nat.le_of_ble_eq_true rfl) 400 ?_
    rw [at_X7_readTalk_0]
    repeat' (first
      | (with_reducible refine ev_rid ?_; simp (disch := first | omega | assumption) only [ev_run_c, ev_run_n, ev_fj, ev_stp, ev_lk, ev_fv, ev_as, ev_sz, ev_st1, ev_st2, ev_rm, ev_pk, ev_Jof, ev_go, lv_args, List.map_cons, List.map_nil, List.zip_cons_cons, List.zip_nil_left, List.zip_nil_right, List.nil_append, List.cons_append, ↓reduceIte, reduceCtorEq, Int.reduceToNat, Nat.reduceEqDiff, Nat.reduceAdd, Nat.reduceLT, Nat.reduceLeDiff, Nat.reduceMul, Nat.reduceSub, Value.category, false_implies, true_and, and_true, Bool.false_eq_true, Option.some.injEq, exists_eq_left', Option.toList_some, Option.toList_none, ev_km, ev_k2, ev_k3, ev_k4, ev_k5, ev_l0, ev_l1, sh_1, sh_2, sh_3, sh_4, sh_5, at_X7_readTalk_29, ca_X7_243, ca_X7_283, ca_X7_286, cd_X7_readTalk_0, cd_X7_readTalk_29, fl_X7_12, fl_X7_274, fl_X7_43, no_0, no_1, no_lt, no_le, no_eq, no_lt0, no_ge0, no_gt0, no_le0, no_eq0, no_0eq, no_eqm, no_meq, no_m0, no_mlt, no_mge, no_mgt, no_mm, no_i01, no_i10, no_in, no_or, no_ifm, no_mul, nI_add, no_sub, pk_div, iI_if, nI_clamp, oI_n, oI_s, not_true_eq_false, not_false_eq_true, forall_const, true_implies, false_and, and_false, or_false, false_or, Classical.not_not, true_or, or_true, no_b, no_eq1, eq_self, and_self, xk_0 hp, xk_1 hp, xk_2 hp, xk_3 hp, xk_4 hp, xk_5 hp, xk_6 hp, xk_7 hp, xk_8 hp, xk_9 hp, xk_10 hp, xk_11 hp, xk_12 hp, xk_13 hp, xk_14 hp, xk_15 hp, xk_16 hp, xk_17 hp, xk_18 hp, xk_19 hp, xk_20 hp, xk_21 hp, xl_1 hp, xl_2 hp, xl_3 hp, xl_4 hp, xl_6 hp, xl_8 hp, xl_10 hp, xl_12 hp, xl_14 hp, xl_15 hp, xl_17 hp, xl_18 hp, xl_21 hp, xp_7 hp, xp_8 hp, xp_9 hp, xp_10 hp, xp_11 hp, xp_12 hp, xp_13 hp, xp_14 hp, xp_15 hp, xp_16 hp, xp_17 hp, xp_t5 hp, xp_t7 hp, xp_t9 hp, xp_t11 hp, xp_t20 hp, xp_s19 hp, xp_a13 hp, xp_b13 hp, xp_a16 hp, xp_b16 hp, xc_r5 hp, xc_c5 hp, xc_r7 hp, xc_c7 hp, xc_r9 hp, xc_c9 hp, xc_r11 hp, xc_c11 hp, xc_r20 hp, xc_c20 hp, no_on, hK, hpp, pe_1, pe_7, pe_w7, w1_d, hz])
      | (with_reducible refine ev_gid ?_; simp (disch := first | omega | assumption) only [ev_run_c, ev_run_n, ev_fj, ev_stp, ev_lk, ev_fv, ev_as, ev_sz, ev_st1, ev_st2, ev_rm, ev_pk, ev_Jof, ev_go, lv_args, List.map_cons, List.map_nil, List.zip_cons_cons, List.zip_nil_left, List.zip_nil_right, List.nil_append, List.cons_append, ↓reduceIte, reduceCtorEq, Int.reduceToNat, Nat.reduceEqDiff, Nat.reduceAdd, Nat.reduceLT, Nat.reduceLeDiff, Nat.reduceMul, Nat.reduceSub, Value.category, false_implies, true_and, and_true, Bool.false_eq_true, Option.some.injEq, exists_eq_left', Option.toList_some, Option.toList_none, ev_km, ev_k2, ev_k3, ev_k4, ev_k5, ev_l0, ev_l1, sh_1, sh_2, sh_3, sh_4, sh_5, at_X7_readTalk_29, ca_X7_243, ca_X7_283, ca_X7_286, cd_X7_readTalk_0, cd_X7_readTalk_29, fl_X7_12, fl_X7_274, fl_X7_43, no_0, no_1, no_lt, no_le, no_eq, no_lt0, no_ge0, no_gt0, no_le0, no_eq0, no_0eq, no_eqm, no_meq, no_m0, no_mlt, no_mge, no_mgt, no_mm, no_i01, no_i10, no_in, no_or, no_ifm, no_mul, nI_add, no_sub, pk_div, iI_if, nI_clamp, oI_n, oI_s, not_true_eq_false, not_false_eq_true, forall_const, true_implies, false_and, and_false, or_false, false_or, Classical.not_not, true_or, or_true, no_b, no_eq1, eq_self, and_self, xk_0 hp, xk_1 hp, xk_2 hp, xk_3 hp, xk_4 hp, xk_5 hp, xk_6 hp, xk_7 hp, xk_8 hp, xk_9 hp, xk_10 hp, xk_11 hp, xk_12 hp, xk_13 hp, xk_14 hp, xk_15 hp, xk_16 hp, xk_17 hp, xk_18 hp, xk_19 hp, xk_20 hp, xk_21 hp, xl_1 hp, xl_2 hp, xl_3 hp, xl_4 hp, xl_6 hp, xl_8 hp, xl_10 hp, xl_12 hp, xl_14 hp, xl_15 hp, xl_17 hp, xl_18 hp, xl_21 hp, xp_7 hp, xp_8 hp, xp_9 hp, xp_10 hp, xp_11 hp, xp_12 hp, xp_13 hp, xp_14 hp, xp_15 hp, xp_16 hp, xp_17 hp, xp_t5 hp, xp_t7 hp, xp_t9 hp, xp_t11 hp, xp_t20 hp, xp_s19 hp, xp_a13 hp, xp_b13 hp, xp_a16 hp, xp_b16 hp, xc_r5 hp, xc_c5 hp, xc_r7 hp, xc_c7 hp, xc_r9 hp, xc_c9 hp, xc_r11 hp, xc_c11 hp, xc_r20 hp, xc_c20 hp, no_on, hK, hpp, pe_1, pe_7, pe_w7, w1_d, hz])
      | (with_reducible refine And.intro (fun q => ?_) (fun q => ?_) <;> (try simp (disch := first | omega | assumption) only [no_0, no_1, no_lt, no_le, no_eq, no_lt0, no_ge0, no_gt0, no_le0, no_eq0, no_0eq, no_eqm, no_meq, no_m0, no_mlt, no_mge, no_mgt, no_mm, no_i01, no_i10, no_in, no_or, no_ifm, no_mul, nI_add, no_sub, pk_div, iI_if, nI_clamp, oI_n, oI_s, not_true_eq_false, not_false_eq_true, forall_const, true_implies, false_and, and_false, or_false, false_or, Classical.not_not, true_or, or_true, no_b, no_eq1, eq_self, and_self, xk_0 hp, xk_1 hp, xk_2 hp, xk_3 hp, xk_4 hp, xk_5 hp, xk_6 hp, xk_7 hp, xk_8 hp, xk_9 hp, xk_10 hp, xk_11 hp, xk_12 hp, xk_13 hp, xk_14 hp, xk_15 hp, xk_16 hp, xk_17 hp, xk_18 hp, xk_19 hp, xk_20 hp, xk_21 hp, xl_1 hp, xl_2 hp, xl_3 hp, xl_4 hp, xl_6 hp, xl_8 hp, xl_10 hp, xl_12 hp, xl_14 hp, xl_15 hp, xl_17 hp, xl_18 hp, xl_21 hp, xp_7 hp, xp_8 hp, xp_9 hp, xp_10 hp, xp_11 hp, xp_12 hp, xp_13 hp, xp_14 hp, xp_15 hp, xp_16 hp, xp_17 hp, xp_t5 hp, xp_t7 hp, xp_t9 hp, xp_t11 hp, xp_t20 hp, xp_s19 hp, xp_a13 hp, xp_b13 hp, xp_a16 hp, xp_b16 hp, xc_r5 hp, xc_c5 hp, xc_r7 hp, xc_c7 hp, xc_r9 hp, xc_c9 hp, xc_r11 hp, xc_c11 hp, xc_r20 hp, xc_c20 hp, no_on, hK, hpp, pe_1, pe_7, pe_w7, w1_d, hz] at q))
      | (with_reducible refine ev_ci h1 ?_)
      | (with_reducible refine ev_ci h2 ?_)
      | omega
      | with_reducible assumption
      | with_reducible rfl
      | (refine Nat.lt_of_lt_of_le ?_ (Nat.le_refl 312); omega)
      | with_reducible refine lp_nx ?_ ?_ ?_ ?_
      | with_reducible refine lp_st ?_ ?_ ?_
      | with_reducible refine ls_c ?_ ?_
      | with_reducible refine vi_c ?_
      | with_reducible refine re_c ?_
      | with_reducible refine vz_c ?_
      | with_reducible refine rz_c ?_
      | exact trivial
      | with_reducible refine And.intro ?_ ?_
      | simp (disch := first | omega | assumption) only [ev_run_c, ev_run_n, ev_fj, ev_stp, ev_lk, ev_fv, ev_as, ev_sz, ev_st1, ev_st2, ev_rm, ev_pk, ev_Jof, ev_go, lv_args, List.map_cons, List.map_nil, List.zip_cons_cons, List.zip_nil_left, List.zip_nil_right, List.nil_append, List.cons_append, ↓reduceIte, reduceCtorEq, Int.reduceToNat, Nat.reduceEqDiff, Nat.reduceAdd, Nat.reduceLT, Nat.reduceLeDiff, Nat.reduceMul, Nat.reduceSub, Value.category, false_implies, true_and, and_true, Bool.false_eq_true, Option.some.injEq, exists_eq_left', Option.toList_some, Option.toList_none, ev_km, ev_k2, ev_k3, ev_k4, ev_k5, ev_l0, ev_l1, sh_1, sh_2, sh_3, sh_4, sh_5, at_X7_readTalk_29, ca_X7_243, ca_X7_283, ca_X7_286, cd_X7_readTalk_0, cd_X7_readTalk_29, fl_X7_12, fl_X7_274, fl_X7_43, no_0, no_1, no_lt, no_le, no_eq, no_lt0, no_ge0, no_gt0, no_le0, no_eq0, no_0eq, no_eqm, no_meq, no_m0, no_mlt, no_mge, no_mgt, no_mm, no_i01, no_i10, no_in, no_or, no_ifm, no_mul, nI_add, no_sub, pk_div, iI_if, nI_clamp, oI_n, oI_s, not_true_eq_false, not_false_eq_true, forall_const, true_implies, false_and, and_false, or_false, false_or, Classical.not_not, true_or, or_true, no_b, no_eq1, eq_self, and_self, xk_0 hp, xk_1 hp, xk_2 hp, xk_3 hp, xk_4 hp, xk_5 hp, xk_6 hp, xk_7 hp, xk_8 hp, xk_9 hp, xk_10 hp, xk_11 hp, xk_12 hp, xk_13 hp, xk_14 hp, xk_15 hp, xk_16 hp, xk_17 hp, xk_18 hp, xk_19 hp, xk_20 hp, xk_21 hp, xl_1 hp, xl_2 hp, xl_3 hp, xl_4 hp, xl_6 hp, xl_8 hp, xl_10 hp, xl_12 hp, xl_14 hp, xl_15 hp, xl_17 hp, xl_18 hp, xl_21 hp, xp_7 hp, xp_8 hp, xp_9 hp, xp_10 hp, xp_11 hp, xp_12 hp, xp_13 hp, xp_14 hp, xp_15 hp, xp_16 hp, xp_17 hp, xp_t5 hp, xp_t7 hp, xp_t9 hp, xp_t11 hp, xp_t20 hp, xp_s19 hp, xp_a13 hp, xp_b13 hp, xp_a16 hp, xp_b16 hp, xc_r5 hp, xc_c5 hp, xc_r7 hp, xc_c7 hp, xc_r9 hp, xc_c9 hp, xc_r11 hp, xc_c11 hp, xc_r20 hp, xc_c20 hp, no_on, hK, hpp, pe_1, pe_7, pe_w7, w1_d, hz]
      | exact rfl
      | (split <;> omega))
end XItem
