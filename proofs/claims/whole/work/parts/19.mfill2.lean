/-! ===== the reference: filling, the whole ===== -/
section MFill2
variable {G : ev_G} {N : Nat → Nat} {μ : ev_M}
theorem m_X11_movesFor_n (hok : ev_ok sh_S G) (hN : MR N μ) (hI : INV N) {t p : Nat} (ht : t < N 0) (hp : p < N 1) (hw : why N t p = 5) (h : mvf N t p = none) : ev_T sh_S G mi_X11_movesFor [.ref 301, .int (nI t), .int (nI p)] μ (.inl (some (.int (nI 0)), μ)) := by
  rw [← mvR_0 h]; exact m_X11_movesFor hok hN hI ht hp hw
theorem m_X11_movesFor_s (hok : ev_ok sh_S G) (hN : MR N μ) (hI : INV N) {t p : Nat} {N' : Nat → Nat} (ht : t < N 0) (hp : p < N 1) (hw : why N t p = 5) (h : mvf N t p = some N') : ev_T sh_S G mi_X11_movesFor [.ref 301, .int (nI t), .int (nI p)] μ (.inl (some (.int (nI 1)), mw μ N')) := by
  rw [← mvR_1 h]; exact m_X11_movesFor hok hN hI ht hp hw
set_option maxHeartbeats 1000000 in
theorem m_X11_moves (hok : ev_ok sh_S G) (hN : MR N μ) (hI : INV N) {p : Nat} (hp : p < N 1) : ev_T sh_S G mi_X11_moves [.ref 301, .int (nI p)] μ (mvR μ (mvs N p)) := by
  have hh := iv_h hI
  have hN' : ∀ k, k < 1042 → μ.1 302 k = nI (N k) := hN
  refine ev_tri1 hok (okM_X11_moves 0) (Nat.le_of_ble_eq_true rfl) 2 [0, 1, 2] (N 0) 400 (fun k => [.ref 301, .int (nI p), .int (nI k)]) (fun _ => μ) (fun k => mvs N p = foF (fun t => if why N t p = 5 then mvf N t p else none) k (N 0 - k)) ?_ ?_
  · intro k hk hf
    rw [at_X11_moves_2]
    rcases Nat.lt_or_ge k (N 0) with hkn | hkn
    · have h1 := why_le N k p
      by_cases hw : why N k p = 5
      · cases hm : mvf N k p with
        | none =>
          have e := hf.trans (foF_n hkn ((if_pos hw).trans hm))
          repeat' (first
            | (with_reducible refine ev_rid ?_; simp (disch := first | omega | assumption) only [ev_run_c, ev_run_n, ev_fj, ev_stp, ev_lk, ev_fv, ev_as, ev_sz, ev_st1, ev_st2, ev_rm, ev_pk, ev_Jof, ev_go, lv_args, List.map_cons, List.map_nil, List.zip_cons_cons, List.zip_nil_left, List.zip_nil_right, List.nil_append, List.cons_append, ↓reduceIte, reduceCtorEq, Int.reduceToNat, Nat.reduceEqDiff, Nat.reduceAdd, Nat.reduceLT, Nat.reduceLeDiff, Nat.reduceMul, Value.category, false_implies, true_and, and_true, Bool.false_eq_true, Option.some.injEq, exists_eq_left', Option.toList_some, Option.toList_none, ev_km, ev_k2, ev_k3, ev_k4, ev_k5, ev_l0, ev_l1, sh_1, sh_2, sh_3, sh_4, sh_5, at_X11_moves_2, at_X11_moves_33, at_X11_moves_39, ca_X11_171, ca_X11_350, cd_X11_moves_0, cd_X11_moves_2, cd_X11_moves_33, cd_X11_moves_39, fl_X11_9, no_0, no_1, no_lt, no_le, no_eq, no_lt0, no_ge0, no_gt0, no_le0, no_eq0, no_0eq, no_eqm, no_meq, no_m0, no_mlt, no_mge, no_mgt, no_mm, no_i01, no_i10, no_in, no_or, no_ifm, no_mul, nI_add, no_sub, pk_div, iI_if, nI_clamp, oI_n, oI_s, not_true_eq_false, not_false_eq_true, forall_const, true_implies, false_and, and_false, or_false, false_or, Classical.not_not, true_or, or_true, no_b, no_eq1, eq_self, and_self, sk_301, sk_302, sl_302, sp_301, hN', hw])
            | (with_reducible refine ev_gid ?_; simp (disch := first | omega | assumption) only [ev_run_c, ev_run_n, ev_fj, ev_stp, ev_lk, ev_fv, ev_as, ev_sz, ev_st1, ev_st2, ev_rm, ev_pk, ev_Jof, ev_go, lv_args, List.map_cons, List.map_nil, List.zip_cons_cons, List.zip_nil_left, List.zip_nil_right, List.nil_append, List.cons_append, ↓reduceIte, reduceCtorEq, Int.reduceToNat, Nat.reduceEqDiff, Nat.reduceAdd, Nat.reduceLT, Nat.reduceLeDiff, Nat.reduceMul, Value.category, false_implies, true_and, and_true, Bool.false_eq_true, Option.some.injEq, exists_eq_left', Option.toList_some, Option.toList_none, ev_km, ev_k2, ev_k3, ev_k4, ev_k5, ev_l0, ev_l1, sh_1, sh_2, sh_3, sh_4, sh_5, at_X11_moves_2, at_X11_moves_33, at_X11_moves_39, ca_X11_171, ca_X11_350, cd_X11_moves_0, cd_X11_moves_2, cd_X11_moves_33, cd_X11_moves_39, fl_X11_9, no_0, no_1, no_lt, no_le, no_eq, no_lt0, no_ge0, no_gt0, no_le0, no_eq0, no_0eq, no_eqm, no_meq, no_m0, no_mlt, no_mge, no_mgt, no_mm, no_i01, no_i10, no_in, no_or, no_ifm, no_mul, nI_add, no_sub, pk_div, iI_if, nI_clamp, oI_n, oI_s, not_true_eq_false, not_false_eq_true, forall_const, true_implies, false_and, and_false, or_false, false_or, Classical.not_not, true_or, or_true, no_b, no_eq1, eq_self, and_self, sk_301, sk_302, sl_302, sp_301, hN', hw])
            | (with_reducible refine And.intro (fun q => ?_) (fun q => ?_) <;> (try simp (disch := first | omega | assumption) only [no_0, no_1, no_lt, no_le, no_eq, no_lt0, no_ge0, no_gt0, no_le0, no_eq0, no_0eq, no_eqm, no_meq, no_m0, no_mlt, no_mge, no_mgt, no_mm, no_i01, no_i10, no_in, no_or, no_ifm, no_mul, nI_add, no_sub, pk_div, iI_if, nI_clamp, oI_n, oI_s, not_true_eq_false, not_false_eq_true, forall_const, true_implies, false_and, and_false, or_false, false_or, Classical.not_not, true_or, or_true, no_b, no_eq1, eq_self, and_self, sk_301, sk_302, sl_302, sp_301, hN', hw] at q))
            | with_reducible refine ev_ci (m_X11_why hok (by first | assumption | exact mw_R) (by assumption) ?_ ?_) ?_
            | with_reducible refine ev_ci (m_X11_why hok (by assumption) (by assumption) ?_ ?_) ?_
            | with_reducible refine ev_ci (m_X11_movesFor_s hok (by assumption) (by assumption) ?_ ?_ ?_ (by assumption)) ?_
            | with_reducible refine ev_ci (m_X11_movesFor_n hok (by assumption) (by assumption) ?_ ?_ ?_ (by assumption)) ?_
            | omega
            | assumption
            | with_reducible rfl
            | with_reducible refine lp_nx ?_ ?_ ?_ ?_
            | with_reducible refine lp_st ?_ ?_ ?_
            | with_reducible refine ls_c ?_ ?_
            | with_reducible refine vi_c ?_
            | with_reducible refine re_c ?_
            | with_reducible refine vz_c ?_
            | with_reducible refine rz_c ?_
            | exact trivial
            | with_reducible refine And.intro ?_ ?_
            | simp (disch := first | omega | assumption) only [ev_run_c, ev_run_n, ev_fj, ev_stp, ev_lk, ev_fv, ev_as, ev_sz, ev_st1, ev_st2, ev_rm, ev_pk, ev_Jof, ev_go, lv_args, List.map_cons, List.map_nil, List.zip_cons_cons, List.zip_nil_left, List.zip_nil_right, List.nil_append, List.cons_append, ↓reduceIte, reduceCtorEq, Int.reduceToNat, Nat.reduceEqDiff, Nat.reduceAdd, Nat.reduceLT, Nat.reduceLeDiff, Nat.reduceMul, Value.category, false_implies, true_and, and_true, Bool.false_eq_true, Option.some.injEq, exists_eq_left', Option.toList_some, Option.toList_none, ev_km, ev_k2, ev_k3, ev_k4, ev_k5, ev_l0, ev_l1, sh_1, sh_2, sh_3, sh_4, sh_5, at_X11_moves_2, at_X11_moves_33, at_X11_moves_39, ca_X11_171, ca_X11_350, cd_X11_moves_0, cd_X11_moves_2, cd_X11_moves_33, cd_X11_moves_39, fl_X11_9, no_0, no_1, no_lt, no_le, no_eq, no_lt0, no_ge0, no_gt0, no_le0, no_eq0, no_0eq, no_eqm, no_meq, no_m0, no_mlt, no_mge, no_mgt, no_mm, no_i01, no_i10, no_in, no_or, no_ifm, no_mul, nI_add, no_sub, pk_div, iI_if, nI_clamp, oI_n, oI_s, not_true_eq_false, not_false_eq_true, forall_const, true_implies, false_and, and_false, or_false, false_or, Classical.not_not, true_or, or_true, no_b, no_eq1, eq_self, and_self, sk_301, sk_302, sl_302, sp_301, hN', hw]
            | exact rfl
            | (split <;> omega))
        | some N' =>
          have e := hf.trans (foF_y hkn ((if_pos hw).trans hm))
          rw [mvR_1 e]
          repeat' (first
            | (with_reducible refine ev_rid ?_; simp (disch := first | omega | assumption) only [ev_run_c, ev_run_n, ev_fj, ev_stp, ev_lk, ev_fv, ev_as, ev_sz, ev_st1, ev_st2, ev_rm, ev_pk, ev_Jof, ev_go, lv_args, List.map_cons, List.map_nil, List.zip_cons_cons, List.zip_nil_left, List.zip_nil_right, List.nil_append, List.cons_append, ↓reduceIte, reduceCtorEq, Int.reduceToNat, Nat.reduceEqDiff, Nat.reduceAdd, Nat.reduceLT, Nat.reduceLeDiff, Nat.reduceMul, Value.category, false_implies, true_and, and_true, Bool.false_eq_true, Option.some.injEq, exists_eq_left', Option.toList_some, Option.toList_none, ev_km, ev_k2, ev_k3, ev_k4, ev_k5, ev_l0, ev_l1, sh_1, sh_2, sh_3, sh_4, sh_5, at_X11_moves_2, at_X11_moves_33, at_X11_moves_39, ca_X11_171, ca_X11_350, cd_X11_moves_0, cd_X11_moves_2, cd_X11_moves_33, cd_X11_moves_39, fl_X11_9, no_0, no_1, no_lt, no_le, no_eq, no_lt0, no_ge0, no_gt0, no_le0, no_eq0, no_0eq, no_eqm, no_meq, no_m0, no_mlt, no_mge, no_mgt, no_mm, no_i01, no_i10, no_in, no_or, no_ifm, no_mul, nI_add, no_sub, pk_div, iI_if, nI_clamp, oI_n, oI_s, not_true_eq_false, not_false_eq_true, forall_const, true_implies, false_and, and_false, or_false, false_or, Classical.not_not, true_or, or_true, no_b, no_eq1, eq_self, and_self, sk_301, sk_302, sl_302, sp_301, hN', hw])
            | (with_reducible refine ev_gid ?_; simp (disch := first | omega | assumption) only [ev_run_c, ev_run_n, ev_fj, ev_stp, ev_lk, ev_fv, ev_as, ev_sz, ev_st1, ev_st2, ev_rm, ev_pk, ev_Jof, ev_go, lv_args, List.map_cons, List.map_nil, List.zip_cons_cons, List.zip_nil_left, List.zip_nil_right, List.nil_append, List.cons_append, ↓reduceIte, reduceCtorEq, Int.reduceToNat, Nat.reduceEqDiff, Nat.reduceAdd, Nat.reduceLT, Nat.reduceLeDiff, Nat.reduceMul, Value.category, false_implies, true_and, and_true, Bool.false_eq_true, Option.some.injEq, exists_eq_left', Option.toList_some, Option.toList_none, ev_km, ev_k2, ev_k3, ev_k4, ev_k5, ev_l0, ev_l1, sh_1, sh_2, sh_3, sh_4, sh_5, at_X11_moves_2, at_X11_moves_33, at_X11_moves_39, ca_X11_171, ca_X11_350, cd_X11_moves_0, cd_X11_moves_2, cd_X11_moves_33, cd_X11_moves_39, fl_X11_9, no_0, no_1, no_lt, no_le, no_eq, no_lt0, no_ge0, no_gt0, no_le0, no_eq0, no_0eq, no_eqm, no_meq, no_m0, no_mlt, no_mge, no_mgt, no_mm, no_i01, no_i10, no_in, no_or, no_ifm, no_mul, nI_add, no_sub, pk_div, iI_if, nI_clamp, oI_n, oI_s, not_true_eq_false, not_false_eq_true, forall_const, true_implies, false_and, and_false, or_false, false_or, Classical.not_not, true_or, or_true, no_b, no_eq1, eq_self, and_self, sk_301, sk_302, sl_302, sp_301, hN', hw])
            | (with_reducible refine And.intro (fun q => ?_) (fun q => ?_) <;> (try simp (disch := first | omega | assumption) only [no_0, no_1, no_lt, no_le, no_eq, no_lt0, no_ge0, no_gt0, no_le0, no_eq0, no_0eq, no_eqm, no_meq, no_m0, no_mlt, no_mge, no_mgt, no_mm, no_i01, no_i10, no_in, no_or, no_ifm, no_mul, nI_add, no_sub, pk_div, iI_if, nI_clamp, oI_n, oI_s, not_true_eq_false, not_false_eq_true, forall_const, true_implies, false_and, and_false, or_false, false_or, Classical.not_not, true_or, or_true, no_b, no_eq1, eq_self, and_self, sk_301, sk_302, sl_302, sp_301, hN', hw] at q))
            | with_reducible refine ev_ci (m_X11_why hok (by first | assumption | exact mw_R) (by assumption) ?_ ?_) ?_
            | with_reducible refine ev_ci (m_X11_why hok (by assumption) (by assumption) ?_ ?_) ?_
            | with_reducible refine ev_ci (m_X11_movesFor_s hok (by assumption) (by assumption) ?_ ?_ ?_ (by assumption)) ?_
            | with_reducible refine ev_ci (m_X11_movesFor_n hok (by assumption) (by assumption) ?_ ?_ ?_ (by assumption)) ?_
            | omega
            | assumption
            | with_reducible rfl
            | with_reducible refine lp_nx ?_ ?_ ?_ ?_
            | with_reducible refine lp_st ?_ ?_ ?_
            | with_reducible refine ls_c ?_ ?_
            | with_reducible refine vi_c ?_
            | with_reducible refine re_c ?_
            | with_reducible refine vz_c ?_
            | with_reducible refine rz_c ?_
            | exact trivial
            | with_reducible refine And.intro ?_ ?_
            | simp (disch := first | omega | assumption) only [ev_run_c, ev_run_n, ev_fj, ev_stp, ev_lk, ev_fv, ev_as, ev_sz, ev_st1, ev_st2, ev_rm, ev_pk, ev_Jof, ev_go, lv_args, List.map_cons, List.map_nil, List.zip_cons_cons, List.zip_nil_left, List.zip_nil_right, List.nil_append, List.cons_append, ↓reduceIte, reduceCtorEq, Int.reduceToNat, Nat.reduceEqDiff, Nat.reduceAdd, Nat.reduceLT, Nat.reduceLeDiff, Nat.reduceMul, Value.category, false_implies, true_and, and_true, Bool.false_eq_true, Option.some.injEq, exists_eq_left', Option.toList_some, Option.toList_none, ev_km, ev_k2, ev_k3, ev_k4, ev_k5, ev_l0, ev_l1, sh_1, sh_2, sh_3, sh_4, sh_5, at_X11_moves_2, at_X11_moves_33, at_X11_moves_39, ca_X11_171, ca_X11_350, cd_X11_moves_0, cd_X11_moves_2, cd_X11_moves_33, cd_X11_moves_39, fl_X11_9, no_0, no_1, no_lt, no_le, no_eq, no_lt0, no_ge0, no_gt0, no_le0, no_eq0, no_0eq, no_eqm, no_meq, no_m0, no_mlt, no_mge, no_mgt, no_mm, no_i01, no_i10, no_in, no_or, no_ifm, no_mul, nI_add, no_sub, pk_div, iI_if, nI_clamp, oI_n, oI_s, not_true_eq_false, not_false_eq_true, forall_const, true_implies, false_and, and_false, or_false, false_or, Classical.not_not, true_or, or_true, no_b, no_eq1, eq_self, and_self, sk_301, sk_302, sl_302, sp_301, hN', hw]
            | exact rfl
            | (split <;> omega))
      · have e := hf.trans (foF_n hkn (if_neg hw))
        repeat' (first
          | (with_reducible refine ev_rid ?_; simp (disch := first | omega | assumption) only [ev_run_c, ev_run_n, ev_fj, ev_stp, ev_lk, ev_fv, ev_as, ev_sz, ev_st1, ev_st2, ev_rm, ev_pk, ev_Jof, ev_go, lv_args, List.map_cons, List.map_nil, List.zip_cons_cons, List.zip_nil_left, List.zip_nil_right, List.nil_append, List.cons_append, ↓reduceIte, reduceCtorEq, Int.reduceToNat, Nat.reduceEqDiff, Nat.reduceAdd, Nat.reduceLT, Nat.reduceLeDiff, Nat.reduceMul, Value.category, false_implies, true_and, and_true, Bool.false_eq_true, Option.some.injEq, exists_eq_left', Option.toList_some, Option.toList_none, ev_km, ev_k2, ev_k3, ev_k4, ev_k5, ev_l0, ev_l1, sh_1, sh_2, sh_3, sh_4, sh_5, at_X11_moves_2, at_X11_moves_33, at_X11_moves_39, ca_X11_171, ca_X11_350, cd_X11_moves_0, cd_X11_moves_2, cd_X11_moves_33, cd_X11_moves_39, fl_X11_9, no_0, no_1, no_lt, no_le, no_eq, no_lt0, no_ge0, no_gt0, no_le0, no_eq0, no_0eq, no_eqm, no_meq, no_m0, no_mlt, no_mge, no_mgt, no_mm, no_i01, no_i10, no_in, no_or, no_ifm, no_mul, nI_add, no_sub, pk_div, iI_if, nI_clamp, oI_n, oI_s, not_true_eq_false, not_false_eq_true, forall_const, true_implies, false_and, and_false, or_false, false_or, Classical.not_not, true_or, or_true, no_b, no_eq1, eq_self, and_self, sk_301, sk_302, sl_302, sp_301, hN', hw])
          | (with_reducible refine ev_gid ?_; simp (disch := first | omega | assumption) only [ev_run_c, ev_run_n, ev_fj, ev_stp, ev_lk, ev_fv, ev_as, ev_sz, ev_st1, ev_st2, ev_rm, ev_pk, ev_Jof, ev_go, lv_args, List.map_cons, List.map_nil, List.zip_cons_cons, List.zip_nil_left, List.zip_nil_right, List.nil_append, List.cons_append, ↓reduceIte, reduceCtorEq, Int.reduceToNat, Nat.reduceEqDiff, Nat.reduceAdd, Nat.reduceLT, Nat.reduceLeDiff, Nat.reduceMul, Value.category, false_implies, true_and, and_true, Bool.false_eq_true, Option.some.injEq, exists_eq_left', Option.toList_some, Option.toList_none, ev_km, ev_k2, ev_k3, ev_k4, ev_k5, ev_l0, ev_l1, sh_1, sh_2, sh_3, sh_4, sh_5, at_X11_moves_2, at_X11_moves_33, at_X11_moves_39, ca_X11_171, ca_X11_350, cd_X11_moves_0, cd_X11_moves_2, cd_X11_moves_33, cd_X11_moves_39, fl_X11_9, no_0, no_1, no_lt, no_le, no_eq, no_lt0, no_ge0, no_gt0, no_le0, no_eq0, no_0eq, no_eqm, no_meq, no_m0, no_mlt, no_mge, no_mgt, no_mm, no_i01, no_i10, no_in, no_or, no_ifm, no_mul, nI_add, no_sub, pk_div, iI_if, nI_clamp, oI_n, oI_s, not_true_eq_false, not_false_eq_true, forall_const, true_implies, false_and, and_false, or_false, false_or, Classical.not_not, true_or, or_true, no_b, no_eq1, eq_self, and_self, sk_301, sk_302, sl_302, sp_301, hN', hw])
          | (with_reducible refine And.intro (fun q => ?_) (fun q => ?_) <;> (try simp (disch := first | omega | assumption) only [no_0, no_1, no_lt, no_le, no_eq, no_lt0, no_ge0, no_gt0, no_le0, no_eq0, no_0eq, no_eqm, no_meq, no_m0, no_mlt, no_mge, no_mgt, no_mm, no_i01, no_i10, no_in, no_or, no_ifm, no_mul, nI_add, no_sub, pk_div, iI_if, nI_clamp, oI_n, oI_s, not_true_eq_false, not_false_eq_true, forall_const, true_implies, false_and, and_false, or_false, false_or, Classical.not_not, true_or, or_true, no_b, no_eq1, eq_self, and_self, sk_301, sk_302, sl_302, sp_301, hN', hw] at q))
          | with_reducible refine ev_ci (m_X11_why hok (by first | assumption | exact mw_R) (by assumption) ?_ ?_) ?_
          | with_reducible refine ev_ci (m_X11_why hok (by assumption) (by assumption) ?_ ?_) ?_
          | with_reducible refine ev_ci (m_X11_movesFor_s hok (by assumption) (by assumption) ?_ ?_ ?_ (by assumption)) ?_
          | with_reducible refine ev_ci (m_X11_movesFor_n hok (by assumption) (by assumption) ?_ ?_ ?_ (by assumption)) ?_
          | omega
          | assumption
          | with_reducible rfl
          | with_reducible refine lp_nx ?_ ?_ ?_ ?_
          | with_reducible refine lp_st ?_ ?_ ?_
          | with_reducible refine ls_c ?_ ?_
          | with_reducible refine vi_c ?_
          | with_reducible refine re_c ?_
          | with_reducible refine vz_c ?_
          | with_reducible refine rz_c ?_
          | exact trivial
          | with_reducible refine And.intro ?_ ?_
          | simp (disch := first | omega | assumption) only [ev_run_c, ev_run_n, ev_fj, ev_stp, ev_lk, ev_fv, ev_as, ev_sz, ev_st1, ev_st2, ev_rm, ev_pk, ev_Jof, ev_go, lv_args, List.map_cons, List.map_nil, List.zip_cons_cons, List.zip_nil_left, List.zip_nil_right, List.nil_append, List.cons_append, ↓reduceIte, reduceCtorEq, Int.reduceToNat, Nat.reduceEqDiff, Nat.reduceAdd, Nat.reduceLT, Nat.reduceLeDiff, Nat.reduceMul, Value.category, false_implies, true_and, and_true, Bool.false_eq_true, Option.some.injEq, exists_eq_left', Option.toList_some, Option.toList_none, ev_km, ev_k2, ev_k3, ev_k4, ev_k5, ev_l0, ev_l1, sh_1, sh_2, sh_3, sh_4, sh_5, at_X11_moves_2, at_X11_moves_33, at_X11_moves_39, ca_X11_171, ca_X11_350, cd_X11_moves_0, cd_X11_moves_2, cd_X11_moves_33, cd_X11_moves_39, fl_X11_9, no_0, no_1, no_lt, no_le, no_eq, no_lt0, no_ge0, no_gt0, no_le0, no_eq0, no_0eq, no_eqm, no_meq, no_m0, no_mlt, no_mge, no_mgt, no_mm, no_i01, no_i10, no_in, no_or, no_ifm, no_mul, nI_add, no_sub, pk_div, iI_if, nI_clamp, oI_n, oI_s, not_true_eq_false, not_false_eq_true, forall_const, true_implies, false_and, and_false, or_false, false_or, Classical.not_not, true_or, or_true, no_b, no_eq1, eq_self, and_self, sk_301, sk_302, sl_302, sp_301, hN', hw]
          | exact rfl
          | (split <;> omega))
    · have hkn : N 0 = k := by omega
      have e := hf.trans (foF_e (by omega))
      rw [mvR_0 e]
      subst hkn
      repeat' (first
        | (with_reducible refine ev_rid ?_; simp (disch := first | omega | assumption) only [ev_run_c, ev_run_n, ev_fj, ev_stp, ev_lk, ev_fv, ev_as, ev_sz, ev_st1, ev_st2, ev_rm, ev_pk, ev_Jof, ev_go, lv_args, List.map_cons, List.map_nil, List.zip_cons_cons, List.zip_nil_left, List.zip_nil_right, List.nil_append, List.cons_append, ↓reduceIte, reduceCtorEq, Int.reduceToNat, Nat.reduceEqDiff, Nat.reduceAdd, Nat.reduceLT, Nat.reduceLeDiff, Nat.reduceMul, Value.category, false_implies, true_and, and_true, Bool.false_eq_true, Option.some.injEq, exists_eq_left', Option.toList_some, Option.toList_none, ev_km, ev_k2, ev_k3, ev_k4, ev_k5, ev_l0, ev_l1, sh_1, sh_2, sh_3, sh_4, sh_5, at_X11_moves_2, at_X11_moves_33, at_X11_moves_39, ca_X11_171, ca_X11_350, cd_X11_moves_0, cd_X11_moves_2, cd_X11_moves_33, cd_X11_moves_39, fl_X11_9, no_0, no_1, no_lt, no_le, no_eq, no_lt0, no_ge0, no_gt0, no_le0, no_eq0, no_0eq, no_eqm, no_meq, no_m0, no_mlt, no_mge, no_mgt, no_mm, no_i01, no_i10, no_in, no_or, no_ifm, no_mul, nI_add, no_sub, pk_div, iI_if, nI_clamp, oI_n, oI_s, not_true_eq_false, not_false_eq_true, forall_const, true_implies, false_and, and_false, or_false, false_or, Classical.not_not, true_or, or_true, no_b, no_eq1, eq_self, and_self, sk_301, sk_302, sl_302, sp_301, hN'])
        | (with_reducible refine ev_gid ?_; simp (disch := first | omega | assumption) only [ev_run_c, ev_run_n, ev_fj, ev_stp, ev_lk, ev_fv, ev_as, ev_sz, ev_st1, ev_st2, ev_rm, ev_pk, ev_Jof, ev_go, lv_args, List.map_cons, List.map_nil, List.zip_cons_cons, List.zip_nil_left, List.zip_nil_right, List.nil_append, List.cons_append, ↓reduceIte, reduceCtorEq, Int.reduceToNat, Nat.reduceEqDiff, Nat.reduceAdd, Nat.reduceLT, Nat.reduceLeDiff, Nat.reduceMul, Value.category, false_implies, true_and, and_true, Bool.false_eq_true, Option.some.injEq, exists_eq_left', Option.toList_some, Option.toList_none, ev_km, ev_k2, ev_k3, ev_k4, ev_k5, ev_l0, ev_l1, sh_1, sh_2, sh_3, sh_4, sh_5, at_X11_moves_2, at_X11_moves_33, at_X11_moves_39, ca_X11_171, ca_X11_350, cd_X11_moves_0, cd_X11_moves_2, cd_X11_moves_33, cd_X11_moves_39, fl_X11_9, no_0, no_1, no_lt, no_le, no_eq, no_lt0, no_ge0, no_gt0, no_le0, no_eq0, no_0eq, no_eqm, no_meq, no_m0, no_mlt, no_mge, no_mgt, no_mm, no_i01, no_i10, no_in, no_or, no_ifm, no_mul, nI_add, no_sub, pk_div, iI_if, nI_clamp, oI_n, oI_s, not_true_eq_false, not_false_eq_true, forall_const, true_implies, false_and, and_false, or_false, false_or, Classical.not_not, true_or, or_true, no_b, no_eq1, eq_self, and_self, sk_301, sk_302, sl_302, sp_301, hN'])
        | (with_reducible refine And.intro (fun q => ?_) (fun q => ?_) <;> (try simp (disch := first | omega | assumption) only [no_0, no_1, no_lt, no_le, no_eq, no_lt0, no_ge0, no_gt0, no_le0, no_eq0, no_0eq, no_eqm, no_meq, no_m0, no_mlt, no_mge, no_mgt, no_mm, no_i01, no_i10, no_in, no_or, no_ifm, no_mul, nI_add, no_sub, pk_div, iI_if, nI_clamp, oI_n, oI_s, not_true_eq_false, not_false_eq_true, forall_const, true_implies, false_and, and_false, or_false, false_or, Classical.not_not, true_or, or_true, no_b, no_eq1, eq_self, and_self, sk_301, sk_302, sl_302, sp_301, hN'] at q))
        | with_reducible refine ev_ci (m_X11_why hok (by first | assumption | exact mw_R) (by assumption) ?_ ?_) ?_
        | with_reducible refine ev_ci (m_X11_why hok (by assumption) (by assumption) ?_ ?_) ?_
        | with_reducible refine ev_ci (m_X11_movesFor_s hok (by assumption) (by assumption) ?_ ?_ ?_ (by assumption)) ?_
        | with_reducible refine ev_ci (m_X11_movesFor_n hok (by assumption) (by assumption) ?_ ?_ ?_ (by assumption)) ?_
        | omega
        | assumption
        | with_reducible rfl
        | with_reducible refine lp_nx ?_ ?_ ?_ ?_
        | with_reducible refine lp_st ?_ ?_ ?_
        | with_reducible refine ls_c ?_ ?_
        | with_reducible refine vi_c ?_
        | with_reducible refine re_c ?_
        | with_reducible refine vz_c ?_
        | with_reducible refine rz_c ?_
        | exact trivial
        | with_reducible refine And.intro ?_ ?_
        | simp (disch := first | omega | assumption) only [ev_run_c, ev_run_n, ev_fj, ev_stp, ev_lk, ev_fv, ev_as, ev_sz, ev_st1, ev_st2, ev_rm, ev_pk, ev_Jof, ev_go, lv_args, List.map_cons, List.map_nil, List.zip_cons_cons, List.zip_nil_left, List.zip_nil_right, List.nil_append, List.cons_append, ↓reduceIte, reduceCtorEq, Int.reduceToNat, Nat.reduceEqDiff, Nat.reduceAdd, Nat.reduceLT, Nat.reduceLeDiff, Nat.reduceMul, Value.category, false_implies, true_and, and_true, Bool.false_eq_true, Option.some.injEq, exists_eq_left', Option.toList_some, Option.toList_none, ev_km, ev_k2, ev_k3, ev_k4, ev_k5, ev_l0, ev_l1, sh_1, sh_2, sh_3, sh_4, sh_5, at_X11_moves_2, at_X11_moves_33, at_X11_moves_39, ca_X11_171, ca_X11_350, cd_X11_moves_0, cd_X11_moves_2, cd_X11_moves_33, cd_X11_moves_39, fl_X11_9, no_0, no_1, no_lt, no_le, no_eq, no_lt0, no_ge0, no_gt0, no_le0, no_eq0, no_0eq, no_eqm, no_meq, no_m0, no_mlt, no_mge, no_mgt, no_mm, no_i01, no_i10, no_in, no_or, no_ifm, no_mul, nI_add, no_sub, pk_div, iI_if, nI_clamp, oI_n, oI_s, not_true_eq_false, not_false_eq_true, forall_const, true_implies, false_and, and_false, or_false, false_or, Classical.not_not, true_or, or_true, no_b, no_eq1, eq_self, and_self, sk_301, sk_302, sl_302, sp_301, hN']
        | exact rfl
        | (split <;> omega))
  · rw [at_X11_moves_0]
    repeat' (first
      | (with_reducible refine ev_rid ?_; simp (disch := first | omega | assumption) only [ev_run_c, ev_run_n, ev_fj, ev_stp, ev_lk, ev_fv, ev_as, ev_sz, ev_st1, ev_st2, ev_rm, ev_pk, ev_Jof, ev_go, lv_args, List.map_cons, List.map_nil, List.zip_cons_cons, List.zip_nil_left, List.zip_nil_right, List.nil_append, List.cons_append, ↓reduceIte, reduceCtorEq, Int.reduceToNat, Nat.reduceEqDiff, Nat.reduceAdd, Nat.reduceLT, Nat.reduceLeDiff, Nat.reduceMul, Value.category, false_implies, true_and, and_true, Bool.false_eq_true, Option.some.injEq, exists_eq_left', Option.toList_some, Option.toList_none, ev_km, ev_k2, ev_k3, ev_k4, ev_k5, ev_l0, ev_l1, sh_1, sh_2, sh_3, sh_4, sh_5, at_X11_moves_2, at_X11_moves_33, at_X11_moves_39, ca_X11_171, ca_X11_350, cd_X11_moves_0, cd_X11_moves_2, cd_X11_moves_33, cd_X11_moves_39, fl_X11_9, no_0, no_1, no_lt, no_le, no_eq, no_lt0, no_ge0, no_gt0, no_le0, no_eq0, no_0eq, no_eqm, no_meq, no_m0, no_mlt, no_mge, no_mgt, no_mm, no_i01, no_i10, no_in, no_or, no_ifm, no_mul, nI_add, no_sub, pk_div, iI_if, nI_clamp, oI_n, oI_s, not_true_eq_false, not_false_eq_true, forall_const, true_implies, false_and, and_false, or_false, false_or, Classical.not_not, true_or, or_true, no_b, no_eq1, eq_self, and_self, sk_301, sk_302, sl_302, sp_301])
      | (with_reducible refine ev_gid ?_; simp (disch := first | omega | assumption) only [ev_run_c, ev_run_n, ev_fj, ev_stp, ev_lk, ev_fv, ev_as, ev_sz, ev_st1, ev_st2, ev_rm, ev_pk, ev_Jof, ev_go, lv_args, List.map_cons, List.map_nil, List.zip_cons_cons, List.zip_nil_left, List.zip_nil_right, List.nil_append, List.cons_append, ↓reduceIte, reduceCtorEq, Int.reduceToNat, Nat.reduceEqDiff, Nat.reduceAdd, Nat.reduceLT, Nat.reduceLeDiff, Nat.reduceMul, Value.category, false_implies, true_and, and_true, Bool.false_eq_true, Option.some.injEq, exists_eq_left', Option.toList_some, Option.toList_none, ev_km, ev_k2, ev_k3, ev_k4, ev_k5, ev_l0, ev_l1, sh_1, sh_2, sh_3, sh_4, sh_5, at_X11_moves_2, at_X11_moves_33, at_X11_moves_39, ca_X11_171, ca_X11_350, cd_X11_moves_0, cd_X11_moves_2, cd_X11_moves_33, cd_X11_moves_39, fl_X11_9, no_0, no_1, no_lt, no_le, no_eq, no_lt0, no_ge0, no_gt0, no_le0, no_eq0, no_0eq, no_eqm, no_meq, no_m0, no_mlt, no_mge, no_mgt, no_mm, no_i01, no_i10, no_in, no_or, no_ifm, no_mul, nI_add, no_sub, pk_div, iI_if, nI_clamp, oI_n, oI_s, not_true_eq_false, not_false_eq_true, forall_const, true_implies, false_and, and_false, or_false, false_or, Classical.not_not, true_or, or_true, no_b, no_eq1, eq_self, and_self, sk_301, sk_302, sl_302, sp_301])
      | (with_reducible refine And.intro (fun q => ?_) (fun q => ?_) <;> (try simp (disch := first | omega | assumption) only [no_0, no_1, no_lt, no_le, no_eq, no_lt0, no_ge0, no_gt0, no_le0, no_eq0, no_0eq, no_eqm, no_meq, no_m0, no_mlt, no_mge, no_mgt, no_mm, no_i01, no_i10, no_in, no_or, no_ifm, no_mul, nI_add, no_sub, pk_div, iI_if, nI_clamp, oI_n, oI_s, not_true_eq_false, not_false_eq_true, forall_const, true_implies, false_and, and_false, or_false, false_or, Classical.not_not, true_or, or_true, no_b, no_eq1, eq_self, and_self, sk_301, sk_302, sl_302, sp_301] at q))
      | with_reducible refine ev_ci (m_X11_why hok (by first | assumption | exact mw_R) (by assumption) ?_ ?_) ?_
      | with_reducible refine ev_ci (m_X11_why hok (by assumption) (by assumption) ?_ ?_) ?_
      | with_reducible refine ev_ci (m_X11_movesFor_s hok (by assumption) (by assumption) ?_ ?_ ?_ (by assumption)) ?_
      | with_reducible refine ev_ci (m_X11_movesFor_n hok (by assumption) (by assumption) ?_ ?_ ?_ (by assumption)) ?_
      | omega
      | assumption
      | with_reducible rfl
      | with_reducible refine lp_nx ?_ ?_ ?_ ?_
      | with_reducible refine lp_st ?_ ?_ ?_
      | with_reducible refine ls_c ?_ ?_
      | with_reducible refine vi_c ?_
      | with_reducible refine re_c ?_
      | with_reducible refine vz_c ?_
      | with_reducible refine rz_c ?_
      | exact trivial
      | with_reducible refine And.intro ?_ ?_
      | simp (disch := first | omega | assumption) only [ev_run_c, ev_run_n, ev_fj, ev_stp, ev_lk, ev_fv, ev_as, ev_sz, ev_st1, ev_st2, ev_rm, ev_pk, ev_Jof, ev_go, lv_args, List.map_cons, List.map_nil, List.zip_cons_cons, List.zip_nil_left, List.zip_nil_right, List.nil_append, List.cons_append, ↓reduceIte, reduceCtorEq, Int.reduceToNat, Nat.reduceEqDiff, Nat.reduceAdd, Nat.reduceLT, Nat.reduceLeDiff, Nat.reduceMul, Value.category, false_implies, true_and, and_true, Bool.false_eq_true, Option.some.injEq, exists_eq_left', Option.toList_some, Option.toList_none, ev_km, ev_k2, ev_k3, ev_k4, ev_k5, ev_l0, ev_l1, sh_1, sh_2, sh_3, sh_4, sh_5, at_X11_moves_2, at_X11_moves_33, at_X11_moves_39, ca_X11_171, ca_X11_350, cd_X11_moves_0, cd_X11_moves_2, cd_X11_moves_33, cd_X11_moves_39, fl_X11_9, no_0, no_1, no_lt, no_le, no_eq, no_lt0, no_ge0, no_gt0, no_le0, no_eq0, no_0eq, no_eqm, no_meq, no_m0, no_mlt, no_mge, no_mgt, no_mm, no_i01, no_i10, no_in, no_or, no_ifm, no_mul, nI_add, no_sub, pk_div, iI_if, nI_clamp, oI_n, oI_s, not_true_eq_false, not_false_eq_true, forall_const, true_implies, false_and, and_false, or_false, false_or, Classical.not_not, true_or, or_true, no_b, no_eq1, eq_self, and_self, sk_301, sk_302, sl_302, sp_301]
      | exact rfl
      | (split <;> omega))
theorem m_X11_moves_n (hok : ev_ok sh_S G) (hN : MR N μ) (hI : INV N) {p : Nat} (hp : p < N 1) (h : mvs N p = none) : ev_T sh_S G mi_X11_moves [.ref 301, .int (nI p)] μ (.inl (some (.int (nI 0)), μ)) := by
  rw [← mvR_0 h]; exact m_X11_moves hok hN hI hp
theorem m_X11_moves_s (hok : ev_ok sh_S G) (hN : MR N μ) (hI : INV N) {p : Nat} {N' : Nat → Nat} (hp : p < N 1) (h : mvs N p = some N') : ev_T sh_S G mi_X11_moves [.ref 301, .int (nI p)] μ (.inl (some (.int (nI 1)), mw μ N')) := by
  rw [← mvR_1 h]; exact m_X11_moves hok hN hI hp
/-- one step of filling -/
def fs (s : (Nat → Nat) × (Nat → Nat)) : Option ((Nat → Nat) × (Nat → Nat)) := match ned s.1 s.2 (s.1 1) with
  | none => none
  | some p => match best s.1 p (s.1 0) with
    | some i => some (up (stN s.1 i p) 4 (s.1 4 + 1), s.2)
    | none => match mvs s.1 p with
      | some N' => some (N', s.2)
      | none => some (s.1, up s.2 p 1)
def itf (s : (Nat → Nat) × (Nat → Nat)) : Nat → (Nat → Nat) × (Nat → Nat)
  | 0 => s
  | k + 1 => match fs (itf s k) with
    | none => itf s k
    | some s' => s'
theorem fs_0 {s : (Nat → Nat) × (Nat → Nat)} (h : ned s.1 s.2 (s.1 1) = none) : fs s = none := by unfold fs; rw [h]
theorem fs_1 {s : (Nat → Nat) × (Nat → Nat)} {p i : Nat} (h : ned s.1 s.2 (s.1 1) = some p) (h2 : best s.1 p (s.1 0) = some i) : fs s = some (up (stN s.1 i p) 4 (s.1 4 + 1), s.2) := by unfold fs; rw [h]; dsimp only; rw [h2]
theorem fs_2 {s : (Nat → Nat) × (Nat → Nat)} {p : Nat} {N' : Nat → Nat} (h : ned s.1 s.2 (s.1 1) = some p) (h2 : best s.1 p (s.1 0) = none) (h3 : mvs s.1 p = some N') : fs s = some (N', s.2) := by unfold fs; rw [h]; dsimp only; rw [h2]; dsimp only; rw [h3]
theorem fs_3 {s : (Nat → Nat) × (Nat → Nat)} {p : Nat} (h : ned s.1 s.2 (s.1 1) = some p) (h2 : best s.1 p (s.1 0) = none) (h3 : mvs s.1 p = none) : fs s = some (s.1, up s.2 p 1) := by unfold fs; rw [h]; dsimp only; rw [h2]; dsimp only; rw [h3]
theorem itf_s {s s' : (Nat → Nat) × (Nat → Nat)} {k : Nat} (h : fs (itf s k) = some s') : itf s (k + 1) = s' := by
  show (match fs (itf s k) with | none => itf s k | some s' => s') = s'
  rw [h]
theorem itf_n {s : (Nat → Nat) × (Nat → Nat)} {k : Nat} (h : fs (itf s k) = none) : itf s (k + 1) = itf s k := by
  show (match fs (itf s k) with | none => itf s k | some s' => s') = itf s k
  rw [h]
theorem itf_st {s : (Nat → Nat) × (Nat → Nat)} {k m : Nat} (h : fs (itf s k) = none) (hm : k ≤ m) : itf s m = itf s k := by
  induction m with
  | zero => rw [show k = 0 by omega]
  | succ m ih =>
    rcases Nat.lt_or_ge k (m + 1) with h1 | h1
    · have e := ih (by omega)
      rw [itf_n (by rw [e]; exact h), e]
    · rw [show k = m + 1 by omega]
theorem sm_ch {f g : Nat → Nat} {n p : Nat} (hp : p < n) (h : ∀ k, k < n → k ≠ p → f k = g k) : sm f n + g p = sm g n + f p := by
  induction n with
  | zero => omega
  | succ n ih =>
    show sm f n + f n + g p = sm g n + g n + f p
    rcases Nat.lt_or_ge p n with h1 | h1
    · have := ih h1 (fun k hk hkp => h k (by omega) hkp)
      have := h n (by omega) (by omega)
      omega
    · have e : p = n := by omega
      subst e
      have : sm f p = sm g p := sm_ext (fun k hk => h k (by omega) (by omega))
      omega
def mz (s : (Nat → Nat) × (Nat → Nat)) : Nat := lk s.1 (s.1 1) + sm (fun p => if s.2 p = 0 then 1 else 0) (s.1 1)
theorem best_is {q n i : Nat} (h : best N q n = some i) : i < n ∧ why N i q = 0 := by
  induction n generalizing i with
  | zero => cases h
  | succ n ih =>
    cases h1 : best N q n with
    | none =>
      by_cases h2 : why N n q = 0
      · rw [best_n1 h1 h2] at h
        cases h
        exact ⟨by omega, h2⟩
      · rw [best_n0 h1 h2] at h
        cases h
    | some b =>
      have := ih h1
      by_cases h2 : why N n q = 0 ∧ better N n b q = 1
      · rw [best_s1 h1 h2.1 h2.2] at h
        cases h
        exact ⟨by omega, h2.1⟩
      · rw [best_s0 h1 h2] at h
        cases h
        exact ⟨by omega, this.2⟩
/-- what a step keeps, and that it comes nearer to the end -/
theorem fs_ok {s s' : (Nat → Nat) × (Nat → Nat)} (hI : INV s.1) (hg : ∀ k, k < 10 → s.2 k < 2) (h : fs s = some s') : INV s'.1 ∧ (∀ k, k < 10 → s'.2 k < 2) ∧ s'.1 0 = s.1 0 ∧ s'.1 1 = s.1 1 ∧ s.1 4 ≤ s'.1 4 ∧ mz s' < mz s := by
  obtain ⟨N, g⟩ := s
  have hI : INV N := hI
  have hg : ∀ k, k < 10 → g k < 2 := hg
  have hh := iv_h hI
  cases h1 : ned N g (N 1) with
  | none => rw [fs_0 (s := (N, g)) h1] at h; cases h
  | some p =>
    obtain ⟨p1, p2, p3⟩ := ned_is h1
    have hT := iv_q hI p (by omega)
    cases h2 : best N p (N 0) with
    | some i =>
      rw [fs_1 (s := (N, g)) h1 h2] at h
      cases h
      obtain ⟨i1, i2⟩ := best_is h2
      obtain ⟨w1, w2, w3, w4, w5⟩ := why_0 i2
      have hs : N (952 + 9 * p + 5) < 3 := by omega
      have a1 := INV_st hI i1 p1 w2 hs w1
      have lo : ∀ k, k ≠ 4 → up (stN N i p) 4 (N 4 + 1) k = stN N i p k := fun k hk => up_ne hk
      have a2 : INV (up (stN N i p) 4 (N 4 + 1)) := INV_ag a1 (fun k hk => lo k (by omega))
      refine ⟨a2, hg, (lo 0 (by omega)).trans (stN_lo (by omega)), (lo 1 (by omega)).trans (stN_lo (by omega)), ?_, ?_⟩
      · show N 4 ≤ up (stN N i p) 4 (N 4 + 1) 4
        rw [up_eq rfl]; omega
      · have e1 : up (stN N i p) 4 (N 4 + 1) 1 = N 1 := (lo 1 (by omega)).trans (stN_lo (by omega))
        show lk (up (stN N i p) 4 (N 4 + 1)) (up (stN N i p) 4 (N 4 + 1) 1) + sm _ (up (stN N i p) 4 (N 4 + 1) 1) < lk N (N 1) + sm _ (N 1)
        rw [e1]
        have e2 := sm_ch (f := fun q => 3 - up (stN N i p) 4 (N 4 + 1) (952 + 9 * q + 5)) (g := fun q => 3 - N (952 + 9 * q + 5)) p1 (fun k hk hkp => by
          show 3 - up (stN N i p) 4 (N 4 + 1) (952 + 9 * k + 5) = 3 - N (952 + 9 * k + 5)
          rw [lo _ (by omega), stN_ne hkp (by omega) hs])
        rw [lo (952 + 9 * p + 5) (by omega), stN_5] at e2
        unfold lk
        dsimp only
        omega
    | none =>
      cases h3 : mvs N p with
      | none =>
        rw [fs_3 (s := (N, g)) h1 h2 h3] at h
        cases h
        refine ⟨hI, ?_, rfl, rfl, Nat.le_refl _, ?_⟩
        · intro k hk
          have := hg k hk
          show up g p 1 k < 2
          unfold up
          split <;> omega
        · show lk N (N 1) + sm (fun q => if up g p 1 q = 0 then 1 else 0) (N 1) < lk N (N 1) + sm (fun q => if g q = 0 then 1 else 0) (N 1)
          have e2 := sm_ch (f := fun q => if up g p 1 q = 0 then 1 else 0) (g := fun q => if g q = 0 then 1 else 0) p1 (fun k hk hkp => by
            show (if up g p 1 k = 0 then 1 else 0) = (if g k = 0 then 1 else 0)
            rw [up_ne hkp])
          rw [up_eq rfl, if_pos p2, if_neg (by omega)] at e2
          omega
      | some N' =>
        rw [fs_2 (s := (N, g)) h1 h2 h3] at h
        cases h
        obtain ⟨t, -, t1, t2⟩ := foF_in h3
        by_cases t3 : why N t p = 5
        · have t2 : mvf N t p = some N' := (if_pos t3).symm.trans t2
          obtain ⟨q, -, q1, q2⟩ := foF_in t2
          by_cases q3 : q ≠ p ∧ sP N q t < N (952 + 9 * q + 5) ∧ N (8 + 59 * t + (23 + q)) = 0
          · cases q4 : oth N t q with
            | none => rw [mvq_1 q3 q4] at q2; cases q2
            | some u =>
              rw [mvq_2 q3 q4] at q2
              cases q2
              have t1 : t < N 0 := by omega
              have q1 : q < N 1 := by omega
              obtain ⟨i1, i2, i3, i4, i5, i6⟩ := mv_ok hI t1 p1 q1 q3.1 t3 q3.2.1 q4
              have lo : ∀ k, k ≠ 4 → k ≠ 5 → mvN N t p q u k = stN (stN (lvN N t q) u q) t p k := fun k h4 h5 => by unfold mvN; rw [up_ne h5, up_ne h4]
              have a2 : INV (mvN N t p q u) := INV_ag i3 (fun k hk => lo k (by omega) (by omega))
              have e1 : mvN N t p q u 1 = N 1 := (lo 1 (by omega) (by omega)).trans (i6 1 (by omega))
              refine ⟨a2, hg, (lo 0 (by omega) (by omega)).trans (i6 0 (by omega)), e1, ?_, ?_⟩
              · show N 4 ≤ mvN N t p q u 4
                unfold mvN
                rw [up_ne (by omega), up_eq rfl]; omega
              · show lk (mvN N t p q u) (mvN N t p q u 1) + sm _ (mvN N t p q u 1) < lk N (N 1) + sm _ (N 1)
                rw [e1]
                have hq16 : q < 10 := by omega
                have ht16 : t < 16 := by omega
                have hqp : q ≠ p := q3.1
                have e5 : ∀ k, k < N 1 → mvN N t p q u (952 + 9 * k + 5) = if k = p then N (952 + 9 * k + 5) + 1 else N (952 + 9 * k + 5) := by
                  intro k hk
                  rw [lo _ (by omega) (by omega)]
                  by_cases hkp : k = p
                  · subst hkp
                    rw [if_pos rfl, stN_5, stN_ne (fun h => hqp h.symm) (by omega) i4, lvN_ne ht16 hq16 (fun h => hqp h.symm) (by omega) (iv_q hI q hq16).2.2]
                  · rw [if_neg hkp, stN_ne hkp (by omega) i5]
                    by_cases hkq : k = q
                    · subst hkq
                      have := q3.2.1
                      rw [stN_5, lvN_5 ht16 hq16]
                      omega
                    · rw [stN_ne hkq (by omega) i4, lvN_ne ht16 hq16 hkq (by omega) (iv_q hI q hq16).2.2]
                have e2 := sm_ch (f := fun q' => 3 - mvN N t p q u (952 + 9 * q' + 5)) (g := fun q => 3 - N (952 + 9 * q + 5)) p1 (fun k hk hkp => by
                  show 3 - mvN N t p q u (952 + 9 * k + 5) = 3 - N (952 + 9 * k + 5)
                  rw [e5 k hk, if_neg hkp])
                rw [e5 p p1, if_pos rfl] at e2
                unfold lk
                dsimp only
                omega
          · rw [mvq_0 q3] at q2; cases q2
        · have t2 : none = some N' := (if_neg t3).symm.trans t2
          cases t2
theorem mz_le {s : (Nat → Nat) × (Nat → Nat)} (hI : INV s.1) : mz s ≤ 40 := by
  have hh := iv_h hI
  have h1 := sm_le (f := fun q => 3 - s.1 (952 + 9 * q + 5)) (B := 3) (s.1 1) (fun k _ => by (try dsimp only); omega)
  have h2 := sm_le (f := fun p => if s.2 p = 0 then 1 else 0) (B := 1) (s.1 1) (fun k _ => by (try dsimp only); split <;> omega)
  unfold mz lk
  omega
/-- the invariant along filling -/
theorem itf_ok {s : (Nat → Nat) × (Nat → Nat)} (hI : INV s.1) (hg : ∀ k, k < 10 → s.2 k < 2) (k : Nat) : INV (itf s k).1 ∧ (∀ j, j < 10 → (itf s k).2 j < 2) ∧ (itf s k).1 0 = s.1 0 ∧ (itf s k).1 1 = s.1 1 ∧ s.1 4 ≤ (itf s k).1 4 ∧ (fs (itf s k) = none ∨ mz (itf s k) + k ≤ mz s) := by
  induction k with
  | zero => exact ⟨hI, hg, rfl, rfl, Nat.le_refl _, Or.inr (Nat.le_refl _)⟩
  | succ k ih =>
    obtain ⟨h1, h2, h3, h4, h5, h6⟩ := ih
    cases h : fs (itf s k) with
    | none => rw [itf_n h]; exact ⟨h1, h2, h3, h4, h5, Or.inl h⟩
    | some s' =>
      rw [itf_s h]
      obtain ⟨a1, a2, a3, a4, a5, a6⟩ := fs_ok h1 h2 h
      refine ⟨a1, a2, a3.trans h3, a4.trans h4, by omega, Or.inr ?_⟩
      rcases h6 with h6 | h6
      · rw [h] at h6; cases h6
      · omega
theorem itf_end {s : (Nat → Nat) × (Nat → Nat)} (hI : INV s.1) (hg : ∀ k, k < 10 → s.2 k < 2) : fs (itf s 41) = none := by
  have h1 := mz_le hI
  rcases (itf_ok hI hg 41).2.2.2.2.2 with h | h
  · exact h
  · omega
theorem itf_ex {s : (Nat → Nat) × (Nat → Nat)} (hI : INV s.1) (hg : ∀ k, k < 10 → s.2 k < 2) : ∃ n, n ≤ 41 ∧ fs (itf s n) = none ∧ itf s n = itf s 41 ∧ ∀ k, k < n → ∃ s', fs (itf s k) = some s' := by
  have key : ∀ m, fs (itf s m) = none → ∃ n, n ≤ m ∧ fs (itf s n) = none ∧ ∀ k, k < n → ∃ s', fs (itf s k) = some s' := by
    intro m
    induction m with
    | zero => exact fun h => ⟨0, Nat.le_refl 0, h, fun k hk => absurd hk (Nat.not_lt_zero k)⟩
    | succ m ih =>
      intro h
      cases h1 : fs (itf s m) with
      | none =>
        obtain ⟨n, a, b, c⟩ := ih h1
        exact ⟨n, by omega, b, c⟩
      | some s' =>
        refine ⟨m + 1, Nat.le_refl _, h, fun k hk => ?_⟩
        cases h2 : fs (itf s k) with
        | some s'' => exact ⟨s'', rfl⟩
        | none =>
          rw [itf_st h2 (show k ≤ m by omega), h2] at h1
          cases h1
  obtain ⟨n, a, b, c⟩ := key 41 (itf_end hI hg)
  exact ⟨n, a, b, (itf_st b a).symm, c⟩
end MFill2
