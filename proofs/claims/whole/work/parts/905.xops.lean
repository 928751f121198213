/-! ===== the class: what items do to a panel ===== -/
section XOps
variable {G : ev_G} {N : Nat → Nat} {μ μ' : ev_M} {p : Nat}
theorem why_z {i q : Nat} (h : why N i q = 0) : N (8 + 59 * i + 1) ≠ 0 ∧ ¬ sP N q i < N (952 + 9 * q + 5) ∧ cf N i q = 0 ∧ N (952 + 9 * q + 5) ≠ 3 := by
  unfold why at h
  by_cases a : N (8 + 59 * i + 1) = 0
  · rw [if_pos a] at h; omega
  · rw [if_neg a] at h
    by_cases b : sP N q i < N (952 + 9 * q + 5)
    · rw [if_pos b] at h; omega
    · rw [if_neg b] at h
      by_cases c : cf N i q ≠ 0
      · rw [if_pos c] at h; omega
      · rw [if_neg c] at h
        by_cases d : N (952 + 9 * q + 5) = 3
        · rw [if_pos d] at h; omega
        · exact ⟨a, b, by omega, d⟩
/-- cooks who are joined -/
def jcN (N : Nat → Nat) (i j : Nat) : Nat → Nat := up (up N (8 + 59 * i + (43 + j)) 1) (8 + 59 * j + (43 + i)) 1
def x_jc (p i j : Nat) (μ : ev_M) : ev_M := w1 (w1 μ (p + 8) (i * 16 + j) (nI 1)) (p + 8) (j * 16 + i) (nI 1)
theorem m_X4_joinCooks (hok : ev_ok sh_S G) (hp : p ∈ sh_B) {i j : Nat} (hi : i < 16) (hj : j < 16) : ev_T sh_S G mi_X4_joinCooks [.ref p, .int (nI i), .int (nI j)] μ (.inl (none, x_jc p i j μ)) := by
  have hlt := xp_lt hp
  have h1 := m_X8_set (μ := μ) hok (sh_T7 hp) (xp_t7 hp) hi hj (nI 1)
  have h2 := m_X8_set (μ := w1 μ (p + 8) (i * 16 + j) (nI 1)) hok (sh_T7 hp) (xp_t7 hp) hj hi (nI 1)
  unfold x_jc
  refine ev_tri hok okM_X4_joinCooks (Nat.le_of_ble_eq_true rfl) 400 ?_
  rw [at_X4_joinCooks_0]
  repeat' (first
    | (with_reducible refine ev_rid ?_; simp (disch := first | omega | assumption) only [ev_run_c, ev_run_n, ev_fj, ev_stp, ev_lk, ev_fv, ev_as, ev_sz, ev_st1, ev_st2, ev_rm, ev_pk, ev_Jof, ev_go, lv_args, List.map_cons, List.map_nil, List.zip_cons_cons, List.zip_nil_left, List.zip_nil_right, List.nil_append, List.cons_append, ↓reduceIte, reduceCtorEq, Int.reduceToNat, Nat.reduceEqDiff, Nat.reduceAdd, Nat.reduceLT, Nat.reduceLeDiff, Nat.reduceMul, Nat.reduceSub, Value.category, false_implies, true_and, and_true, Bool.false_eq_true, Option.some.injEq, exists_eq_left', Option.toList_some, Option.toList_none, ev_km, ev_k2, ev_k3, ev_k4, ev_k5, ev_l0, ev_l1, sh_1, sh_2, sh_3, sh_4, sh_5, ca_X4_135, cd_X4_joinCooks_0, fl_X4_34, no_0, no_1, no_lt, no_le, no_eq, no_lt0, no_ge0, no_gt0, no_le0, no_eq0, no_0eq, no_eqm, no_meq, no_m0, no_mlt, no_mge, no_mgt, no_mm, no_i01, no_i10, no_in, no_or, no_ifm, no_mul, nI_add, no_sub, pk_div, iI_if, nI_clamp, oI_n, oI_s, not_true_eq_false, not_false_eq_true, forall_const, true_implies, false_and, and_false, or_false, false_or, Classical.not_not, true_or, or_true, no_b, no_eq1, eq_self, and_self, xk_0 hp, xk_1 hp, xk_2 hp, xk_3 hp, xk_4 hp, xk_5 hp, xk_6 hp, xk_7 hp, xk_8 hp, xk_9 hp, xk_10 hp, xk_11 hp, xk_12 hp, xk_13 hp, xk_14 hp, xk_15 hp, xk_16 hp, xk_17 hp, xk_18 hp, xk_19 hp, xk_20 hp, xk_21 hp, xl_1 hp, xl_2 hp, xl_3 hp, xl_4 hp, xl_6 hp, xl_8 hp, xl_10 hp, xl_12 hp, xl_14 hp, xl_15 hp, xl_17 hp, xl_18 hp, xl_21 hp, xp_7 hp, xp_8 hp, xp_9 hp, xp_10 hp, xp_11 hp, xp_12 hp, xp_13 hp, xp_14 hp, xp_15 hp, xp_16 hp, xp_17 hp, xp_t5 hp, xp_t7 hp, xp_t9 hp, xp_t11 hp, xp_t20 hp, xp_s19 hp, xp_a13 hp, xp_b13 hp, xp_a16 hp, xp_b16 hp, xc_r5 hp, xc_c5 hp, xc_r7 hp, xc_c7 hp, xc_r9 hp, xc_c9 hp, xc_r11 hp, xc_c11 hp, xc_r20 hp, xc_c20 hp, no_on])
    | (with_reducible refine ev_gid ?_; simp (disch := first | omega | assumption) only [ev_run_c, ev_run_n, ev_fj, ev_stp, ev_lk, ev_fv, ev_as, ev_sz, ev_st1, ev_st2, ev_rm, ev_pk, ev_Jof, ev_go, lv_args, List.map_cons, List.map_nil, List.zip_cons_cons, List.zip_nil_left, List.zip_nil_right, List.nil_append, List.cons_append, ↓reduceIte, reduceCtorEq, Int.reduceToNat, Nat.reduceEqDiff, Nat.reduceAdd, Nat.reduceLT, Nat.reduceLeDiff, Nat.reduceMul, Nat.reduceSub, Value.category, false_implies, true_and, and_true, Bool.false_eq_true, Option.some.injEq, exists_eq_left', Option.toList_some, Option.toList_none, ev_km, ev_k2, ev_k3, ev_k4, ev_k5, ev_l0, ev_l1, sh_1, sh_2, sh_3, sh_4, sh_5, ca_X4_135, cd_X4_joinCooks_0, fl_X4_34, no_0, no_1, no_lt, no_le, no_eq, no_lt0, no_ge0, no_gt0, no_le0, no_eq0, no_0eq, no_eqm, no_meq, no_m0, no_mlt, no_mge, no_mgt, no_mm, no_i01, no_i10, no_in, no_or, no_ifm, no_mul, nI_add, no_sub, pk_div, iI_if, nI_clamp, oI_n, oI_s, not_true_eq_false, not_false_eq_true, forall_const, true_implies, false_and, and_false, or_false, false_or, Classical.not_not, true_or, or_true, no_b, no_eq1, eq_self, and_self, xk_0 hp, xk_1 hp, xk_2 hp, xk_3 hp, xk_4 hp, xk_5 hp, xk_6 hp, xk_7 hp, xk_8 hp, xk_9 hp, xk_10 hp, xk_11 hp, xk_12 hp, xk_13 hp, xk_14 hp, xk_15 hp, xk_16 hp, xk_17 hp, xk_18 hp, xk_19 hp, xk_20 hp, xk_21 hp, xl_1 hp, xl_2 hp, xl_3 hp, xl_4 hp, xl_6 hp, xl_8 hp, xl_10 hp, xl_12 hp, xl_14 hp, xl_15 hp, xl_17 hp, xl_18 hp, xl_21 hp, xp_7 hp, xp_8 hp, xp_9 hp, xp_10 hp, xp_11 hp, xp_12 hp, xp_13 hp, xp_14 hp, xp_15 hp, xp_16 hp, xp_17 hp, xp_t5 hp, xp_t7 hp, xp_t9 hp, xp_t11 hp, xp_t20 hp, xp_s19 hp, xp_a13 hp, xp_b13 hp, xp_a16 hp, xp_b16 hp, xc_r5 hp, xc_c5 hp, xc_r7 hp, xc_c7 hp, xc_r9 hp, xc_c9 hp, xc_r11 hp, xc_c11 hp, xc_r20 hp, xc_c20 hp, no_on])
    | (with_reducible refine And.intro (fun q => ?_) (fun q => ?_) <;> (try simp (disch := first | omega | assumption) only [no_0, no_1, no_lt, no_le, no_eq, no_lt0, no_ge0, no_gt0, no_le0, no_eq0, no_0eq, no_eqm, no_meq, no_m0, no_mlt, no_mge, no_mgt, no_mm, no_i01, no_i10, no_in, no_or, no_ifm, no_mul, nI_add, no_sub, pk_div, iI_if, nI_clamp, oI_n, oI_s, not_true_eq_false, not_false_eq_true, forall_const, true_implies, false_and, and_false, or_false, false_or, Classical.not_not, true_or, or_true, no_b, no_eq1, eq_self, and_self, xk_0 hp, xk_1 hp, xk_2 hp, xk_3 hp, xk_4 hp, xk_5 hp, xk_6 hp, xk_7 hp, xk_8 hp, xk_9 hp, xk_10 hp, xk_11 hp, xk_12 hp, xk_13 hp, xk_14 hp, xk_15 hp, xk_16 hp, xk_17 hp, xk_18 hp, xk_19 hp, xk_20 hp, xk_21 hp, xl_1 hp, xl_2 hp, xl_3 hp, xl_4 hp, xl_6 hp, xl_8 hp, xl_10 hp, xl_12 hp, xl_14 hp, xl_15 hp, xl_17 hp, xl_18 hp, xl_21 hp, xp_7 hp, xp_8 hp, xp_9 hp, xp_10 hp, xp_11 hp, xp_12 hp, xp_13 hp, xp_14 hp, xp_15 hp, xp_16 hp, xp_17 hp, xp_t5 hp, xp_t7 hp, xp_t9 hp, xp_t11 hp, xp_t20 hp, xp_s19 hp, xp_a13 hp, xp_b13 hp, xp_a16 hp, xp_b16 hp, xc_r5 hp, xc_c5 hp, xc_r7 hp, xc_c7 hp, xc_r9 hp, xc_c9 hp, xc_r11 hp, xc_c11 hp, xc_r20 hp, xc_c20 hp, no_on] at q))
    | (with_reducible refine ev_ci h1 ?_)
    | (with_reducible refine ev_ci h2 ?_)
    | with_reducible refine ev_ci (m_X8_set hok (sh_T20 hp) (xp_t20 hp) ?_ ?_ _) ?_
    | omega
    | with_reducible assumption
    | with_reducible rfl
    | (refine Nat.lt_of_lt_of_le ?_ (Nat.le_refl 312); omega)
    | with_reducible refine lp_nx ?_ ?_ ?_ ?_
    | with_reducible refine lp_st ?_ ?_ ?_
    | with_reducible refine ls_c ?_ ?_
    | with_reducible refine vi_c ?_
    | with_reducible refine re_c ?_
    | with_reducible refine vz_c ?_
    | with_reducible refine rz_c ?_
    | exact trivial
    | with_reducible refine And.intro ?_ ?_
    | simp (disch := first | omega | assumption) only [ev_run_c, ev_run_n, ev_fj, ev_stp, ev_lk, ev_fv, ev_as, ev_sz, ev_st1, ev_st2, ev_rm, ev_pk, ev_Jof, ev_go, lv_args, List.map_cons, List.map_nil, List.zip_cons_cons, List.zip_nil_left, List.zip_nil_right, List.nil_append, List.cons_append, ↓reduceIte, reduceCtorEq, Int.reduceToNat, Nat.reduceEqDiff, Nat.reduceAdd, Nat.reduceLT, Nat.reduceLeDiff, Nat.reduceMul, Nat.reduceSub, Value.category, false_implies, true_and, and_true, Bool.false_eq_true, Option.some.injEq, exists_eq_left', Option.toList_some, Option.toList_none, ev_km, ev_k2, ev_k3, ev_k4, ev_k5, ev_l0, ev_l1, sh_1, sh_2, sh_3, sh_4, sh_5, ca_X4_135, cd_X4_joinCooks_0, fl_X4_34, no_0, no_1, no_lt, no_le, no_eq, no_lt0, no_ge0, no_gt0, no_le0, no_eq0, no_0eq, no_eqm, no_meq, no_m0, no_mlt, no_mge, no_mgt, no_mm, no_i01, no_i10, no_in, no_or, no_ifm, no_mul, nI_add, no_sub, pk_div, iI_if, nI_clamp, oI_n, oI_s, not_true_eq_false, not_false_eq_true, forall_const, true_implies, false_and, and_false, or_false, false_or, Classical.not_not, true_or, or_true, no_b, no_eq1, eq_self, and_self, xk_0 hp, xk_1 hp, xk_2 hp, xk_3 hp, xk_4 hp, xk_5 hp, xk_6 hp, xk_7 hp, xk_8 hp, xk_9 hp, xk_10 hp, xk_11 hp, xk_12 hp, xk_13 hp, xk_14 hp, xk_15 hp, xk_16 hp, xk_17 hp, xk_18 hp, xk_19 hp, xk_20 hp, xk_21 hp, xl_1 hp, xl_2 hp, xl_3 hp, xl_4 hp, xl_6 hp, xl_8 hp, xl_10 hp, xl_12 hp, xl_14 hp, xl_15 hp, xl_17 hp, xl_18 hp, xl_21 hp, xp_7 hp, xp_8 hp, xp_9 hp, xp_10 hp, xp_11 hp, xp_12 hp, xp_13 hp, xp_14 hp, xp_15 hp, xp_16 hp, xp_17 hp, xp_t5 hp, xp_t7 hp, xp_t9 hp, xp_t11 hp, xp_t20 hp, xp_s19 hp, xp_a13 hp, xp_b13 hp, xp_a16 hp, xp_b16 hp, xc_r5 hp, xc_c5 hp, xc_r7 hp, xc_c7 hp, xc_r9 hp, xc_c9 hp, xc_r11 hp, xc_c11 hp, xc_r20 hp, xc_c20 hp, no_on]
    | exact rfl
    | (split <;> omega))
theorem PR_jc (hP : PR p N μ) (hI : INV N) {i j : Nat} (hi : i < 16) (hj : j < 16) : PR p (jcN N i j) (x_jc p i j μ) := by
  have hh := iv_h hI
  have hl : ∀ k, k < 16 → N (8 + 59 * k + 6) ≤ 6 := fun k hk => (iv_p hI k hk).2
  refine PR_stg (PR_stg hP hl hi hj hh.1 hh.2.1) (fun k hk => ?_) hj hi ?_ ?_
  · rw [up_ne (by omega)]; exact hl k hk
  · rw [up_ne (by omega)]; exact hh.1
  · rw [up_ne (by omega)]; exact hh.2.1
theorem Fp_jc {i j : Nat} : Fp p μ (x_jc p i j μ) := Fp_w1 (Fp_w1 Fp_rf (by omega) (by omega)) (by omega) (by omega)
/-- topics that change places -/
def swN (N : Nat → Nat) (q r : Nat) : Nat → Nat := up (up N (952 + 9 * q + 0) (N (952 + 9 * r + 0))) (952 + 9 * r + 0) (N (952 + 9 * q + 0))
def x_sw (p q r : Nat) (N : Nat → Nat) (μ : ev_M) : ev_M := w1 (w1 μ (p + 4) q (nI (N (952 + 9 * r + 0)))) (p + 4) r (nI (N (952 + 9 * q + 0)))
theorem m_X4_swapTopics (hok : ev_ok sh_S G) (hp : p ∈ sh_B) (hP : PR p N μ) {q r : Nat} (hq : q < 10) (hr : r < 10) : ev_T sh_S G mi_X4_swapTopics [.ref p, .int (nI q), .int (nI r)] μ (.inl (none, x_sw p q r N μ)) := by
  have hlt := xp_lt hp
  have h1 := m_cell_to hok hp hP hq
  have h2 := m_cell_to hok hp hP hr
  unfold x_sw
  refine ev_tri hok okM_X4_swapTopics (Nat.le_of_ble_eq_true rfl) 400 ?_
  rw [at_X4_swapTopics_0]
  repeat' (first
    | (with_reducible refine ev_rid ?_; simp (disch := first | omega | assumption) only [ev_run_c, ev_run_n, ev_fj, ev_stp, ev_lk, ev_fv, ev_as, ev_sz, ev_st1, ev_st2, ev_rm, ev_pk, ev_Jof, ev_go, lv_args, List.map_cons, List.map_nil, List.zip_cons_cons, List.zip_nil_left, List.zip_nil_right, List.nil_append, List.cons_append, ↓reduceIte, reduceCtorEq, Int.reduceToNat, Nat.reduceEqDiff, Nat.reduceAdd, Nat.reduceLT, Nat.reduceLeDiff, Nat.reduceMul, Nat.reduceSub, Value.category, false_implies, true_and, and_true, Bool.false_eq_true, Option.some.injEq, exists_eq_left', Option.toList_some, Option.toList_none, ev_km, ev_k2, ev_k3, ev_k4, ev_k5, ev_l0, ev_l1, sh_1, sh_2, sh_3, sh_4, sh_5, ca_X4_127, ca_X4_131, cd_X4_swapTopics_0, fl_X4_22, no_0, no_1, no_lt, no_le, no_eq, no_lt0, no_ge0, no_gt0, no_le0, no_eq0, no_0eq, no_eqm, no_meq, no_m0, no_mlt, no_mge, no_mgt, no_mm, no_i01, no_i10, no_in, no_or, no_ifm, no_mul, nI_add, no_sub, pk_div, iI_if, nI_clamp, oI_n, oI_s, not_true_eq_false, not_false_eq_true, forall_const, true_implies, false_and, and_false, or_false, false_or, Classical.not_not, true_or, or_true, no_b, no_eq1, eq_self, and_self, xk_0 hp, xk_1 hp, xk_2 hp, xk_3 hp, xk_4 hp, xk_5 hp, xk_6 hp, xk_7 hp, xk_8 hp, xk_9 hp, xk_10 hp, xk_11 hp, xk_12 hp, xk_13 hp, xk_14 hp, xk_15 hp, xk_16 hp, xk_17 hp, xk_18 hp, xk_19 hp, xk_20 hp, xk_21 hp, xl_1 hp, xl_2 hp, xl_3 hp, xl_4 hp, xl_6 hp, xl_8 hp, xl_10 hp, xl_12 hp, xl_14 hp, xl_15 hp, xl_17 hp, xl_18 hp, xl_21 hp, xp_7 hp, xp_8 hp, xp_9 hp, xp_10 hp, xp_11 hp, xp_12 hp, xp_13 hp, xp_14 hp, xp_15 hp, xp_16 hp, xp_17 hp, xp_t5 hp, xp_t7 hp, xp_t9 hp, xp_t11 hp, xp_t20 hp, xp_s19 hp, xp_a13 hp, xp_b13 hp, xp_a16 hp, xp_b16 hp, xc_r5 hp, xc_c5 hp, xc_r7 hp, xc_c7 hp, xc_r9 hp, xc_c9 hp, xc_r11 hp, xc_c11 hp, xc_r20 hp, xc_c20 hp, no_on])
    | (with_reducible refine ev_gid ?_; simp (disch := first | omega | assumption) only [ev_run_c, ev_run_n, ev_fj, ev_stp, ev_lk, ev_fv, ev_as, ev_sz, ev_st1, ev_st2, ev_rm, ev_pk, ev_Jof, ev_go, lv_args, List.map_cons, List.map_nil, List.zip_cons_cons, List.zip_nil_left, List.zip_nil_right, List.nil_append, List.cons_append, ↓reduceIte, reduceCtorEq, Int.reduceToNat, Nat.reduceEqDiff, Nat.reduceAdd, Nat.reduceLT, Nat.reduceLeDiff, Nat.reduceMul, Nat.reduceSub, Value.category, false_implies, true_and, and_true, Bool.false_eq_true, Option.some.injEq, exists_eq_left', Option.toList_some, Option.toList_none, ev_km, ev_k2, ev_k3, ev_k4, ev_k5, ev_l0, ev_l1, sh_1, sh_2, sh_3, sh_4, sh_5, ca_X4_127, ca_X4_131, cd_X4_swapTopics_0, fl_X4_22, no_0, no_1, no_lt, no_le, no_eq, no_lt0, no_ge0, no_gt0, no_le0, no_eq0, no_0eq, no_eqm, no_meq, no_m0, no_mlt, no_mge, no_mgt, no_mm, no_i01, no_i10, no_in, no_or, no_ifm, no_mul, nI_add, no_sub, pk_div, iI_if, nI_clamp, oI_n, oI_s, not_true_eq_false, not_false_eq_true, forall_const, true_implies, false_and, and_false, or_false, false_or, Classical.not_not, true_or, or_true, no_b, no_eq1, eq_self, and_self, xk_0 hp, xk_1 hp, xk_2 hp, xk_3 hp, xk_4 hp, xk_5 hp, xk_6 hp, xk_7 hp, xk_8 hp, xk_9 hp, xk_10 hp, xk_11 hp, xk_12 hp, xk_13 hp, xk_14 hp, xk_15 hp, xk_16 hp, xk_17 hp, xk_18 hp, xk_19 hp, xk_20 hp, xk_21 hp, xl_1 hp, xl_2 hp, xl_3 hp, xl_4 hp, xl_6 hp, xl_8 hp, xl_10 hp, xl_12 hp, xl_14 hp, xl_15 hp, xl_17 hp, xl_18 hp, xl_21 hp, xp_7 hp, xp_8 hp, xp_9 hp, xp_10 hp, xp_11 hp, xp_12 hp, xp_13 hp, xp_14 hp, xp_15 hp, xp_16 hp, xp_17 hp, xp_t5 hp, xp_t7 hp, xp_t9 hp, xp_t11 hp, xp_t20 hp, xp_s19 hp, xp_a13 hp, xp_b13 hp, xp_a16 hp, xp_b16 hp, xc_r5 hp, xc_c5 hp, xc_r7 hp, xc_c7 hp, xc_r9 hp, xc_c9 hp, xc_r11 hp, xc_c11 hp, xc_r20 hp, xc_c20 hp, no_on])
    | (with_reducible refine And.intro (fun q => ?_) (fun q => ?_) <;> (try simp (disch := first | omega | assumption) only [no_0, no_1, no_lt, no_le, no_eq, no_lt0, no_ge0, no_gt0, no_le0, no_eq0, no_0eq, no_eqm, no_meq, no_m0, no_mlt, no_mge, no_mgt, no_mm, no_i01, no_i10, no_in, no_or, no_ifm, no_mul, nI_add, no_sub, pk_div, iI_if, nI_clamp, oI_n, oI_s, not_true_eq_false, not_false_eq_true, forall_const, true_implies, false_and, and_false, or_false, false_or, Classical.not_not, true_or, or_true, no_b, no_eq1, eq_self, and_self, xk_0 hp, xk_1 hp, xk_2 hp, xk_3 hp, xk_4 hp, xk_5 hp, xk_6 hp, xk_7 hp, xk_8 hp, xk_9 hp, xk_10 hp, xk_11 hp, xk_12 hp, xk_13 hp, xk_14 hp, xk_15 hp, xk_16 hp, xk_17 hp, xk_18 hp, xk_19 hp, xk_20 hp, xk_21 hp, xl_1 hp, xl_2 hp, xl_3 hp, xl_4 hp, xl_6 hp, xl_8 hp, xl_10 hp, xl_12 hp, xl_14 hp, xl_15 hp, xl_17 hp, xl_18 hp, xl_21 hp, xp_7 hp, xp_8 hp, xp_9 hp, xp_10 hp, xp_11 hp, xp_12 hp, xp_13 hp, xp_14 hp, xp_15 hp, xp_16 hp, xp_17 hp, xp_t5 hp, xp_t7 hp, xp_t9 hp, xp_t11 hp, xp_t20 hp, xp_s19 hp, xp_a13 hp, xp_b13 hp, xp_a16 hp, xp_b16 hp, xc_r5 hp, xc_c5 hp, xc_r7 hp, xc_c7 hp, xc_r9 hp, xc_c9 hp, xc_r11 hp, xc_c11 hp, xc_r20 hp, xc_c20 hp, no_on] at q))
    | (with_reducible refine ev_ci h1 ?_)
    | (with_reducible refine ev_ci h2 ?_)
    | with_reducible refine ev_ci (m_cell_to hok hp (by with_reducible assumption) ?_) ?_
    | with_reducible refine ev_ci (m_cell_li hok hp (by with_reducible assumption) ?_) ?_
    | with_reducible refine ev_ci (m_cell_ki hok hp (by with_reducible assumption) ?_) ?_
    | with_reducible refine ev_ci (m_X10_setCell hok ?_ ?_ ?_ ?_ _) ?_
    | omega
    | with_reducible assumption
    | with_reducible rfl
    | (refine Nat.lt_of_lt_of_le ?_ (Nat.le_refl 312); omega)
    | with_reducible refine lp_nx ?_ ?_ ?_ ?_
    | with_reducible refine lp_st ?_ ?_ ?_
    | with_reducible refine ls_c ?_ ?_
    | with_reducible refine vi_c ?_
    | with_reducible refine re_c ?_
    | with_reducible refine vz_c ?_
    | with_reducible refine rz_c ?_
    | exact trivial
    | with_reducible refine And.intro ?_ ?_
    | simp (disch := first | omega | assumption) only [ev_run_c, ev_run_n, ev_fj, ev_stp, ev_lk, ev_fv, ev_as, ev_sz, ev_st1, ev_st2, ev_rm, ev_pk, ev_Jof, ev_go, lv_args, List.map_cons, List.map_nil, List.zip_cons_cons, List.zip_nil_left, List.zip_nil_right, List.nil_append, List.cons_append, ↓reduceIte, reduceCtorEq, Int.reduceToNat, Nat.reduceEqDiff, Nat.reduceAdd, Nat.reduceLT, Nat.reduceLeDiff, Nat.reduceMul, Nat.reduceSub, Value.category, false_implies, true_and, and_true, Bool.false_eq_true, Option.some.injEq, exists_eq_left', Option.toList_some, Option.toList_none, ev_km, ev_k2, ev_k3, ev_k4, ev_k5, ev_l0, ev_l1, sh_1, sh_2, sh_3, sh_4, sh_5, ca_X4_127, ca_X4_131, cd_X4_swapTopics_0, fl_X4_22, no_0, no_1, no_lt, no_le, no_eq, no_lt0, no_ge0, no_gt0, no_le0, no_eq0, no_0eq, no_eqm, no_meq, no_m0, no_mlt, no_mge, no_mgt, no_mm, no_i01, no_i10, no_in, no_or, no_ifm, no_mul, nI_add, no_sub, pk_div, iI_if, nI_clamp, oI_n, oI_s, not_true_eq_false, not_false_eq_true, forall_const, true_implies, false_and, and_false, or_false, false_or, Classical.not_not, true_or, or_true, no_b, no_eq1, eq_self, and_self, xk_0 hp, xk_1 hp, xk_2 hp, xk_3 hp, xk_4 hp, xk_5 hp, xk_6 hp, xk_7 hp, xk_8 hp, xk_9 hp, xk_10 hp, xk_11 hp, xk_12 hp, xk_13 hp, xk_14 hp, xk_15 hp, xk_16 hp, xk_17 hp, xk_18 hp, xk_19 hp, xk_20 hp, xk_21 hp, xl_1 hp, xl_2 hp, xl_3 hp, xl_4 hp, xl_6 hp, xl_8 hp, xl_10 hp, xl_12 hp, xl_14 hp, xl_15 hp, xl_17 hp, xl_18 hp, xl_21 hp, xp_7 hp, xp_8 hp, xp_9 hp, xp_10 hp, xp_11 hp, xp_12 hp, xp_13 hp, xp_14 hp, xp_15 hp, xp_16 hp, xp_17 hp, xp_t5 hp, xp_t7 hp, xp_t9 hp, xp_t11 hp, xp_t20 hp, xp_s19 hp, xp_a13 hp, xp_b13 hp, xp_a16 hp, xp_b16 hp, xc_r5 hp, xc_c5 hp, xc_r7 hp, xc_c7 hp, xc_r9 hp, xc_c9 hp, xc_r11 hp, xc_c11 hp, xc_r20 hp, xc_c20 hp, no_on]
    | exact rfl
    | (split <;> omega))
theorem PR_sw (hP : PR p N μ) (hI : INV N) {q r : Nat} (hq : q < 10) (hr : r < 10) : PR p (swN N q r) (x_sw p q r N μ) := by
  have hh := iv_h hI
  have hl : ∀ k, k < 16 → N (8 + 59 * k + 6) ≤ 6 := fun k hk => (iv_p hI k hk).2
  have hc : ∀ q, q < 10 → N (952 + 9 * q + 1) ≤ 3 ∧ N (952 + 9 * q + 5) ≤ 3 := fun q hq => (iv_q hI q hq).2
  refine PR_sto (PR_sto hP hl hc hq hh.1 hh.2.1) (fun k hk => ?_) (fun k hk => ?_) hr ?_ ?_
  · rw [up_ne (by omega)]; exact hl k hk
  · rw [up_ne (by omega), up_ne (by omega)]; exact hc k hk
  · rw [up_ne (by omega)]; exact hh.1
  · rw [up_ne (by omega)]; exact hh.2.1
theorem Fp_sw {q r : Nat} : Fp p μ (x_sw p q r N μ) := Fp_w1 (Fp_w1 Fp_rf (by omega) (by omega)) (by omega) (by omega)
/-- bids that are copied -/
def cyN (N : Nat → Nat) (i j : Nat) : Nat → Nat → Nat
  | 0 => N
  | k + 1 => up (cyN N i j k) (8 + 59 * j + (13 + k)) (N (8 + 59 * i + (13 + k)))
theorem cyN_ne {i j k x : Nat} (h : x < 8 + 59 * j + 13 ∨ 8 + 59 * j + (13 + k) ≤ x) : cyN N i j k x = N x := by
  induction k with
  | zero => rfl
  | succ k ih =>
    show up (cyN N i j k) (8 + 59 * j + (13 + k)) (N (8 + 59 * i + (13 + k))) x = N x
    rw [up_ne (by omega)]
    exact ih (by omega)
theorem cyN_z (hI : INV N) {i j : Nat} (hi : i < 16) (hj : j < 16) {k : Nat} (h : N 1 ≤ k) (hk : k ≤ 10) : cyN N i j k = cyN N i j (N 1) := by
  induction k with
  | zero => rw [show N 1 = 0 by omega]
  | succ k ih =>
    by_cases c : N 1 = k + 1
    · rw [c]
    · have e := ih (by omega) (by omega)
      rw [← e]
      funext x
      show up (cyN N i j k) (8 + 59 * j + (13 + k)) (N (8 + 59 * i + (13 + k))) x = cyN N i j k x
      by_cases g : x = 8 + 59 * j + (13 + k)
      · rw [up_eq g, g, cyN_ne (by omega), (iv_z3 hI i k hi (by omega) (by omega)).1, (iv_z3 hI j k hj (by omega) (by omega)).1]
      · exact up_ne g
def xcb (p i j : Nat) (N : Nat → Nat) (μ : ev_M) : Nat → ev_M
  | 0 => μ
  | k + 1 => w1 (xcb p i j N μ k) (p + 10) (j * 10 + k) (nI (N (8 + 59 * i + (13 + k))))
theorem PR_cb (hP : PR p N μ) (hI : INV N) {i j k : Nat} (hj : j < 16) (hk : k ≤ 10) : PR p (cyN N i j k) (xcb p i j N μ k) := by
  have hh := iv_h hI
  induction k with
  | zero => exact hP
  | succ k ih =>
    refine PR_sbi (ih (by omega)) (fun x hx => ?_) hj (by omega) ?_ ?_
    · rw [cyN_ne (by omega)]; exact (iv_p hI x hx).2
    · rw [cyN_ne (by omega)]; exact hh.1
    · rw [cyN_ne (by omega)]; exact hh.2.1
theorem Fp_cb {i j k : Nat} (hk : k ≤ 10) : Fp p μ (xcb p i j N μ k) := by
  induction k with
  | zero => exact Fp_rf
  | succ k ih => exact Fp_w1 (ih (by omega)) (by omega) (by omega)
theorem m_X4_copyBids (hok : ev_ok sh_S G) (hp : p ∈ sh_B) (hP : PR p N μ) (hI : INV N) {i j : Nat} (hi : i < 16) (hj : j < 16) (hij : i ≠ j) : ev_T sh_S G mi_X4_copyBids [.ref p, .int (nI i), .int (nI j)] μ (.inl (none, xcb p i j N μ (N 1))) := by
  have hlt := xp_lt hp
  have hh := iv_h hI
  refine ev_tri1 hok okM_X4_copyBids (Nat.le_of_ble_eq_true rfl) 2 [0, 1, 2, 3] (N 1) 400 (fun k => [.ref p, .int (nI i), .int (nI j), .int (nI k)]) (fun k => xcb p i j N μ k) (fun _ => True) ?_ ?_
  · intro k hk _
    rw [at_X4_copyBids_2]
    have hPk := PR_cb hP hI (i := i) (k := k) hj (by omega)
    have hH := pr_h hPk
    have e1 : cyN N i j k 1 = N 1 := cyN_ne (by omega)
    rcases Nat.lt_or_ge k (N 1) with hkn | hkn
    · have h1 := m_get_bi hok hp hPk hi (show k < 10 by omega)
      rw [cyN_ne (by omega)] at h1
      have h2 := m_X8_set (μ := xcb p i j N μ k) hok (sh_T9 hp) (xp_t9 hp) hj (show k < 10 by omega) (nI (N (8 + 59 * i + (13 + k))))
      repeat' (first
        | (with_reducible refine ev_rid ?_; simp (disch := first | omega | assumption) only [ev_run_c, ev_run_n, ev_fj, ev_stp, ev_lk, ev_fv, ev_as, ev_sz, ev_st1, ev_st2, ev_rm, ev_pk, ev_Jof, ev_go, lv_args, List.map_cons, List.map_nil, List.zip_cons_cons, List.zip_nil_left, List.zip_nil_right, List.nil_append, List.cons_append, ↓reduceIte, reduceCtorEq, Int.reduceToNat, Nat.reduceEqDiff, Nat.reduceAdd, Nat.reduceLT, Nat.reduceLeDiff, Nat.reduceMul, Nat.reduceSub, Value.category, false_implies, true_and, and_true, Bool.false_eq_true, Option.some.injEq, exists_eq_left', Option.toList_some, Option.toList_none, ev_km, ev_k2, ev_k3, ev_k4, ev_k5, ev_l0, ev_l1, sh_1, sh_2, sh_3, sh_4, sh_5, at_X4_copyBids_2, at_X4_copyBids_34, ca_X4_135, ca_X4_139, cd_X4_copyBids_0, cd_X4_copyBids_2, cd_X4_copyBids_34, fl_X4_37, fl_X4_74, no_0, no_1, no_lt, no_le, no_eq, no_lt0, no_ge0, no_gt0, no_le0, no_eq0, no_0eq, no_eqm, no_meq, no_m0, no_mlt, no_mge, no_mgt, no_mm, no_i01, no_i10, no_in, no_or, no_ifm, no_mul, nI_add, no_sub, pk_div, iI_if, nI_clamp, oI_n, oI_s, not_true_eq_false, not_false_eq_true, forall_const, true_implies, false_and, and_false, or_false, false_or, Classical.not_not, true_or, or_true, no_b, no_eq1, eq_self, and_self, xk_0 hp, xk_1 hp, xk_2 hp, xk_3 hp, xk_4 hp, xk_5 hp, xk_6 hp, xk_7 hp, xk_8 hp, xk_9 hp, xk_10 hp, xk_11 hp, xk_12 hp, xk_13 hp, xk_14 hp, xk_15 hp, xk_16 hp, xk_17 hp, xk_18 hp, xk_19 hp, xk_20 hp, xk_21 hp, xl_1 hp, xl_2 hp, xl_3 hp, xl_4 hp, xl_6 hp, xl_8 hp, xl_10 hp, xl_12 hp, xl_14 hp, xl_15 hp, xl_17 hp, xl_18 hp, xl_21 hp, xp_7 hp, xp_8 hp, xp_9 hp, xp_10 hp, xp_11 hp, xp_12 hp, xp_13 hp, xp_14 hp, xp_15 hp, xp_16 hp, xp_17 hp, xp_t5 hp, xp_t7 hp, xp_t9 hp, xp_t11 hp, xp_t20 hp, xp_s19 hp, xp_a13 hp, xp_b13 hp, xp_a16 hp, xp_b16 hp, xc_r5 hp, xc_c5 hp, xc_r7 hp, xc_c7 hp, xc_r9 hp, xc_c9 hp, xc_r11 hp, xc_c11 hp, xc_r20 hp, xc_c20 hp, no_on, hH, e1])
        | (with_reducible refine ev_gid ?_; simp (disch := first | omega | assumption) only [ev_run_c, ev_run_n, ev_fj, ev_stp, ev_lk, ev_fv, ev_as, ev_sz, ev_st1, ev_st2, ev_rm, ev_pk, ev_Jof, ev_go, lv_args, List.map_cons, List.map_nil, List.zip_cons_cons, List.zip_nil_left, List.zip_nil_right, List.nil_append, List.cons_append, ↓reduceIte, reduceCtorEq, Int.reduceToNat, Nat.reduceEqDiff, Nat.reduceAdd, Nat.reduceLT, Nat.reduceLeDiff, Nat.reduceMul, Nat.reduceSub, Value.category, false_implies, true_and, and_true, Bool.false_eq_true, Option.some.injEq, exists_eq_left', Option.toList_some, Option.toList_none, ev_km, ev_k2, ev_k3, ev_k4, ev_k5, ev_l0, ev_l1, sh_1, sh_2, sh_3, sh_4, sh_5, at_X4_copyBids_2, at_X4_copyBids_34, ca_X4_135, ca_X4_139, cd_X4_copyBids_0, cd_X4_copyBids_2, cd_X4_copyBids_34, fl_X4_37, fl_X4_74, no_0, no_1, no_lt, no_le, no_eq, no_lt0, no_ge0, no_gt0, no_le0, no_eq0, no_0eq, no_eqm, no_meq, no_m0, no_mlt, no_mge, no_mgt, no_mm, no_i01, no_i10, no_in, no_or, no_ifm, no_mul, nI_add, no_sub, pk_div, iI_if, nI_clamp, oI_n, oI_s, not_true_eq_false, not_false_eq_true, forall_const, true_implies, false_and, and_false, or_false, false_or, Classical.not_not, true_or, or_true, no_b, no_eq1, eq_self, and_self, xk_0 hp, xk_1 hp, xk_2 hp, xk_3 hp, xk_4 hp, xk_5 hp, xk_6 hp, xk_7 hp, xk_8 hp, xk_9 hp, xk_10 hp, xk_11 hp, xk_12 hp, xk_13 hp, xk_14 hp, xk_15 hp, xk_16 hp, xk_17 hp, xk_18 hp, xk_19 hp, xk_20 hp, xk_21 hp, xl_1 hp, xl_2 hp, xl_3 hp, xl_4 hp, xl_6 hp, xl_8 hp, xl_10 hp, xl_12 hp, xl_14 hp, xl_15 hp, xl_17 hp, xl_18 hp, xl_21 hp, xp_7 hp, xp_8 hp, xp_9 hp, xp_10 hp, xp_11 hp, xp_12 hp, xp_13 hp, xp_14 hp, xp_15 hp, xp_16 hp, xp_17 hp, xp_t5 hp, xp_t7 hp, xp_t9 hp, xp_t11 hp, xp_t20 hp, xp_s19 hp, xp_a13 hp, xp_b13 hp, xp_a16 hp, xp_b16 hp, xc_r5 hp, xc_c5 hp, xc_r7 hp, xc_c7 hp, xc_r9 hp, xc_c9 hp, xc_r11 hp, xc_c11 hp, xc_r20 hp, xc_c20 hp, no_on, hH, e1])
        | (with_reducible refine And.intro (fun q => ?_) (fun q => ?_) <;> (try simp (disch := first | omega | assumption) only [no_0, no_1, no_lt, no_le, no_eq, no_lt0, no_ge0, no_gt0, no_le0, no_eq0, no_0eq, no_eqm, no_meq, no_m0, no_mlt, no_mge, no_mgt, no_mm, no_i01, no_i10, no_in, no_or, no_ifm, no_mul, nI_add, no_sub, pk_div, iI_if, nI_clamp, oI_n, oI_s, not_true_eq_false, not_false_eq_true, forall_const, true_implies, false_and, and_false, or_false, false_or, Classical.not_not, true_or, or_true, no_b, no_eq1, eq_self, and_self, xk_0 hp, xk_1 hp, xk_2 hp, xk_3 hp, xk_4 hp, xk_5 hp, xk_6 hp, xk_7 hp, xk_8 hp, xk_9 hp, xk_10 hp, xk_11 hp, xk_12 hp, xk_13 hp, xk_14 hp, xk_15 hp, xk_16 hp, xk_17 hp, xk_18 hp, xk_19 hp, xk_20 hp, xk_21 hp, xl_1 hp, xl_2 hp, xl_3 hp, xl_4 hp, xl_6 hp, xl_8 hp, xl_10 hp, xl_12 hp, xl_14 hp, xl_15 hp, xl_17 hp, xl_18 hp, xl_21 hp, xp_7 hp, xp_8 hp, xp_9 hp, xp_10 hp, xp_11 hp, xp_12 hp, xp_13 hp, xp_14 hp, xp_15 hp, xp_16 hp, xp_17 hp, xp_t5 hp, xp_t7 hp, xp_t9 hp, xp_t11 hp, xp_t20 hp, xp_s19 hp, xp_a13 hp, xp_b13 hp, xp_a16 hp, xp_b16 hp, xc_r5 hp, xc_c5 hp, xc_r7 hp, xc_c7 hp, xc_r9 hp, xc_c9 hp, xc_r11 hp, xc_c11 hp, xc_r20 hp, xc_c20 hp, no_on, hH, e1] at q))
        | (with_reducible refine ev_ci h1 ?_)
        | (with_reducible refine ev_ci h2 ?_)
        | with_reducible refine ev_ci (m_get_sc hok hp (by with_reducible assumption) ?_ ?_) ?_
        | with_reducible refine ev_ci (m_get_de hok hp (by with_reducible assumption) ?_ ?_) ?_
        | with_reducible refine ev_ci (m_get_bi hok hp (by with_reducible assumption) ?_ ?_) ?_
        | with_reducible refine ev_ci (m_get_tg hok hp (by with_reducible assumption) ?_ ?_) ?_
        | with_reducible refine ev_ci (m_get_ta hok hp (by with_reducible assumption) ?_ ?_) ?_
        | with_reducible refine ev_ci (m_X8_set hok (sh_T20 hp) (xp_t20 hp) ?_ ?_ _) ?_
        | omega
        | with_reducible assumption
        | with_reducible rfl
        | (refine Nat.lt_of_lt_of_le ?_ (Nat.le_refl 312); omega)
        | with_reducible refine lp_nx ?_ ?_ ?_ ?_
        | with_reducible refine lp_st ?_ ?_ ?_
        | with_reducible refine ls_c ?_ ?_
        | with_reducible refine vi_c ?_
        | with_reducible refine re_c ?_
        | with_reducible refine vz_c ?_
        | with_reducible refine rz_c ?_
        | exact trivial
        | with_reducible refine And.intro ?_ ?_
        | simp (disch := first | omega | assumption) only [ev_run_c, ev_run_n, ev_fj, ev_stp, ev_lk, ev_fv, ev_as, ev_sz, ev_st1, ev_st2, ev_rm, ev_pk, ev_Jof, ev_go, lv_args, List.map_cons, List.map_nil, List.zip_cons_cons, List.zip_nil_left, List.zip_nil_right, List.nil_append, List.cons_append, ↓reduceIte, reduceCtorEq, Int.reduceToNat, Nat.reduceEqDiff, Nat.reduceAdd, Nat.reduceLT, Nat.reduceLeDiff, Nat.reduceMul, Nat.reduceSub, Value.category, false_implies, true_and, and_true, Bool.false_eq_true, Option.some.injEq, exists_eq_left', Option.toList_some, Option.toList_none, ev_km, ev_k2, ev_k3, ev_k4, ev_k5, ev_l0, ev_l1, sh_1, sh_2, sh_3, sh_4, sh_5, at_X4_copyBids_2, at_X4_copyBids_34, ca_X4_135, ca_X4_139, cd_X4_copyBids_0, cd_X4_copyBids_2, cd_X4_copyBids_34, fl_X4_37, fl_X4_74, no_0, no_1, no_lt, no_le, no_eq, no_lt0, no_ge0, no_gt0, no_le0, no_eq0, no_0eq, no_eqm, no_meq, no_m0, no_mlt, no_mge, no_mgt, no_mm, no_i01, no_i10, no_in, no_or, no_ifm, no_mul, nI_add, no_sub, pk_div, iI_if, nI_clamp, oI_n, oI_s, not_true_eq_false, not_false_eq_true, forall_const, true_implies, false_and, and_false, or_false, false_or, Classical.not_not, true_or, or_true, no_b, no_eq1, eq_self, and_self, xk_0 hp, xk_1 hp, xk_2 hp, xk_3 hp, xk_4 hp, xk_5 hp, xk_6 hp, xk_7 hp, xk_8 hp, xk_9 hp, xk_10 hp, xk_11 hp, xk_12 hp, xk_13 hp, xk_14 hp, xk_15 hp, xk_16 hp, xk_17 hp, xk_18 hp, xk_19 hp, xk_20 hp, xk_21 hp, xl_1 hp, xl_2 hp, xl_3 hp, xl_4 hp, xl_6 hp, xl_8 hp, xl_10 hp, xl_12 hp, xl_14 hp, xl_15 hp, xl_17 hp, xl_18 hp, xl_21 hp, xp_7 hp, xp_8 hp, xp_9 hp, xp_10 hp, xp_11 hp, xp_12 hp, xp_13 hp, xp_14 hp, xp_15 hp, xp_16 hp, xp_17 hp, xp_t5 hp, xp_t7 hp, xp_t9 hp, xp_t11 hp, xp_t20 hp, xp_s19 hp, xp_a13 hp, xp_b13 hp, xp_a16 hp, xp_b16 hp, xc_r5 hp, xc_c5 hp, xc_r7 hp, xc_c7 hp, xc_r9 hp, xc_c9 hp, xc_r11 hp, xc_c11 hp, xc_r20 hp, xc_c20 hp, no_on, hH, e1]
        | exact rfl
        | (split <;> omega))
    · have hkn : N 1 = k := by omega
      rw [hkn] at *
      repeat' (first
        | (with_reducible refine ev_rid ?_; simp (disch := first | omega | assumption) only [ev_run_c, ev_run_n, ev_fj, ev_stp, ev_lk, ev_fv, ev_as, ev_sz, ev_st1, ev_st2, ev_rm, ev_pk, ev_Jof, ev_go, lv_args, List.map_cons, List.map_nil, List.zip_cons_cons, List.zip_nil_left, List.zip_nil_right, List.nil_append, List.cons_append, ↓reduceIte, reduceCtorEq, Int.reduceToNat, Nat.reduceEqDiff, Nat.reduceAdd, Nat.reduceLT, Nat.reduceLeDiff, Nat.reduceMul, Nat.reduceSub, Value.category, false_implies, true_and, and_true, Bool.false_eq_true, Option.some.injEq, exists_eq_left', Option.toList_some, Option.toList_none, ev_km, ev_k2, ev_k3, ev_k4, ev_k5, ev_l0, ev_l1, sh_1, sh_2, sh_3, sh_4, sh_5, at_X4_copyBids_2, at_X4_copyBids_34, ca_X4_135, ca_X4_139, cd_X4_copyBids_0, cd_X4_copyBids_2, cd_X4_copyBids_34, fl_X4_37, fl_X4_74, no_0, no_1, no_lt, no_le, no_eq, no_lt0, no_ge0, no_gt0, no_le0, no_eq0, no_0eq, no_eqm, no_meq, no_m0, no_mlt, no_mge, no_mgt, no_mm, no_i01, no_i10, no_in, no_or, no_ifm, no_mul, nI_add, no_sub, pk_div, iI_if, nI_clamp, oI_n, oI_s, not_true_eq_false, not_false_eq_true, forall_const, true_implies, false_and, and_false, or_false, false_or, Classical.not_not, true_or, or_true, no_b, no_eq1, eq_self, and_self, xk_0 hp, xk_1 hp, xk_2 hp, xk_3 hp, xk_4 hp, xk_5 hp, xk_6 hp, xk_7 hp, xk_8 hp, xk_9 hp, xk_10 hp, xk_11 hp, xk_12 hp, xk_13 hp, xk_14 hp, xk_15 hp, xk_16 hp, xk_17 hp, xk_18 hp, xk_19 hp, xk_20 hp, xk_21 hp, xl_1 hp, xl_2 hp, xl_3 hp, xl_4 hp, xl_6 hp, xl_8 hp, xl_10 hp, xl_12 hp, xl_14 hp, xl_15 hp, xl_17 hp, xl_18 hp, xl_21 hp, xp_7 hp, xp_8 hp, xp_9 hp, xp_10 hp, xp_11 hp, xp_12 hp, xp_13 hp, xp_14 hp, xp_15 hp, xp_16 hp, xp_17 hp, xp_t5 hp, xp_t7 hp, xp_t9 hp, xp_t11 hp, xp_t20 hp, xp_s19 hp, xp_a13 hp, xp_b13 hp, xp_a16 hp, xp_b16 hp, xc_r5 hp, xc_c5 hp, xc_r7 hp, xc_c7 hp, xc_r9 hp, xc_c9 hp, xc_r11 hp, xc_c11 hp, xc_r20 hp, xc_c20 hp, no_on, hH, e1])
        | (with_reducible refine ev_gid ?_; simp (disch := first | omega | assumption) only [ev_run_c, ev_run_n, ev_fj, ev_stp, ev_lk, ev_fv, ev_as, ev_sz, ev_st1, ev_st2, ev_rm, ev_pk, ev_Jof, ev_go, lv_args, List.map_cons, List.map_nil, List.zip_cons_cons, List.zip_nil_left, List.zip_nil_right, List.nil_append, List.cons_append, ↓reduceIte, reduceCtorEq, Int.reduceToNat, Nat.reduceEqDiff, Nat.reduceAdd, Nat.reduceLT, Nat.reduceLeDiff, Nat.reduceMul, Nat.reduceSub, Value.category, false_implies, true_and, and_true, Bool.false_eq_true, Option.some.injEq, exists_eq_left', Option.toList_some, Option.toList_none, ev_km, ev_k2, ev_k3, ev_k4, ev_k5, ev_l0, ev_l1, sh_1, sh_2, sh_3, sh_4, sh_5, at_X4_copyBids_2, at_X4_copyBids_34, ca_X4_135, ca_X4_139, cd_X4_copyBids_0, cd_X4_copyBids_2, cd_X4_copyBids_34, fl_X4_37, fl_X4_74, no_0, no_1, no_lt, no_le, no_eq, no_lt0, no_ge0, no_gt0, no_le0, no_eq0, no_0eq, no_eqm, no_meq, no_m0, no_mlt, no_mge, no_mgt, no_mm, no_i01, no_i10, no_in, no_or, no_ifm, no_mul, nI_add, no_sub, pk_div, iI_if, nI_clamp, oI_n, oI_s, not_true_eq_false, not_false_eq_true, forall_const, true_implies, false_and, and_false, or_false, false_or, Classical.not_not, true_or, or_true, no_b, no_eq1, eq_self, and_self, xk_0 hp, xk_1 hp, xk_2 hp, xk_3 hp, xk_4 hp, xk_5 hp, xk_6 hp, xk_7 hp, xk_8 hp, xk_9 hp, xk_10 hp, xk_11 hp, xk_12 hp, xk_13 hp, xk_14 hp, xk_15 hp, xk_16 hp, xk_17 hp, xk_18 hp, xk_19 hp, xk_20 hp, xk_21 hp, xl_1 hp, xl_2 hp, xl_3 hp, xl_4 hp, xl_6 hp, xl_8 hp, xl_10 hp, xl_12 hp, xl_14 hp, xl_15 hp, xl_17 hp, xl_18 hp, xl_21 hp, xp_7 hp, xp_8 hp, xp_9 hp, xp_10 hp, xp_11 hp, xp_12 hp, xp_13 hp, xp_14 hp, xp_15 hp, xp_16 hp, xp_17 hp, xp_t5 hp, xp_t7 hp, xp_t9 hp, xp_t11 hp, xp_t20 hp, xp_s19 hp, xp_a13 hp, xp_b13 hp, xp_a16 hp, xp_b16 hp, xc_r5 hp, xc_c5 hp, xc_r7 hp, xc_c7 hp, xc_r9 hp, xc_c9 hp, xc_r11 hp, xc_c11 hp, xc_r20 hp, xc_c20 hp, no_on, hH, e1])
        | (with_reducible refine And.intro (fun q => ?_) (fun q => ?_) <;> (try simp (disch := first | omega | assumption) only [no_0, no_1, no_lt, no_le, no_eq, no_lt0, no_ge0, no_gt0, no_le0, no_eq0, no_0eq, no_eqm, no_meq, no_m0, no_mlt, no_mge, no_mgt, no_mm, no_i01, no_i10, no_in, no_or, no_ifm, no_mul, nI_add, no_sub, pk_div, iI_if, nI_clamp, oI_n, oI_s, not_true_eq_false, not_false_eq_true, forall_const, true_implies, false_and, and_false, or_false, false_or, Classical.not_not, true_or, or_true, no_b, no_eq1, eq_self, and_self, xk_0 hp, xk_1 hp, xk_2 hp, xk_3 hp, xk_4 hp, xk_5 hp, xk_6 hp, xk_7 hp, xk_8 hp, xk_9 hp, xk_10 hp, xk_11 hp, xk_12 hp, xk_13 hp, xk_14 hp, xk_15 hp, xk_16 hp, xk_17 hp, xk_18 hp, xk_19 hp, xk_20 hp, xk_21 hp, xl_1 hp, xl_2 hp, xl_3 hp, xl_4 hp, xl_6 hp, xl_8 hp, xl_10 hp, xl_12 hp, xl_14 hp, xl_15 hp, xl_17 hp, xl_18 hp, xl_21 hp, xp_7 hp, xp_8 hp, xp_9 hp, xp_10 hp, xp_11 hp, xp_12 hp, xp_13 hp, xp_14 hp, xp_15 hp, xp_16 hp, xp_17 hp, xp_t5 hp, xp_t7 hp, xp_t9 hp, xp_t11 hp, xp_t20 hp, xp_s19 hp, xp_a13 hp, xp_b13 hp, xp_a16 hp, xp_b16 hp, xc_r5 hp, xc_c5 hp, xc_r7 hp, xc_c7 hp, xc_r9 hp, xc_c9 hp, xc_r11 hp, xc_c11 hp, xc_r20 hp, xc_c20 hp, no_on, hH, e1] at q))
        | with_reducible refine ev_ci (m_get_sc hok hp (by with_reducible assumption) ?_ ?_) ?_
        | with_reducible refine ev_ci (m_get_de hok hp (by with_reducible assumption) ?_ ?_) ?_
        | with_reducible refine ev_ci (m_get_bi hok hp (by with_reducible assumption) ?_ ?_) ?_
        | with_reducible refine ev_ci (m_get_tg hok hp (by with_reducible assumption) ?_ ?_) ?_
        | with_reducible refine ev_ci (m_get_ta hok hp (by with_reducible assumption) ?_ ?_) ?_
        | with_reducible refine ev_ci (m_X8_set hok (sh_T20 hp) (xp_t20 hp) ?_ ?_ _) ?_
        | omega
        | with_reducible assumption
        | with_reducible rfl
        | (refine Nat.lt_of_lt_of_le ?_ (Nat.le_refl 312); omega)
        | with_reducible refine lp_nx ?_ ?_ ?_ ?_
        | with_reducible refine lp_st ?_ ?_ ?_
        | with_reducible refine ls_c ?_ ?_
        | with_reducible refine vi_c ?_
        | with_reducible refine re_c ?_
        | with_reducible refine vz_c ?_
        | with_reducible refine rz_c ?_
        | exact trivial
        | with_reducible refine And.intro ?_ ?_
        | simp (disch := first | omega | assumption) only [ev_run_c, ev_run_n, ev_fj, ev_stp, ev_lk, ev_fv, ev_as, ev_sz, ev_st1, ev_st2, ev_rm, ev_pk, ev_Jof, ev_go, lv_args, List.map_cons, List.map_nil, List.zip_cons_cons, List.zip_nil_left, List.zip_nil_right, List.nil_append, List.cons_append, ↓reduceIte, reduceCtorEq, Int.reduceToNat, Nat.reduceEqDiff, Nat.reduceAdd, Nat.reduceLT, Nat.reduceLeDiff, Nat.reduceMul, Nat.reduceSub, Value.category, false_implies, true_and, and_true, Bool.false_eq_true, Option.some.injEq, exists_eq_left', Option.toList_some, Option.toList_none, ev_km, ev_k2, ev_k3, ev_k4, ev_k5, ev_l0, ev_l1, sh_1, sh_2, sh_3, sh_4, sh_5, at_X4_copyBids_2, at_X4_copyBids_34, ca_X4_135, ca_X4_139, cd_X4_copyBids_0, cd_X4_copyBids_2, cd_X4_copyBids_34, fl_X4_37, fl_X4_74, no_0, no_1, no_lt, no_le, no_eq, no_lt0, no_ge0, no_gt0, no_le0, no_eq0, no_0eq, no_eqm, no_meq, no_m0, no_mlt, no_mge, no_mgt, no_mm, no_i01, no_i10, no_in, no_or, no_ifm, no_mul, nI_add, no_sub, pk_div, iI_if, nI_clamp, oI_n, oI_s, not_true_eq_false, not_false_eq_true, forall_const, true_implies, false_and, and_false, or_false, false_or, Classical.not_not, true_or, or_true, no_b, no_eq1, eq_self, and_self, xk_0 hp, xk_1 hp, xk_2 hp, xk_3 hp, xk_4 hp, xk_5 hp, xk_6 hp, xk_7 hp, xk_8 hp, xk_9 hp, xk_10 hp, xk_11 hp, xk_12 hp, xk_13 hp, xk_14 hp, xk_15 hp, xk_16 hp, xk_17 hp, xk_18 hp, xk_19 hp, xk_20 hp, xk_21 hp, xl_1 hp, xl_2 hp, xl_3 hp, xl_4 hp, xl_6 hp, xl_8 hp, xl_10 hp, xl_12 hp, xl_14 hp, xl_15 hp, xl_17 hp, xl_18 hp, xl_21 hp, xp_7 hp, xp_8 hp, xp_9 hp, xp_10 hp, xp_11 hp, xp_12 hp, xp_13 hp, xp_14 hp, xp_15 hp, xp_16 hp, xp_17 hp, xp_t5 hp, xp_t7 hp, xp_t9 hp, xp_t11 hp, xp_t20 hp, xp_s19 hp, xp_a13 hp, xp_b13 hp, xp_a16 hp, xp_b16 hp, xc_r5 hp, xc_c5 hp, xc_r7 hp, xc_c7 hp, xc_r9 hp, xc_c9 hp, xc_r11 hp, xc_c11 hp, xc_r20 hp, xc_c20 hp, no_on, hH, e1]
        | exact rfl
        | (split <;> omega))
  · rw [at_X4_copyBids_0]
    repeat' (first
      | (with_reducible refine ev_rid ?_; simp (disch := first | omega | assumption) only [ev_run_c, ev_run_n, ev_fj, ev_stp, ev_lk, ev_fv, ev_as, ev_sz, ev_st1, ev_st2, ev_rm, ev_pk, ev_Jof, ev_go, lv_args, List.map_cons, List.map_nil, List.zip_cons_cons, List.zip_nil_left, List.zip_nil_right, List.nil_append, List.cons_append, ↓reduceIte, reduceCtorEq, Int.reduceToNat, Nat.reduceEqDiff, Nat.reduceAdd, Nat.reduceLT, Nat.reduceLeDiff, Nat.reduceMul, Nat.reduceSub, Value.category, false_implies, true_and, and_true, Bool.false_eq_true, Option.some.injEq, exists_eq_left', Option.toList_some, Option.toList_none, ev_km, ev_k2, ev_k3, ev_k4, ev_k5, ev_l0, ev_l1, sh_1, sh_2, sh_3, sh_4, sh_5, at_X4_copyBids_2, at_X4_copyBids_34, ca_X4_135, ca_X4_139, cd_X4_copyBids_0, cd_X4_copyBids_2, cd_X4_copyBids_34, fl_X4_37, fl_X4_74, no_0, no_1, no_lt, no_le, no_eq, no_lt0, no_ge0, no_gt0, no_le0, no_eq0, no_0eq, no_eqm, no_meq, no_m0, no_mlt, no_mge, no_mgt, no_mm, no_i01, no_i10, no_in, no_or, no_ifm, no_mul, nI_add, no_sub, pk_div, iI_if, nI_clamp, oI_n, oI_s, not_true_eq_false, not_false_eq_true, forall_const, true_implies, false_and, and_false, or_false, false_or, Classical.not_not, true_or, or_true, no_b, no_eq1, eq_self, and_self, xk_0 hp, xk_1 hp, xk_2 hp, xk_3 hp, xk_4 hp, xk_5 hp, xk_6 hp, xk_7 hp, xk_8 hp, xk_9 hp, xk_10 hp, xk_11 hp, xk_12 hp, xk_13 hp, xk_14 hp, xk_15 hp, xk_16 hp, xk_17 hp, xk_18 hp, xk_19 hp, xk_20 hp, xk_21 hp, xl_1 hp, xl_2 hp, xl_3 hp, xl_4 hp, xl_6 hp, xl_8 hp, xl_10 hp, xl_12 hp, xl_14 hp, xl_15 hp, xl_17 hp, xl_18 hp, xl_21 hp, xp_7 hp, xp_8 hp, xp_9 hp, xp_10 hp, xp_11 hp, xp_12 hp, xp_13 hp, xp_14 hp, xp_15 hp, xp_16 hp, xp_17 hp, xp_t5 hp, xp_t7 hp, xp_t9 hp, xp_t11 hp, xp_t20 hp, xp_s19 hp, xp_a13 hp, xp_b13 hp, xp_a16 hp, xp_b16 hp, xc_r5 hp, xc_c5 hp, xc_r7 hp, xc_c7 hp, xc_r9 hp, xc_c9 hp, xc_r11 hp, xc_c11 hp, xc_r20 hp, xc_c20 hp, no_on])
      | (with_reducible refine ev_gid ?_; simp (disch := first | omega | assumption) only [ev_run_c, ev_run_n, ev_fj, ev_stp, ev_lk, ev_fv, ev_as, ev_sz, ev_st1, ev_st2, ev_rm, ev_pk, ev_Jof, ev_go, lv_args, List.map_cons, List.map_nil, List.zip_cons_cons, List.zip_nil_left, List.zip_nil_right, List.nil_append, List.cons_append, ↓reduceIte, reduceCtorEq, Int.reduceToNat, Nat.reduceEqDiff, Nat.reduceAdd, Nat.reduceLT, Nat.reduceLeDiff, Nat.reduceMul, Nat.reduceSub, Value.category, false_implies, true_and, and_true, Bool.false_eq_true, Option.some.injEq, exists_eq_left', Option.toList_some, Option.toList_none, ev_km, ev_k2, ev_k3, ev_k4, ev_k5, ev_l0, ev_l1, sh_1, sh_2, sh_3, sh_4, sh_5, at_X4_copyBids_2, at_X4_copyBids_34, ca_X4_135, ca_X4_139, cd_X4_copyBids_0, cd_X4_copyBids_2, cd_X4_copyBids_34, fl_X4_37, fl_X4_74, no_0, no_1, no_lt, no_le, no_eq, no_lt0, no_ge0, no_gt0, no_le0, no_eq0, no_0eq, no_eqm, no_meq, no_m0, no_mlt, no_mge, no_mgt, no_mm, no_i01, no_i10, no_in, no_or, no_ifm, no_mul, nI_add, no_sub, pk_div, iI_if, nI_clamp, oI_n, oI_s, not_true_eq_false, not_false_eq_true, forall_const, true_implies, false_and, and_false, or_false, false_or, Classical.not_not, true_or, or_true, no_b, no_eq1, eq_self, and_self, xk_0 hp, xk_1 hp, xk_2 hp, xk_3 hp, xk_4 hp, xk_5 hp, xk_6 hp, xk_7 hp, xk_8 hp, xk_9 hp, xk_10 hp, xk_11 hp, xk_12 hp, xk_13 hp, xk_14 hp, xk_15 hp, xk_16 hp, xk_17 hp, xk_18 hp, xk_19 hp, xk_20 hp, xk_21 hp, xl_1 hp, xl_2 hp, xl_3 hp, xl_4 hp, xl_6 hp, xl_8 hp, xl_10 hp, xl_12 hp, xl_14 hp, xl_15 hp, xl_17 hp, xl_18 hp, xl_21 hp, xp_7 hp, xp_8 hp, xp_9 hp, xp_10 hp, xp_11 hp, xp_12 hp, xp_13 hp, xp_14 hp, xp_15 hp, xp_16 hp, xp_17 hp, xp_t5 hp, xp_t7 hp, xp_t9 hp, xp_t11 hp, xp_t20 hp, xp_s19 hp, xp_a13 hp, xp_b13 hp, xp_a16 hp, xp_b16 hp, xc_r5 hp, xc_c5 hp, xc_r7 hp, xc_c7 hp, xc_r9 hp, xc_c9 hp, xc_r11 hp, xc_c11 hp, xc_r20 hp, xc_c20 hp, no_on])
      | (with_reducible refine And.intro (fun q => ?_) (fun q => ?_) <;> (try simp (disch := first | omega | assumption) only [no_0, no_1, no_lt, no_le, no_eq, no_lt0, no_ge0, no_gt0, no_le0, no_eq0, no_0eq, no_eqm, no_meq, no_m0, no_mlt, no_mge, no_mgt, no_mm, no_i01, no_i10, no_in, no_or, no_ifm, no_mul, nI_add, no_sub, pk_div, iI_if, nI_clamp, oI_n, oI_s, not_true_eq_false, not_false_eq_true, forall_const, true_implies, false_and, and_false, or_false, false_or, Classical.not_not, true_or, or_true, no_b, no_eq1, eq_self, and_self, xk_0 hp, xk_1 hp, xk_2 hp, xk_3 hp, xk_4 hp, xk_5 hp, xk_6 hp, xk_7 hp, xk_8 hp, xk_9 hp, xk_10 hp, xk_11 hp, xk_12 hp, xk_13 hp, xk_14 hp, xk_15 hp, xk_16 hp, xk_17 hp, xk_18 hp, xk_19 hp, xk_20 hp, xk_21 hp, xl_1 hp, xl_2 hp, xl_3 hp, xl_4 hp, xl_6 hp, xl_8 hp, xl_10 hp, xl_12 hp, xl_14 hp, xl_15 hp, xl_17 hp, xl_18 hp, xl_21 hp, xp_7 hp, xp_8 hp, xp_9 hp, xp_10 hp, xp_11 hp, xp_12 hp, xp_13 hp, xp_14 hp, xp_15 hp, xp_16 hp, xp_17 hp, xp_t5 hp, xp_t7 hp, xp_t9 hp, xp_t11 hp, xp_t20 hp, xp_s19 hp, xp_a13 hp, xp_b13 hp, xp_a16 hp, xp_b16 hp, xc_r5 hp, xc_c5 hp, xc_r7 hp, xc_c7 hp, xc_r9 hp, xc_c9 hp, xc_r11 hp, xc_c11 hp, xc_r20 hp, xc_c20 hp, no_on] at q))
      | with_reducible refine ev_ci (m_get_sc hok hp (by with_reducible assumption) ?_ ?_) ?_
      | with_reducible refine ev_ci (m_get_de hok hp (by with_reducible assumption) ?_ ?_) ?_
      | with_reducible refine ev_ci (m_get_bi hok hp (by with_reducible assumption) ?_ ?_) ?_
      | with_reducible refine ev_ci (m_get_tg hok hp (by with_reducible assumption) ?_ ?_) ?_
      | with_reducible refine ev_ci (m_get_ta hok hp (by with_reducible assumption) ?_ ?_) ?_
      | with_reducible refine ev_ci (m_X8_set hok (sh_T20 hp) (xp_t20 hp) ?_ ?_ _) ?_
      | omega
      | with_reducible assumption
      | with_reducible rfl
      | (refine Nat.lt_of_lt_of_le ?_ (Nat.le_refl 312); omega)
      | with_reducible refine lp_nx ?_ ?_ ?_ ?_
      | with_reducible refine lp_st ?_ ?_ ?_
      | with_reducible refine ls_c ?_ ?_
      | with_reducible refine vi_c ?_
      | with_reducible refine re_c ?_
      | with_reducible refine vz_c ?_
      | with_reducible refine rz_c ?_
      | exact trivial
      | with_reducible refine And.intro ?_ ?_
      | simp (disch := first | omega | assumption) only [ev_run_c, ev_run_n, ev_fj, ev_stp, ev_lk, ev_fv, ev_as, ev_sz, ev_st1, ev_st2, ev_rm, ev_pk, ev_Jof, ev_go, lv_args, List.map_cons, List.map_nil, List.zip_cons_cons, List.zip_nil_left, List.zip_nil_right, List.nil_append, List.cons_append, ↓reduceIte, reduceCtorEq, Int.reduceToNat, Nat.reduceEqDiff, Nat.reduceAdd, Nat.reduceLT, Nat.reduceLeDiff, Nat.reduceMul, Nat.reduceSub, Value.category, false_implies, true_and, and_true, Bool.false_eq_true, Option.some.injEq, exists_eq_left', Option.toList_some, Option.toList_none, ev_km, ev_k2, ev_k3, ev_k4, ev_k5, ev_l0, ev_l1, sh_1, sh_2, sh_3, sh_4, sh_5, at_X4_copyBids_2, at_X4_copyBids_34, ca_X4_135, ca_X4_139, cd_X4_copyBids_0, cd_X4_copyBids_2, cd_X4_copyBids_34, fl_X4_37, fl_X4_74, no_0, no_1, no_lt, no_le, no_eq, no_lt0, no_ge0, no_gt0, no_le0, no_eq0, no_0eq, no_eqm, no_meq, no_m0, no_mlt, no_mge, no_mgt, no_mm, no_i01, no_i10, no_in, no_or, no_ifm, no_mul, nI_add, no_sub, pk_div, iI_if, nI_clamp, oI_n, oI_s, not_true_eq_false, not_false_eq_true, forall_const, true_implies, false_and, and_false, or_false, false_or, Classical.not_not, true_or, or_true, no_b, no_eq1, eq_self, and_self, xk_0 hp, xk_1 hp, xk_2 hp, xk_3 hp, xk_4 hp, xk_5 hp, xk_6 hp, xk_7 hp, xk_8 hp, xk_9 hp, xk_10 hp, xk_11 hp, xk_12 hp, xk_13 hp, xk_14 hp, xk_15 hp, xk_16 hp, xk_17 hp, xk_18 hp, xk_19 hp, xk_20 hp, xk_21 hp, xl_1 hp, xl_2 hp, xl_3 hp, xl_4 hp, xl_6 hp, xl_8 hp, xl_10 hp, xl_12 hp, xl_14 hp, xl_15 hp, xl_17 hp, xl_18 hp, xl_21 hp, xp_7 hp, xp_8 hp, xp_9 hp, xp_10 hp, xp_11 hp, xp_12 hp, xp_13 hp, xp_14 hp, xp_15 hp, xp_16 hp, xp_17 hp, xp_t5 hp, xp_t7 hp, xp_t9 hp, xp_t11 hp, xp_t20 hp, xp_s19 hp, xp_a13 hp, xp_b13 hp, xp_a16 hp, xp_b16 hp, xc_r5 hp, xc_c5 hp, xc_r7 hp, xc_c7 hp, xc_r9 hp, xc_c9 hp, xc_r11 hp, xc_c11 hp, xc_r20 hp, xc_c20 hp, no_on]
      | exact rfl
      | (split <;> omega))
/-- scores made even -/
def evN (N : Nat → Nat) (q m : Nat) : Nat → Nat → Nat
  | 0 => N
  | k + 1 => if N (8 + 59 * k + (23 + q)) = 0 then evN N q m k else up (evN N q m k) (8 + 59 * k + (23 + q)) m
theorem evN_n {q m k : Nat} (h : N (8 + 59 * k + (23 + q)) = 0) : evN N q m (k + 1) = evN N q m k := if_pos h
theorem evN_y {q m k : Nat} (h : ¬ N (8 + 59 * k + (23 + q)) = 0) : evN N q m (k + 1) = up (evN N q m k) (8 + 59 * k + (23 + q)) m := if_neg h
theorem evN_ne {q m k x : Nat} (h : ∀ i, i < k → x ≠ 8 + 59 * i + (23 + q)) : evN N q m k x = N x := by
  induction k with
  | zero => rfl
  | succ k ih =>
    by_cases c : N (8 + 59 * k + (23 + q)) = 0
    · rw [evN_n c]; exact ih (fun i hi => h i (by omega))
    · rw [evN_y c, up_ne (h k (by omega))]; exact ih (fun i hi => h i (by omega))
theorem evN_at {q m k i : Nat} : evN N q m k (8 + 59 * i + (23 + q)) = if i < k ∧ N (8 + 59 * i + (23 + q)) ≠ 0 then m else N (8 + 59 * i + (23 + q)) := by
  induction k with
  | zero => rw [if_neg (fun z => absurd z.1 (Nat.not_lt_zero _))]; rfl
  | succ k ih =>
    by_cases c : N (8 + 59 * k + (23 + q)) = 0
    · rw [evN_n c, ih]
      by_cases d : i = k
      · subst d; rw [if_neg (fun z => z.2 c), if_neg (fun z => z.2 c)]
      · by_cases g : i < k ∧ N (8 + 59 * i + (23 + q)) ≠ 0
        · rw [if_pos g, if_pos ⟨by omega, g.2⟩]
        · rw [if_neg g, if_neg (fun z => g ⟨by omega, z.2⟩)]
    · rw [evN_y c]
      by_cases d : i = k
      · subst d; rw [up_eq rfl, if_pos ⟨by omega, c⟩]
      · rw [up_ne (by omega), ih]
        by_cases g : i < k ∧ N (8 + 59 * i + (23 + q)) ≠ 0
        · rw [if_pos g, if_pos ⟨by omega, g.2⟩]
        · rw [if_neg g, if_neg (fun z => g ⟨by omega, z.2⟩)]
theorem INV_ev (hI : INV N) {q m k : Nat} (hq : q < 10) (hm : m ≤ 9) (hk : k ≤ 16) : INV (evN N q m k) := by
  refine INV_sc hI (fun x hx hn => evN_ne (fun i hi => hn i q (by omega) hq)) (fun i q' hi hq' => ?_)
  have h3 := iv_pq hI i q' hi hq'
  by_cases h : q' = q
  · subst h
    rw [evN_at]
    by_cases g : i < k ∧ N (8 + 59 * i + (23 + q')) ≠ 0
    · rw [if_pos g]; exact ⟨hm, fun _ => iv_sc hI i q' hi hq' g.2⟩
    · rw [if_neg g]; exact ⟨h3.2.1, fun h5 => iv_sc hI i q' hi hq' h5⟩
  · rw [evN_ne (fun i' hi' => by omega)]
    exact ⟨h3.2.1, fun h5 => iv_sc hI i q' hi hq' h5⟩
theorem evN_z (hI : INV N) {q m k : Nat} (hq : q < 10) (h : N 0 ≤ k) (hk : k ≤ 16) : evN N q m k = evN N q m (N 0) := by
  induction k with
  | zero => rw [show N 0 = 0 by omega]
  | succ k ih =>
    by_cases c : N 0 = k + 1
    · rw [c]
    · rw [evN_n (iv_z1 hI k (23 + q) (by omega) (by omega) (by omega))]
      exact ih (by omega) (by omega)
def xev (p q m : Nat) (N : Nat → Nat) (μ : ev_M) : Nat → ev_M
  | 0 => μ
  | k + 1 => if N (8 + 59 * k + (23 + q)) = 0 then xev p q m N μ k else x_put p k q m (evN N q m k) (xev p q m N μ k)
theorem xev_n {q m k : Nat} (h : N (8 + 59 * k + (23 + q)) = 0) : xev p q m N μ (k + 1) = xev p q m N μ k := if_pos h
theorem xev_y {q m k : Nat} (h : ¬ N (8 + 59 * k + (23 + q)) = 0) : xev p q m N μ (k + 1) = x_put p k q m (evN N q m k) (xev p q m N μ k) := if_neg h
theorem sc_in (hI : INV N) {i q : Nat} (hi : i < 16) (hq : q < 10) (h : ¬ N (8 + 59 * i + (23 + q)) = 0) : i < N 0 ∧ q < N 1 := by
  refine ⟨?_, ?_⟩
  · rcases Nat.lt_or_ge i (N 0) with g | g
    · exact g
    · exact absurd (iv_z1 hI i (23 + q) g hi (by omega)) h
  · rcases Nat.lt_or_ge q (N 1) with g | g
    · exact g
    · exact absurd (iv_z3 hI i q hi g hq).2.1 h
theorem PR_ev (hP : PR p N μ) (hI : INV N) {q m k : Nat} (hq : q < 10) (hm : m ≤ 9) (hk : k ≤ 16) : PR p (evN N q m k) (xev p q m N μ k) := by
  have hh := iv_h hI
  induction k with
  | zero => exact hP
  | succ k ih =>
    by_cases c : N (8 + 59 * k + (23 + q)) = 0
    · rw [evN_n c, xev_n c]; exact ih (by omega)
    · obtain ⟨g1, g2⟩ := sc_in hI (show k < 16 by omega) hq c
      have e0 : evN N q m k 0 = N 0 := evN_ne (fun i hi => by omega)
      have e1 : evN N q m k 1 = N 1 := evN_ne (fun i hi => by omega)
      rw [evN_y c, xev_y c]
      exact PR_put (ih (by omega)) (INV_ev hI hq hm (by omega)) (by omega) (by omega) (by omega) (by omega)
theorem Fp_ev {q m k : Nat} : Fp p μ (xev p q m N μ k) := by
  induction k with
  | zero => exact Fp_rf
  | succ k ih =>
    by_cases c : N (8 + 59 * k + (23 + q)) = 0
    · rw [xev_n c]; exact ih
    · rw [xev_y c]; exact Fp_put ih
set_option maxHeartbeats 1000000 in
theorem m_X6_makeEven (hok : ev_ok sh_S G) (hp : p ∈ sh_B) (hP : PR p N μ) (hI : INV N) {q : Nat} (hq : q < 10) (h2 : 2 ≤ scs N q (N 0)) : ev_T sh_S G mi_X6_makeEven [.ref (p + 19), .int (nI q)] μ (.inl (none, xev p q (mid N q) N μ 16)) := by
  have hlt := xp_lt hp
  have hh := iv_h hI
  have hm := mid_le N q
  have hmid := m_X6_middle hok hp hP hI hq h2
  refine ev_tri1 hok okM_X6_makeEven (Nat.le_of_ble_eq_true rfl) 8 [0, 1, 2, 3] 16 400 (fun k => [.ref (p + 19), .int (nI q), .int (nI (mid N q)), .int (nI k)]) (fun k => xev p q (mid N q) N μ k) (fun _ => True) ?_ ?_
  · intro k hk _
    rw [at_X6_makeEven_8]
    have hPk := PR_ev hP hI hq hm hk
    have hIk := INV_ev hI hq hm hk
    rcases Nat.lt_or_ge k 16 with hkn | hkn
    · have h1 := m_get_sc hok hp hPk hkn hq
      rw [evN_at, if_neg (fun z => absurd z.1 (Nat.lt_irrefl _))] at h1
      have h3 := iv_pq hI k q hkn hq
      by_cases c : N (8 + 59 * k + (23 + q)) = 0
      · rw [c] at h1
        repeat' (first
          | (with_reducible refine ev_rid ?_; simp (disch := first | omega | assumption) only [ev_run_c, ev_run_n, ev_fj, ev_stp, ev_lk, ev_fv, ev_as, ev_sz, ev_st1, ev_st2, ev_rm, ev_pk, ev_Jof, ev_go, lv_args, List.map_cons, List.map_nil, List.zip_cons_cons, List.zip_nil_left, List.zip_nil_right, List.nil_append, List.cons_append, ↓reduceIte, reduceCtorEq, Int.reduceToNat, Nat.reduceEqDiff, Nat.reduceAdd, Nat.reduceLT, Nat.reduceLeDiff, Nat.reduceMul, Nat.reduceSub, Value.category, false_implies, true_and, and_true, Bool.false_eq_true, Option.some.injEq, exists_eq_left', Option.toList_some, Option.toList_none, ev_km, ev_k2, ev_k3, ev_k4, ev_k5, ev_l0, ev_l1, sh_1, sh_2, sh_3, sh_4, sh_5, at_X6_makeEven_33, at_X6_makeEven_39, at_X6_makeEven_8, ca_X6_40, ca_X6_83, ca_X6_86, cd_X6_makeEven_0, cd_X6_makeEven_33, cd_X6_makeEven_39, cd_X6_makeEven_8, fl_X6_14, ev_b_16, no_0, no_1, no_lt, no_le, no_eq, no_lt0, no_ge0, no_gt0, no_le0, no_eq0, no_0eq, no_eqm, no_meq, no_m0, no_mlt, no_mge, no_mgt, no_mm, no_i01, no_i10, no_in, no_or, no_ifm, no_mul, nI_add, no_sub, pk_div, iI_if, nI_clamp, oI_n, oI_s, not_true_eq_false, not_false_eq_true, forall_const, true_implies, false_and, and_false, or_false, false_or, Classical.not_not, true_or, or_true, no_b, no_eq1, eq_self, and_self, xk_0 hp, xk_1 hp, xk_2 hp, xk_3 hp, xk_4 hp, xk_5 hp, xk_6 hp, xk_7 hp, xk_8 hp, xk_9 hp, xk_10 hp, xk_11 hp, xk_12 hp, xk_13 hp, xk_14 hp, xk_15 hp, xk_16 hp, xk_17 hp, xk_18 hp, xk_19 hp, xk_20 hp, xk_21 hp, xl_1 hp, xl_2 hp, xl_3 hp, xl_4 hp, xl_6 hp, xl_8 hp, xl_10 hp, xl_12 hp, xl_14 hp, xl_15 hp, xl_17 hp, xl_18 hp, xl_21 hp, xp_7 hp, xp_8 hp, xp_9 hp, xp_10 hp, xp_11 hp, xp_12 hp, xp_13 hp, xp_14 hp, xp_15 hp, xp_16 hp, xp_17 hp, xp_t5 hp, xp_t7 hp, xp_t9 hp, xp_t11 hp, xp_t20 hp, xp_s19 hp, xp_a13 hp, xp_b13 hp, xp_a16 hp, xp_b16 hp, xc_r5 hp, xc_c5 hp, xc_r7 hp, xc_c7 hp, xc_r9 hp, xc_c9 hp, xc_r11 hp, xc_c11 hp, xc_r20 hp, xc_c20 hp, no_on, xev_n c])
          | (with_reducible refine ev_gid ?_; simp (disch := first | omega | assumption) only [ev_run_c, ev_run_n, ev_fj, ev_stp, ev_lk, ev_fv, ev_as, ev_sz, ev_st1, ev_st2, ev_rm, ev_pk, ev_Jof, ev_go, lv_args, List.map_cons, List.map_nil, List.zip_cons_cons, List.zip_nil_left, List.zip_nil_right, List.nil_append, List.cons_append, ↓reduceIte, reduceCtorEq, Int.reduceToNat, Nat.reduceEqDiff, Nat.reduceAdd, Nat.reduceLT, Nat.reduceLeDiff, Nat.reduceMul, Nat.reduceSub, Value.category, false_implies, true_and, and_true, Bool.false_eq_true, Option.some.injEq, exists_eq_left', Option.toList_some, Option.toList_none, ev_km, ev_k2, ev_k3, ev_k4, ev_k5, ev_l0, ev_l1, sh_1, sh_2, sh_3, sh_4, sh_5, at_X6_makeEven_33, at_X6_makeEven_39, at_X6_makeEven_8, ca_X6_40, ca_X6_83, ca_X6_86, cd_X6_makeEven_0, cd_X6_makeEven_33, cd_X6_makeEven_39, cd_X6_makeEven_8, fl_X6_14, ev_b_16, no_0, no_1, no_lt, no_le, no_eq, no_lt0, no_ge0, no_gt0, no_le0, no_eq0, no_0eq, no_eqm, no_meq, no_m0, no_mlt, no_mge, no_mgt, no_mm, no_i01, no_i10, no_in, no_or, no_ifm, no_mul, nI_add, no_sub, pk_div, iI_if, nI_clamp, oI_n, oI_s, not_true_eq_false, not_false_eq_true, forall_const, true_implies, false_and, and_false, or_false, false_or, Classical.not_not, true_or, or_true, no_b, no_eq1, eq_self, and_self, xk_0 hp, xk_1 hp, xk_2 hp, xk_3 hp, xk_4 hp, xk_5 hp, xk_6 hp, xk_7 hp, xk_8 hp, xk_9 hp, xk_10 hp, xk_11 hp, xk_12 hp, xk_13 hp, xk_14 hp, xk_15 hp, xk_16 hp, xk_17 hp, xk_18 hp, xk_19 hp, xk_20 hp, xk_21 hp, xl_1 hp, xl_2 hp, xl_3 hp, xl_4 hp, xl_6 hp, xl_8 hp, xl_10 hp, xl_12 hp, xl_14 hp, xl_15 hp, xl_17 hp, xl_18 hp, xl_21 hp, xp_7 hp, xp_8 hp, xp_9 hp, xp_10 hp, xp_11 hp, xp_12 hp, xp_13 hp, xp_14 hp, xp_15 hp, xp_16 hp, xp_17 hp, xp_t5 hp, xp_t7 hp, xp_t9 hp, xp_t11 hp, xp_t20 hp, xp_s19 hp, xp_a13 hp, xp_b13 hp, xp_a16 hp, xp_b16 hp, xc_r5 hp, xc_c5 hp, xc_r7 hp, xc_c7 hp, xc_r9 hp, xc_c9 hp, xc_r11 hp, xc_c11 hp, xc_r20 hp, xc_c20 hp, no_on, xev_n c])
          | (with_reducible refine And.intro (fun q => ?_) (fun q => ?_) <;> (try simp (disch := first | omega | assumption) only [no_0, no_1, no_lt, no_le, no_eq, no_lt0, no_ge0, no_gt0, no_le0, no_eq0, no_0eq, no_eqm, no_meq, no_m0, no_mlt, no_mge, no_mgt, no_mm, no_i01, no_i10, no_in, no_or, no_ifm, no_mul, nI_add, no_sub, pk_div, iI_if, nI_clamp, oI_n, oI_s, not_true_eq_false, not_false_eq_true, forall_const, true_implies, false_and, and_false, or_false, false_or, Classical.not_not, true_or, or_true, no_b, no_eq1, eq_self, and_self, xk_0 hp, xk_1 hp, xk_2 hp, xk_3 hp, xk_4 hp, xk_5 hp, xk_6 hp, xk_7 hp, xk_8 hp, xk_9 hp, xk_10 hp, xk_11 hp, xk_12 hp, xk_13 hp, xk_14 hp, xk_15 hp, xk_16 hp, xk_17 hp, xk_18 hp, xk_19 hp, xk_20 hp, xk_21 hp, xl_1 hp, xl_2 hp, xl_3 hp, xl_4 hp, xl_6 hp, xl_8 hp, xl_10 hp, xl_12 hp, xl_14 hp, xl_15 hp, xl_17 hp, xl_18 hp, xl_21 hp, xp_7 hp, xp_8 hp, xp_9 hp, xp_10 hp, xp_11 hp, xp_12 hp, xp_13 hp, xp_14 hp, xp_15 hp, xp_16 hp, xp_17 hp, xp_t5 hp, xp_t7 hp, xp_t9 hp, xp_t11 hp, xp_t20 hp, xp_s19 hp, xp_a13 hp, xp_b13 hp, xp_a16 hp, xp_b16 hp, xc_r5 hp, xc_c5 hp, xc_r7 hp, xc_c7 hp, xc_r9 hp, xc_c9 hp, xc_r11 hp, xc_c11 hp, xc_r20 hp, xc_c20 hp, no_on, xev_n c] at q))
          | (with_reducible refine ev_ci h1 ?_)
          | with_reducible refine ev_ci (m_X6_middle hok hp (by with_reducible assumption) (by with_reducible assumption) ?_ ?_) ?_
          | with_reducible refine ev_ci (m_get_sc hok hp (by with_reducible assumption) ?_ ?_) ?_
          | with_reducible refine ev_ci (m_get_de hok hp (by with_reducible assumption) ?_ ?_) ?_
          | with_reducible refine ev_ci (m_get_bi hok hp (by with_reducible assumption) ?_ ?_) ?_
          | with_reducible refine ev_ci (m_get_tg hok hp (by with_reducible assumption) ?_ ?_) ?_
          | with_reducible refine ev_ci (m_get_ta hok hp (by with_reducible assumption) ?_ ?_) ?_
          | with_reducible refine ev_ci (m_X6_put hok hp (by with_reducible assumption) (by with_reducible assumption) ?_ ?_ ?_) ?_
          | omega
          | with_reducible assumption
          | with_reducible rfl
          | (refine Nat.lt_of_lt_of_le ?_ (Nat.le_refl 312); omega)
          | with_reducible refine lp_nx ?_ ?_ ?_ ?_
          | with_reducible refine lp_st ?_ ?_ ?_
          | with_reducible refine ls_c ?_ ?_
          | with_reducible refine vi_c ?_
          | with_reducible refine re_c ?_
          | with_reducible refine vz_c ?_
          | with_reducible refine rz_c ?_
          | exact trivial
          | with_reducible refine And.intro ?_ ?_
          | simp (disch := first | omega | assumption) only [ev_run_c, ev_run_n, ev_fj, ev_stp, ev_lk, ev_fv, ev_as, ev_sz, ev_st1, ev_st2, ev_rm, ev_pk, ev_Jof, ev_go, lv_args, List.map_cons, List.map_nil, List.zip_cons_cons, List.zip_nil_left, List.zip_nil_right, List.nil_append, List.cons_append, ↓reduceIte, reduceCtorEq, Int.reduceToNat, Nat.reduceEqDiff, Nat.reduceAdd, Nat.reduceLT, Nat.reduceLeDiff, Nat.reduceMul, Nat.reduceSub, Value.category, false_implies, true_and, and_true, Bool.false_eq_true, Option.some.injEq, exists_eq_left', Option.toList_some, Option.toList_none, ev_km, ev_k2, ev_k3, ev_k4, ev_k5, ev_l0, ev_l1, sh_1, sh_2, sh_3, sh_4, sh_5, at_X6_makeEven_33, at_X6_makeEven_39, at_X6_makeEven_8, ca_X6_40, ca_X6_83, ca_X6_86, cd_X6_makeEven_0, cd_X6_makeEven_33, cd_X6_makeEven_39, cd_X6_makeEven_8, fl_X6_14, ev_b_16, no_0, no_1, no_lt, no_le, no_eq, no_lt0, no_ge0, no_gt0, no_le0, no_eq0, no_0eq, no_eqm, no_meq, no_m0, no_mlt, no_mge, no_mgt, no_mm, no_i01, no_i10, no_in, no_or, no_ifm, no_mul, nI_add, no_sub, pk_div, iI_if, nI_clamp, oI_n, oI_s, not_true_eq_false, not_false_eq_true, forall_const, true_implies, false_and, and_false, or_false, false_or, Classical.not_not, true_or, or_true, no_b, no_eq1, eq_self, and_self, xk_0 hp, xk_1 hp, xk_2 hp, xk_3 hp, xk_4 hp, xk_5 hp, xk_6 hp, xk_7 hp, xk_8 hp, xk_9 hp, xk_10 hp, xk_11 hp, xk_12 hp, xk_13 hp, xk_14 hp, xk_15 hp, xk_16 hp, xk_17 hp, xk_18 hp, xk_19 hp, xk_20 hp, xk_21 hp, xl_1 hp, xl_2 hp, xl_3 hp, xl_4 hp, xl_6 hp, xl_8 hp, xl_10 hp, xl_12 hp, xl_14 hp, xl_15 hp, xl_17 hp, xl_18 hp, xl_21 hp, xp_7 hp, xp_8 hp, xp_9 hp, xp_10 hp, xp_11 hp, xp_12 hp, xp_13 hp, xp_14 hp, xp_15 hp, xp_16 hp, xp_17 hp, xp_t5 hp, xp_t7 hp, xp_t9 hp, xp_t11 hp, xp_t20 hp, xp_s19 hp, xp_a13 hp, xp_b13 hp, xp_a16 hp, xp_b16 hp, xc_r5 hp, xc_c5 hp, xc_r7 hp, xc_c7 hp, xc_r9 hp, xc_c9 hp, xc_r11 hp, xc_c11 hp, xc_r20 hp, xc_c20 hp, no_on, xev_n c]
          | exact rfl
          | (split <;> omega))
      · obtain ⟨g1, g2⟩ := sc_in hI hkn hq c
        have e0 : evN N q (mid N q) k 0 = N 0 := evN_ne (fun i hi => by omega)
        have e1 : evN N q (mid N q) k 1 = N 1 := evN_ne (fun i hi => by omega)
        have h4 := m_X6_put hok hp hPk hIk (i := k) (q := q) (v := mid N q) (by omega) (by omega) hm
        repeat' (first
          | (with_reducible refine ev_rid ?_; simp (disch := first | omega | assumption) only [ev_run_c, ev_run_n, ev_fj, ev_stp, ev_lk, ev_fv, ev_as, ev_sz, ev_st1, ev_st2, ev_rm, ev_pk, ev_Jof, ev_go, lv_args, List.map_cons, List.map_nil, List.zip_cons_cons, List.zip_nil_left, List.zip_nil_right, List.nil_append, List.cons_append, ↓reduceIte, reduceCtorEq, Int.reduceToNat, Nat.reduceEqDiff, Nat.reduceAdd, Nat.reduceLT, Nat.reduceLeDiff, Nat.reduceMul, Nat.reduceSub, Value.category, false_implies, true_and, and_true, Bool.false_eq_true, Option.some.injEq, exists_eq_left', Option.toList_some, Option.toList_none, ev_km, ev_k2, ev_k3, ev_k4, ev_k5, ev_l0, ev_l1, sh_1, sh_2, sh_3, sh_4, sh_5, at_X6_makeEven_33, at_X6_makeEven_39, at_X6_makeEven_8, ca_X6_40, ca_X6_83, ca_X6_86, cd_X6_makeEven_0, cd_X6_makeEven_33, cd_X6_makeEven_39, cd_X6_makeEven_8, fl_X6_14, ev_b_16, no_0, no_1, no_lt, no_le, no_eq, no_lt0, no_ge0, no_gt0, no_le0, no_eq0, no_0eq, no_eqm, no_meq, no_m0, no_mlt, no_mge, no_mgt, no_mm, no_i01, no_i10, no_in, no_or, no_ifm, no_mul, nI_add, no_sub, pk_div, iI_if, nI_clamp, oI_n, oI_s, not_true_eq_false, not_false_eq_true, forall_const, true_implies, false_and, and_false, or_false, false_or, Classical.not_not, true_or, or_true, no_b, no_eq1, eq_self, and_self, xk_0 hp, xk_1 hp, xk_2 hp, xk_3 hp, xk_4 hp, xk_5 hp, xk_6 hp, xk_7 hp, xk_8 hp, xk_9 hp, xk_10 hp, xk_11 hp, xk_12 hp, xk_13 hp, xk_14 hp, xk_15 hp, xk_16 hp, xk_17 hp, xk_18 hp, xk_19 hp, xk_20 hp, xk_21 hp, xl_1 hp, xl_2 hp, xl_3 hp, xl_4 hp, xl_6 hp, xl_8 hp, xl_10 hp, xl_12 hp, xl_14 hp, xl_15 hp, xl_17 hp, xl_18 hp, xl_21 hp, xp_7 hp, xp_8 hp, xp_9 hp, xp_10 hp, xp_11 hp, xp_12 hp, xp_13 hp, xp_14 hp, xp_15 hp, xp_16 hp, xp_17 hp, xp_t5 hp, xp_t7 hp, xp_t9 hp, xp_t11 hp, xp_t20 hp, xp_s19 hp, xp_a13 hp, xp_b13 hp, xp_a16 hp, xp_b16 hp, xc_r5 hp, xc_c5 hp, xc_r7 hp, xc_c7 hp, xc_r9 hp, xc_c9 hp, xc_r11 hp, xc_c11 hp, xc_r20 hp, xc_c20 hp, no_on, xev_y c])
          | (with_reducible refine ev_gid ?_; simp (disch := first | omega | assumption) only [ev_run_c, ev_run_n, ev_fj, ev_stp, ev_lk, ev_fv, ev_as, ev_sz, ev_st1, ev_st2, ev_rm, ev_pk, ev_Jof, ev_go, lv_args, List.map_cons, List.map_nil, List.zip_cons_cons, List.zip_nil_left, List.zip_nil_right, List.nil_append, List.cons_append, ↓reduceIte, reduceCtorEq, Int.reduceToNat, Nat.reduceEqDiff, Nat.reduceAdd, Nat.reduceLT, Nat.reduceLeDiff, Nat.reduceMul, Nat.reduceSub, Value.category, false_implies, true_and, and_true, Bool.false_eq_true, Option.some.injEq, exists_eq_left', Option.toList_some, Option.toList_none, ev_km, ev_k2, ev_k3, ev_k4, ev_k5, ev_l0, ev_l1, sh_1, sh_2, sh_3, sh_4, sh_5, at_X6_makeEven_33, at_X6_makeEven_39, at_X6_makeEven_8, ca_X6_40, ca_X6_83, ca_X6_86, cd_X6_makeEven_0, cd_X6_makeEven_33, cd_X6_makeEven_39, cd_X6_makeEven_8, fl_X6_14, ev_b_16, no_0, no_1, no_lt, no_le, no_eq, no_lt0, no_ge0, no_gt0, no_le0, no_eq0, no_0eq, no_eqm, no_meq, no_m0, no_mlt, no_mge, no_mgt, no_mm, no_i01, no_i10, no_in, no_or, no_ifm, no_mul, nI_add, no_sub, pk_div, iI_if, nI_clamp, oI_n, oI_s, not_true_eq_false, not_false_eq_true, forall_const, true_implies, false_and, and_false, or_false, false_or, Classical.not_not, true_or, or_true, no_b, no_eq1, eq_self, and_self, xk_0 hp, xk_1 hp, xk_2 hp, xk_3 hp, xk_4 hp, xk_5 hp, xk_6 hp, xk_7 hp, xk_8 hp, xk_9 hp, xk_10 hp, xk_11 hp, xk_12 hp, xk_13 hp, xk_14 hp, xk_15 hp, xk_16 hp, xk_17 hp, xk_18 hp, xk_19 hp, xk_20 hp, xk_21 hp, xl_1 hp, xl_2 hp, xl_3 hp, xl_4 hp, xl_6 hp, xl_8 hp, xl_10 hp, xl_12 hp, xl_14 hp, xl_15 hp, xl_17 hp, xl_18 hp, xl_21 hp, xp_7 hp, xp_8 hp, xp_9 hp, xp_10 hp, xp_11 hp, xp_12 hp, xp_13 hp, xp_14 hp, xp_15 hp, xp_16 hp, xp_17 hp, xp_t5 hp, xp_t7 hp, xp_t9 hp, xp_t11 hp, xp_t20 hp, xp_s19 hp, xp_a13 hp, xp_b13 hp, xp_a16 hp, xp_b16 hp, xc_r5 hp, xc_c5 hp, xc_r7 hp, xc_c7 hp, xc_r9 hp, xc_c9 hp, xc_r11 hp, xc_c11 hp, xc_r20 hp, xc_c20 hp, no_on, xev_y c])
          | (with_reducible refine And.intro (fun q => ?_) (fun q => ?_) <;> (try simp (disch := first | omega | assumption) only [no_0, no_1, no_lt, no_le, no_eq, no_lt0, no_ge0, no_gt0, no_le0, no_eq0, no_0eq, no_eqm, no_meq, no_m0, no_mlt, no_mge, no_mgt, no_mm, no_i01, no_i10, no_in, no_or, no_ifm, no_mul, nI_add, no_sub, pk_div, iI_if, nI_clamp, oI_n, oI_s, not_true_eq_false, not_false_eq_true, forall_const, true_implies, false_and, and_false, or_false, false_or, Classical.not_not, true_or, or_true, no_b, no_eq1, eq_self, and_self, xk_0 hp, xk_1 hp, xk_2 hp, xk_3 hp, xk_4 hp, xk_5 hp, xk_6 hp, xk_7 hp, xk_8 hp, xk_9 hp, xk_10 hp, xk_11 hp, xk_12 hp, xk_13 hp, xk_14 hp, xk_15 hp, xk_16 hp, xk_17 hp, xk_18 hp, xk_19 hp, xk_20 hp, xk_21 hp, xl_1 hp, xl_2 hp, xl_3 hp, xl_4 hp, xl_6 hp, xl_8 hp, xl_10 hp, xl_12 hp, xl_14 hp, xl_15 hp, xl_17 hp, xl_18 hp, xl_21 hp, xp_7 hp, xp_8 hp, xp_9 hp, xp_10 hp, xp_11 hp, xp_12 hp, xp_13 hp, xp_14 hp, xp_15 hp, xp_16 hp, xp_17 hp, xp_t5 hp, xp_t7 hp, xp_t9 hp, xp_t11 hp, xp_t20 hp, xp_s19 hp, xp_a13 hp, xp_b13 hp, xp_a16 hp, xp_b16 hp, xc_r5 hp, xc_c5 hp, xc_r7 hp, xc_c7 hp, xc_r9 hp, xc_c9 hp, xc_r11 hp, xc_c11 hp, xc_r20 hp, xc_c20 hp, no_on, xev_y c] at q))
          | (with_reducible refine ev_ci h1 ?_)
          | (with_reducible refine ev_ci h4 ?_)
          | with_reducible refine ev_ci (m_X6_middle hok hp (by with_reducible assumption) (by with_reducible assumption) ?_ ?_) ?_
          | with_reducible refine ev_ci (m_get_sc hok hp (by with_reducible assumption) ?_ ?_) ?_
          | with_reducible refine ev_ci (m_get_de hok hp (by with_reducible assumption) ?_ ?_) ?_
          | with_reducible refine ev_ci (m_get_bi hok hp (by with_reducible assumption) ?_ ?_) ?_
          | with_reducible refine ev_ci (m_get_tg hok hp (by with_reducible assumption) ?_ ?_) ?_
          | with_reducible refine ev_ci (m_get_ta hok hp (by with_reducible assumption) ?_ ?_) ?_
          | with_reducible refine ev_ci (m_X6_put hok hp (by with_reducible assumption) (by with_reducible assumption) ?_ ?_ ?_) ?_
          | omega
          | with_reducible assumption
          | with_reducible rfl
          | (refine Nat.lt_of_lt_of_le ?_ (Nat.le_refl 312); omega)
          | with_reducible refine lp_nx ?_ ?_ ?_ ?_
          | with_reducible refine lp_st ?_ ?_ ?_
          | with_reducible refine ls_c ?_ ?_
          | with_reducible refine vi_c ?_
          | with_reducible refine re_c ?_
          | with_reducible refine vz_c ?_
          | with_reducible refine rz_c ?_
          | exact trivial
          | with_reducible refine And.intro ?_ ?_
          | simp (disch := first | omega | assumption) only [ev_run_c, ev_run_n, ev_fj, ev_stp, ev_lk, ev_fv, ev_as, ev_sz, ev_st1, ev_st2, ev_rm, ev_pk, ev_Jof, ev_go, lv_args, List.map_cons, List.map_nil, List.zip_cons_cons, List.zip_nil_left, List.zip_nil_right, List.nil_append, List.cons_append, ↓reduceIte, reduceCtorEq, Int.reduceToNat, Nat.reduceEqDiff, Nat.reduceAdd, Nat.reduceLT, Nat.reduceLeDiff, Nat.reduceMul, Nat.reduceSub, Value.category, false_implies, true_and, and_true, Bool.false_eq_true, Option.some.injEq, exists_eq_left', Option.toList_some, Option.toList_none, ev_km, ev_k2, ev_k3, ev_k4, ev_k5, ev_l0, ev_l1, sh_1, sh_2, sh_3, sh_4, sh_5, at_X6_makeEven_33, at_X6_makeEven_39, at_X6_makeEven_8, ca_X6_40, ca_X6_83, ca_X6_86, cd_X6_makeEven_0, cd_X6_makeEven_33, cd_X6_makeEven_39, cd_X6_makeEven_8, fl_X6_14, ev_b_16, no_0, no_1, no_lt, no_le, no_eq, no_lt0, no_ge0, no_gt0, no_le0, no_eq0, no_0eq, no_eqm, no_meq, no_m0, no_mlt, no_mge, no_mgt, no_mm, no_i01, no_i10, no_in, no_or, no_ifm, no_mul, nI_add, no_sub, pk_div, iI_if, nI_clamp, oI_n, oI_s, not_true_eq_false, not_false_eq_true, forall_const, true_implies, false_and, and_false, or_false, false_or, Classical.not_not, true_or, or_true, no_b, no_eq1, eq_self, and_self, xk_0 hp, xk_1 hp, xk_2 hp, xk_3 hp, xk_4 hp, xk_5 hp, xk_6 hp, xk_7 hp, xk_8 hp, xk_9 hp, xk_10 hp, xk_11 hp, xk_12 hp, xk_13 hp, xk_14 hp, xk_15 hp, xk_16 hp, xk_17 hp, xk_18 hp, xk_19 hp, xk_20 hp, xk_21 hp, xl_1 hp, xl_2 hp, xl_3 hp, xl_4 hp, xl_6 hp, xl_8 hp, xl_10 hp, xl_12 hp, xl_14 hp, xl_15 hp, xl_17 hp, xl_18 hp, xl_21 hp, xp_7 hp, xp_8 hp, xp_9 hp, xp_10 hp, xp_11 hp, xp_12 hp, xp_13 hp, xp_14 hp, xp_15 hp, xp_16 hp, xp_17 hp, xp_t5 hp, xp_t7 hp, xp_t9 hp, xp_t11 hp, xp_t20 hp, xp_s19 hp, xp_a13 hp, xp_b13 hp, xp_a16 hp, xp_b16 hp, xc_r5 hp, xc_c5 hp, xc_r7 hp, xc_c7 hp, xc_r9 hp, xc_c9 hp, xc_r11 hp, xc_c11 hp, xc_r20 hp, xc_c20 hp, no_on, xev_y c]
          | exact rfl
          | (split <;> omega))
    · have e : k = 16 := by omega
      subst e
      repeat' (first
        | (with_reducible refine ev_rid ?_; simp (disch := first | omega | assumption) only [ev_run_c, ev_run_n, ev_fj, ev_stp, ev_lk, ev_fv, ev_as, ev_sz, ev_st1, ev_st2, ev_rm, ev_pk, ev_Jof, ev_go, lv_args, List.map_cons, List.map_nil, List.zip_cons_cons, List.zip_nil_left, List.zip_nil_right, List.nil_append, List.cons_append, ↓reduceIte, reduceCtorEq, Int.reduceToNat, Nat.reduceEqDiff, Nat.reduceAdd, Nat.reduceLT, Nat.reduceLeDiff, Nat.reduceMul, Nat.reduceSub, Value.category, false_implies, true_and, and_true, Bool.false_eq_true, Option.some.injEq, exists_eq_left', Option.toList_some, Option.toList_none, ev_km, ev_k2, ev_k3, ev_k4, ev_k5, ev_l0, ev_l1, sh_1, sh_2, sh_3, sh_4, sh_5, at_X6_makeEven_33, at_X6_makeEven_39, at_X6_makeEven_8, ca_X6_40, ca_X6_83, ca_X6_86, cd_X6_makeEven_0, cd_X6_makeEven_33, cd_X6_makeEven_39, cd_X6_makeEven_8, fl_X6_14, ev_b_16, no_0, no_1, no_lt, no_le, no_eq, no_lt0, no_ge0, no_gt0, no_le0, no_eq0, no_0eq, no_eqm, no_meq, no_m0, no_mlt, no_mge, no_mgt, no_mm, no_i01, no_i10, no_in, no_or, no_ifm, no_mul, nI_add, no_sub, pk_div, iI_if, nI_clamp, oI_n, oI_s, not_true_eq_false, not_false_eq_true, forall_const, true_implies, false_and, and_false, or_false, false_or, Classical.not_not, true_or, or_true, no_b, no_eq1, eq_self, and_self, xk_0 hp, xk_1 hp, xk_2 hp, xk_3 hp, xk_4 hp, xk_5 hp, xk_6 hp, xk_7 hp, xk_8 hp, xk_9 hp, xk_10 hp, xk_11 hp, xk_12 hp, xk_13 hp, xk_14 hp, xk_15 hp, xk_16 hp, xk_17 hp, xk_18 hp, xk_19 hp, xk_20 hp, xk_21 hp, xl_1 hp, xl_2 hp, xl_3 hp, xl_4 hp, xl_6 hp, xl_8 hp, xl_10 hp, xl_12 hp, xl_14 hp, xl_15 hp, xl_17 hp, xl_18 hp, xl_21 hp, xp_7 hp, xp_8 hp, xp_9 hp, xp_10 hp, xp_11 hp, xp_12 hp, xp_13 hp, xp_14 hp, xp_15 hp, xp_16 hp, xp_17 hp, xp_t5 hp, xp_t7 hp, xp_t9 hp, xp_t11 hp, xp_t20 hp, xp_s19 hp, xp_a13 hp, xp_b13 hp, xp_a16 hp, xp_b16 hp, xc_r5 hp, xc_c5 hp, xc_r7 hp, xc_c7 hp, xc_r9 hp, xc_c9 hp, xc_r11 hp, xc_c11 hp, xc_r20 hp, xc_c20 hp, no_on])
        | (with_reducible refine ev_gid ?_; simp (disch := first | omega | assumption) only [ev_run_c, ev_run_n, ev_fj, ev_stp, ev_lk, ev_fv, ev_as, ev_sz, ev_st1, ev_st2, ev_rm, ev_pk, ev_Jof, ev_go, lv_args, List.map_cons, List.map_nil, List.zip_cons_cons, List.zip_nil_left, List.zip_nil_right, List.nil_append, List.cons_append, ↓reduceIte, reduceCtorEq, Int.reduceToNat, Nat.reduceEqDiff, Nat.reduceAdd, Nat.reduceLT, Nat.reduceLeDiff, Nat.reduceMul, Nat.reduceSub, Value.category, false_implies, true_and, and_true, Bool.false_eq_true, Option.some.injEq, exists_eq_left', Option.toList_some, Option.toList_none, ev_km, ev_k2, ev_k3, ev_k4, ev_k5, ev_l0, ev_l1, sh_1, sh_2, sh_3, sh_4, sh_5, at_X6_makeEven_33, at_X6_makeEven_39, at_X6_makeEven_8, ca_X6_40, ca_X6_83, ca_X6_86, cd_X6_makeEven_0, cd_X6_makeEven_33, cd_X6_makeEven_39, cd_X6_makeEven_8, fl_X6_14, ev_b_16, no_0, no_1, no_lt, no_le, no_eq, no_lt0, no_ge0, no_gt0, no_le0, no_eq0, no_0eq, no_eqm, no_meq, no_m0, no_mlt, no_mge, no_mgt, no_mm, no_i01, no_i10, no_in, no_or, no_ifm, no_mul, nI_add, no_sub, pk_div, iI_if, nI_clamp, oI_n, oI_s, not_true_eq_false, not_false_eq_true, forall_const, true_implies, false_and, and_false, or_false, false_or, Classical.not_not, true_or, or_true, no_b, no_eq1, eq_self, and_self, xk_0 hp, xk_1 hp, xk_2 hp, xk_3 hp, xk_4 hp, xk_5 hp, xk_6 hp, xk_7 hp, xk_8 hp, xk_9 hp, xk_10 hp, xk_11 hp, xk_12 hp, xk_13 hp, xk_14 hp, xk_15 hp, xk_16 hp, xk_17 hp, xk_18 hp, xk_19 hp, xk_20 hp, xk_21 hp, xl_1 hp, xl_2 hp, xl_3 hp, xl_4 hp, xl_6 hp, xl_8 hp, xl_10 hp, xl_12 hp, xl_14 hp, xl_15 hp, xl_17 hp, xl_18 hp, xl_21 hp, xp_7 hp, xp_8 hp, xp_9 hp, xp_10 hp, xp_11 hp, xp_12 hp, xp_13 hp, xp_14 hp, xp_15 hp, xp_16 hp, xp_17 hp, xp_t5 hp, xp_t7 hp, xp_t9 hp, xp_t11 hp, xp_t20 hp, xp_s19 hp, xp_a13 hp, xp_b13 hp, xp_a16 hp, xp_b16 hp, xc_r5 hp, xc_c5 hp, xc_r7 hp, xc_c7 hp, xc_r9 hp, xc_c9 hp, xc_r11 hp, xc_c11 hp, xc_r20 hp, xc_c20 hp, no_on])
        | (with_reducible refine And.intro (fun q => ?_) (fun q => ?_) <;> (try simp (disch := first | omega | assumption) only [no_0, no_1, no_lt, no_le, no_eq, no_lt0, no_ge0, no_gt0, no_le0, no_eq0, no_0eq, no_eqm, no_meq, no_m0, no_mlt, no_mge, no_mgt, no_mm, no_i01, no_i10, no_in, no_or, no_ifm, no_mul, nI_add, no_sub, pk_div, iI_if, nI_clamp, oI_n, oI_s, not_true_eq_false, not_false_eq_true, forall_const, true_implies, false_and, and_false, or_false, false_or, Classical.not_not, true_or, or_true, no_b, no_eq1, eq_self, and_self, xk_0 hp, xk_1 hp, xk_2 hp, xk_3 hp, xk_4 hp, xk_5 hp, xk_6 hp, xk_7 hp, xk_8 hp, xk_9 hp, xk_10 hp, xk_11 hp, xk_12 hp, xk_13 hp, xk_14 hp, xk_15 hp, xk_16 hp, xk_17 hp, xk_18 hp, xk_19 hp, xk_20 hp, xk_21 hp, xl_1 hp, xl_2 hp, xl_3 hp, xl_4 hp, xl_6 hp, xl_8 hp, xl_10 hp, xl_12 hp, xl_14 hp, xl_15 hp, xl_17 hp, xl_18 hp, xl_21 hp, xp_7 hp, xp_8 hp, xp_9 hp, xp_10 hp, xp_11 hp, xp_12 hp, xp_13 hp, xp_14 hp, xp_15 hp, xp_16 hp, xp_17 hp, xp_t5 hp, xp_t7 hp, xp_t9 hp, xp_t11 hp, xp_t20 hp, xp_s19 hp, xp_a13 hp, xp_b13 hp, xp_a16 hp, xp_b16 hp, xc_r5 hp, xc_c5 hp, xc_r7 hp, xc_c7 hp, xc_r9 hp, xc_c9 hp, xc_r11 hp, xc_c11 hp, xc_r20 hp, xc_c20 hp, no_on] at q))
        | with_reducible refine ev_ci (m_X6_middle hok hp (by with_reducible assumption) (by with_reducible assumption) ?_ ?_) ?_
        | with_reducible refine ev_ci (m_get_sc hok hp (by with_reducible assumption) ?_ ?_) ?_
        | with_reducible refine ev_ci (m_get_de hok hp (by with_reducible assumption) ?_ ?_) ?_
        | with_reducible refine ev_ci (m_get_bi hok hp (by with_reducible assumption) ?_ ?_) ?_
        | with_reducible refine ev_ci (m_get_tg hok hp (by with_reducible assumption) ?_ ?_) ?_
        | with_reducible refine ev_ci (m_get_ta hok hp (by with_reducible assumption) ?_ ?_) ?_
        | with_reducible refine ev_ci (m_X6_put hok hp (by with_reducible assumption) (by with_reducible assumption) ?_ ?_ ?_) ?_
        | omega
        | with_reducible assumption
        | with_reducible rfl
        | (refine Nat.lt_of_lt_of_le ?_ (Nat.le_refl 312); omega)
        | with_reducible refine lp_nx ?_ ?_ ?_ ?_
        | with_reducible refine lp_st ?_ ?_ ?_
        | with_reducible refine ls_c ?_ ?_
        | with_reducible refine vi_c ?_
        | with_reducible refine re_c ?_
        | with_reducible refine vz_c ?_
        | with_reducible refine rz_c ?_
        | exact trivial
        | with_reducible refine And.intro ?_ ?_
        | simp (disch := first | omega | assumption) only [ev_run_c, ev_run_n, ev_fj, ev_stp, ev_lk, ev_fv, ev_as, ev_sz, ev_st1, ev_st2, ev_rm, ev_pk, ev_Jof, ev_go, lv_args, List.map_cons, List.map_nil, List.zip_cons_cons, List.zip_nil_left, List.zip_nil_right, List.nil_append, List.cons_append, ↓reduceIte, reduceCtorEq, Int.reduceToNat, Nat.reduceEqDiff, Nat.reduceAdd, Nat.reduceLT, Nat.reduceLeDiff, Nat.reduceMul, Nat.reduceSub, Value.category, false_implies, true_and, and_true, Bool.false_eq_true, Option.some.injEq, exists_eq_left', Option.toList_some, Option.toList_none, ev_km, ev_k2, ev_k3, ev_k4, ev_k5, ev_l0, ev_l1, sh_1, sh_2, sh_3, sh_4, sh_5, at_X6_makeEven_33, at_X6_makeEven_39, at_X6_makeEven_8, ca_X6_40, ca_X6_83, ca_X6_86, cd_X6_makeEven_0, cd_X6_makeEven_33, cd_X6_makeEven_39, cd_X6_makeEven_8, fl_X6_14, ev_b_16, no_0, no_1, no_lt, no_le, no_eq, no_lt0, no_ge0, no_gt0, no_le0, no_eq0, no_0eq, no_eqm, no_meq, no_m0, no_mlt, no_mge, no_mgt, no_mm, no_i01, no_i10, no_in, no_or, no_ifm, no_mul, nI_add, no_sub, pk_div, iI_if, nI_clamp, oI_n, oI_s, not_true_eq_false, not_false_eq_true, forall_const, true_implies, false_and, and_false, or_false, false_or, Classical.not_not, true_or, or_true, no_b, no_eq1, eq_self, and_self, xk_0 hp, xk_1 hp, xk_2 hp, xk_3 hp, xk_4 hp, xk_5 hp, xk_6 hp, xk_7 hp, xk_8 hp, xk_9 hp, xk_10 hp, xk_11 hp, xk_12 hp, xk_13 hp, xk_14 hp, xk_15 hp, xk_16 hp, xk_17 hp, xk_18 hp, xk_19 hp, xk_20 hp, xk_21 hp, xl_1 hp, xl_2 hp, xl_3 hp, xl_4 hp, xl_6 hp, xl_8 hp, xl_10 hp, xl_12 hp, xl_14 hp, xl_15 hp, xl_17 hp, xl_18 hp, xl_21 hp, xp_7 hp, xp_8 hp, xp_9 hp, xp_10 hp, xp_11 hp, xp_12 hp, xp_13 hp, xp_14 hp, xp_15 hp, xp_16 hp, xp_17 hp, xp_t5 hp, xp_t7 hp, xp_t9 hp, xp_t11 hp, xp_t20 hp, xp_s19 hp, xp_a13 hp, xp_b13 hp, xp_a16 hp, xp_b16 hp, xc_r5 hp, xc_c5 hp, xc_r7 hp, xc_c7 hp, xc_r9 hp, xc_c9 hp, xc_r11 hp, xc_c11 hp, xc_r20 hp, xc_c20 hp, no_on]
        | exact rfl
        | (split <;> omega))
  · rw [at_X6_makeEven_0]
    repeat' (first
      | (with_reducible refine ev_rid ?_; simp (disch := first | omega | assumption) only [ev_run_c, ev_run_n, ev_fj, ev_stp, ev_lk, ev_fv, ev_as, ev_sz, ev_st1, ev_st2, ev_rm, ev_pk, ev_Jof, ev_go, lv_args, List.map_cons, List.map_nil, List.zip_cons_cons, List.zip_nil_left, List.zip_nil_right, List.nil_append, List.cons_append, ↓reduceIte, reduceCtorEq, Int.reduceToNat, Nat.reduceEqDiff, Nat.reduceAdd, Nat.reduceLT, Nat.reduceLeDiff, Nat.reduceMul, Nat.reduceSub, Value.category, false_implies, true_and, and_true, Bool.false_eq_true, Option.some.injEq, exists_eq_left', Option.toList_some, Option.toList_none, ev_km, ev_k2, ev_k3, ev_k4, ev_k5, ev_l0, ev_l1, sh_1, sh_2, sh_3, sh_4, sh_5, at_X6_makeEven_33, at_X6_makeEven_39, at_X6_makeEven_8, ca_X6_40, ca_X6_83, ca_X6_86, cd_X6_makeEven_0, cd_X6_makeEven_33, cd_X6_makeEven_39, cd_X6_makeEven_8, fl_X6_14, ev_b_16, no_0, no_1, no_lt, no_le, no_eq, no_lt0, no_ge0, no_gt0, no_le0, no_eq0, no_0eq, no_eqm, no_meq, no_m0, no_mlt, no_mge, no_mgt, no_mm, no_i01, no_i10, no_in, no_or, no_ifm, no_mul, nI_add, no_sub, pk_div, iI_if, nI_clamp, oI_n, oI_s, not_true_eq_false, not_false_eq_true, forall_const, true_implies, false_and, and_false, or_false, false_or, Classical.not_not, true_or, or_true, no_b, no_eq1, eq_self, and_self, xk_0 hp, xk_1 hp, xk_2 hp, xk_3 hp, xk_4 hp, xk_5 hp, xk_6 hp, xk_7 hp, xk_8 hp, xk_9 hp, xk_10 hp, xk_11 hp, xk_12 hp, xk_13 hp, xk_14 hp, xk_15 hp, xk_16 hp, xk_17 hp, xk_18 hp, xk_19 hp, xk_20 hp, xk_21 hp, xl_1 hp, xl_2 hp, xl_3 hp, xl_4 hp, xl_6 hp, xl_8 hp, xl_10 hp, xl_12 hp, xl_14 hp, xl_15 hp, xl_17 hp, xl_18 hp, xl_21 hp, xp_7 hp, xp_8 hp, xp_9 hp, xp_10 hp, xp_11 hp, xp_12 hp, xp_13 hp, xp_14 hp, xp_15 hp, xp_16 hp, xp_17 hp, xp_t5 hp, xp_t7 hp, xp_t9 hp, xp_t11 hp, xp_t20 hp, xp_s19 hp, xp_a13 hp, xp_b13 hp, xp_a16 hp, xp_b16 hp, xc_r5 hp, xc_c5 hp, xc_r7 hp, xc_c7 hp, xc_r9 hp, xc_c9 hp, xc_r11 hp, xc_c11 hp, xc_r20 hp, xc_c20 hp, no_on])
      | (with_reducible refine ev_gid ?_; simp (disch := first | omega | assumption) only [ev_run_c, ev_run_n, ev_fj, ev_stp, ev_lk, ev_fv, ev_as, ev_sz, ev_st1, ev_st2, ev_rm, ev_pk, ev_Jof, ev_go, lv_args, List.map_cons, List.map_nil, List.zip_cons_cons, List.zip_nil_left, List.zip_nil_right, List.nil_append, List.cons_append, ↓reduceIte, reduceCtorEq, Int.reduceToNat, Nat.reduceEqDiff, Nat.reduceAdd, Nat.reduceLT, Nat.reduceLeDiff, Nat.reduceMul, Nat.reduceSub, Value.category, false_implies, true_and, and_true, Bool.false_eq_true, Option.some.injEq, exists_eq_left', Option.toList_some, Option.toList_none, ev_km, ev_k2, ev_k3, ev_k4, ev_k5, ev_l0, ev_l1, sh_1, sh_2, sh_3, sh_4, sh_5, at_X6_makeEven_33, at_X6_makeEven_39, at_X6_makeEven_8, ca_X6_40, ca_X6_83, ca_X6_86, cd_X6_makeEven_0, cd_X6_makeEven_33, cd_X6_makeEven_39, cd_X6_makeEven_8, fl_X6_14, ev_b_16, no_0, no_1, no_lt, no_le, no_eq, no_lt0, no_ge0, no_gt0, no_le0, no_eq0, no_0eq, no_eqm, no_meq, no_m0, no_mlt, no_mge, no_mgt, no_mm, no_i01, no_i10, no_in, no_or, no_ifm, no_mul, nI_add, no_sub, pk_div, iI_if, nI_clamp, oI_n, oI_s, not_true_eq_false, not_false_eq_true, forall_const, true_implies, false_and, and_false, or_false, false_or, Classical.not_not, true_or, or_true, no_b, no_eq1, eq_self, and_self, xk_0 hp, xk_1 hp, xk_2 hp, xk_3 hp, xk_4 hp, xk_5 hp, xk_6 hp, xk_7 hp, xk_8 hp, xk_9 hp, xk_10 hp, xk_11 hp, xk_12 hp, xk_13 hp, xk_14 hp, xk_15 hp, xk_16 hp, xk_17 hp, xk_18 hp, xk_19 hp, xk_20 hp, xk_21 hp, xl_1 hp, xl_2 hp, xl_3 hp, xl_4 hp, xl_6 hp, xl_8 hp, xl_10 hp, xl_12 hp, xl_14 hp, xl_15 hp, xl_17 hp, xl_18 hp, xl_21 hp, xp_7 hp, xp_8 hp, xp_9 hp, xp_10 hp, xp_11 hp, xp_12 hp, xp_13 hp, xp_14 hp, xp_15 hp, xp_16 hp, xp_17 hp, xp_t5 hp, xp_t7 hp, xp_t9 hp, xp_t11 hp, xp_t20 hp, xp_s19 hp, xp_a13 hp, xp_b13 hp, xp_a16 hp, xp_b16 hp, xc_r5 hp, xc_c5 hp, xc_r7 hp, xc_c7 hp, xc_r9 hp, xc_c9 hp, xc_r11 hp, xc_c11 hp, xc_r20 hp, xc_c20 hp, no_on])
      | (with_reducible refine And.intro (fun q => ?_) (fun q => ?_) <;> (try simp (disch := first | omega | assumption) only [no_0, no_1, no_lt, no_le, no_eq, no_lt0, no_ge0, no_gt0, no_le0, no_eq0, no_0eq, no_eqm, no_meq, no_m0, no_mlt, no_mge, no_mgt, no_mm, no_i01, no_i10, no_in, no_or, no_ifm, no_mul, nI_add, no_sub, pk_div, iI_if, nI_clamp, oI_n, oI_s, not_true_eq_false, not_false_eq_true, forall_const, true_implies, false_and, and_false, or_false, false_or, Classical.not_not, true_or, or_true, no_b, no_eq1, eq_self, and_self, xk_0 hp, xk_1 hp, xk_2 hp, xk_3 hp, xk_4 hp, xk_5 hp, xk_6 hp, xk_7 hp, xk_8 hp, xk_9 hp, xk_10 hp, xk_11 hp, xk_12 hp, xk_13 hp, xk_14 hp, xk_15 hp, xk_16 hp, xk_17 hp, xk_18 hp, xk_19 hp, xk_20 hp, xk_21 hp, xl_1 hp, xl_2 hp, xl_3 hp, xl_4 hp, xl_6 hp, xl_8 hp, xl_10 hp, xl_12 hp, xl_14 hp, xl_15 hp, xl_17 hp, xl_18 hp, xl_21 hp, xp_7 hp, xp_8 hp, xp_9 hp, xp_10 hp, xp_11 hp, xp_12 hp, xp_13 hp, xp_14 hp, xp_15 hp, xp_16 hp, xp_17 hp, xp_t5 hp, xp_t7 hp, xp_t9 hp, xp_t11 hp, xp_t20 hp, xp_s19 hp, xp_a13 hp, xp_b13 hp, xp_a16 hp, xp_b16 hp, xc_r5 hp, xc_c5 hp, xc_r7 hp, xc_c7 hp, xc_r9 hp, xc_c9 hp, xc_r11 hp, xc_c11 hp, xc_r20 hp, xc_c20 hp, no_on] at q))
      | (with_reducible refine ev_ci hmid ?_)
      | with_reducible refine ev_ci (m_X6_middle hok hp (by with_reducible assumption) (by with_reducible assumption) ?_ ?_) ?_
      | with_reducible refine ev_ci (m_get_sc hok hp (by with_reducible assumption) ?_ ?_) ?_
      | with_reducible refine ev_ci (m_get_de hok hp (by with_reducible assumption) ?_ ?_) ?_
      | with_reducible refine ev_ci (m_get_bi hok hp (by with_reducible assumption) ?_ ?_) ?_
      | with_reducible refine ev_ci (m_get_tg hok hp (by with_reducible assumption) ?_ ?_) ?_
      | with_reducible refine ev_ci (m_get_ta hok hp (by with_reducible assumption) ?_ ?_) ?_
      | with_reducible refine ev_ci (m_X6_put hok hp (by with_reducible assumption) (by with_reducible assumption) ?_ ?_ ?_) ?_
      | omega
      | with_reducible assumption
      | with_reducible rfl
      | (refine Nat.lt_of_lt_of_le ?_ (Nat.le_refl 312); omega)
      | with_reducible refine lp_nx ?_ ?_ ?_ ?_
      | with_reducible refine lp_st ?_ ?_ ?_
      | with_reducible refine ls_c ?_ ?_
      | with_reducible refine vi_c ?_
      | with_reducible refine re_c ?_
      | with_reducible refine vz_c ?_
      | with_reducible refine rz_c ?_
      | exact trivial
      | with_reducible refine And.intro ?_ ?_
      | simp (disch := first | omega | assumption) only [ev_run_c, ev_run_n, ev_fj, ev_stp, ev_lk, ev_fv, ev_as, ev_sz, ev_st1, ev_st2, ev_rm, ev_pk, ev_Jof, ev_go, lv_args, List.map_cons, List.map_nil, List.zip_cons_cons, List.zip_nil_left, List.zip_nil_right, List.nil_append, List.cons_append, ↓reduceIte, reduceCtorEq, Int.reduceToNat, Nat.reduceEqDiff, Nat.reduceAdd, Nat.reduceLT, Nat.reduceLeDiff, Nat.reduceMul, Nat.reduceSub, Value.category, false_implies, true_and, and_true, Bool.false_eq_true, Option.some.injEq, exists_eq_left', Option.toList_some, Option.toList_none, ev_km, ev_k2, ev_k3, ev_k4, ev_k5, ev_l0, ev_l1, sh_1, sh_2, sh_3, sh_4, sh_5, at_X6_makeEven_33, at_X6_makeEven_39, at_X6_makeEven_8, ca_X6_40, ca_X6_83, ca_X6_86, cd_X6_makeEven_0, cd_X6_makeEven_33, cd_X6_makeEven_39, cd_X6_makeEven_8, fl_X6_14, ev_b_16, no_0, no_1, no_lt, no_le, no_eq, no_lt0, no_ge0, no_gt0, no_le0, no_eq0, no_0eq, no_eqm, no_meq, no_m0, no_mlt, no_mge, no_mgt, no_mm, no_i01, no_i10, no_in, no_or, no_ifm, no_mul, nI_add, no_sub, pk_div, iI_if, nI_clamp, oI_n, oI_s, not_true_eq_false, not_false_eq_true, forall_const, true_implies, false_and, and_false, or_false, false_or, Classical.not_not, true_or, or_true, no_b, no_eq1, eq_self, and_self, xk_0 hp, xk_1 hp, xk_2 hp, xk_3 hp, xk_4 hp, xk_5 hp, xk_6 hp, xk_7 hp, xk_8 hp, xk_9 hp, xk_10 hp, xk_11 hp, xk_12 hp, xk_13 hp, xk_14 hp, xk_15 hp, xk_16 hp, xk_17 hp, xk_18 hp, xk_19 hp, xk_20 hp, xk_21 hp, xl_1 hp, xl_2 hp, xl_3 hp, xl_4 hp, xl_6 hp, xl_8 hp, xl_10 hp, xl_12 hp, xl_14 hp, xl_15 hp, xl_17 hp, xl_18 hp, xl_21 hp, xp_7 hp, xp_8 hp, xp_9 hp, xp_10 hp, xp_11 hp, xp_12 hp, xp_13 hp, xp_14 hp, xp_15 hp, xp_16 hp, xp_17 hp, xp_t5 hp, xp_t7 hp, xp_t9 hp, xp_t11 hp, xp_t20 hp, xp_s19 hp, xp_a13 hp, xp_b13 hp, xp_a16 hp, xp_b16 hp, xc_r5 hp, xc_c5 hp, xc_r7 hp, xc_c7 hp, xc_r9 hp, xc_c9 hp, xc_r11 hp, xc_c11 hp, xc_r20 hp, xc_c20 hp, no_on]
      | exact rfl
      | (split <;> omega))
end XOps
