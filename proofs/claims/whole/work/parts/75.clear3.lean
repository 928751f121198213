/-! ===== the class: a panel cleared, 2 ===== -/
section XClear3
variable {G : ev_G} {N : Nat → Nat} {μ : ev_M} {p : Nat}
theorem clL1 (hok : ev_ok sh_S G) (hp : p ∈ sh_B) : ev_T sh_S G mi_J7_fill_d0a16 [.ref (p + 1), .long 0] μ (.inl (none, filL μ (p + 1) 16)) := by
  have hlt := xp_lt hp
  exact m_J7_fillL hok (by omega) (xk_1 hp) (xl_1 hp) (by omega)
theorem clR2 (hok : ev_ok sh_S G) (hp : p ∈ sh_B) : ev_T sh_S G mi_J7_fill_53178 [.ref (p + 2), .int (nI 0)] μ (.inl (none, fil μ (p + 2) 16)) := by
  have hlt := xp_lt hp
  exact m_J7_fill hok (by omega) (xk_2 hp) (xl_2 hp) (by omega)
theorem clR3 (hok : ev_ok sh_S G) (hp : p ∈ sh_B) : ev_T sh_S G mi_J7_fill_53178 [.ref (p + 3), .int (nI 0)] μ (.inl (none, fil μ (p + 3) 16)) := by
  have hlt := xp_lt hp
  exact m_J7_fill hok (by omega) (xk_3 hp) (xl_3 hp) (by omega)
theorem clR4 (hok : ev_ok sh_S G) (hp : p ∈ sh_B) : ev_T sh_S G mi_J7_fill_53178 [.ref (p + 4), .int (nI 0)] μ (.inl (none, fil μ (p + 4) 10)) := by
  have hlt := xp_lt hp
  exact m_J7_fill hok (by omega) (xk_4 hp) (xl_4 hp) (by omega)
theorem clT5 (hok : ev_ok sh_S G) (hp : p ∈ sh_B) : ev_T sh_S G mi_X8_clear [.ref (p + 5)] μ (.inl (none, fil μ (p + 6) 64)) := m_X8_clear hok (sh_T5 hp) (xp_t5 hp)
theorem clT7 (hok : ev_ok sh_S G) (hp : p ∈ sh_B) : ev_T sh_S G mi_X8_clear [.ref (p + 7)] μ (.inl (none, fil μ (p + 8) 256)) := m_X8_clear hok (sh_T7 hp) (xp_t7 hp)
theorem clT9 (hok : ev_ok sh_S G) (hp : p ∈ sh_B) : ev_T sh_S G mi_X8_clear [.ref (p + 9)] μ (.inl (none, fil μ (p + 10) 160)) := m_X8_clear hok (sh_T9 hp) (xp_t9 hp)
theorem clT11 (hok : ev_ok sh_S G) (hp : p ∈ sh_B) : ev_T sh_S G mi_X8_clear [.ref (p + 11)] μ (.inl (none, fil μ (p + 12) 160)) := m_X8_clear hok (sh_T11 hp) (xp_t11 hp)
theorem clP13 (hok : ev_ok sh_S G) (hp : p ∈ sh_B) : ev_T sh_S G mi_X5_clear [.ref (p + 13)] μ (.inl (none, fil μ (p + 14) 10)) := m_X5_clear hok (sh_PL13 hp) (xp_a13 hp)
theorem clP16 (hok : ev_ok sh_S G) (hp : p ∈ sh_B) : ev_T sh_S G mi_X5_clear [.ref (p + 16)] μ (.inl (none, fil μ (p + 17) 10)) := m_X5_clear hok (sh_PL16 hp) (xp_a16 hp)
def x_clH (p : Nat) (μ : ev_M) : ev_M := w1 (w1 (w1 (w1 (w1 (w1 (w1 μ p 0 (nI 0)) p 1 (nI 0)) p 2 (nI 0)) p 3 (nI 0)) p 4 (nI 0)) p 5 (nI 0)) p 6 (nI 0)
def x_clP (p : Nat) (μ : ev_M) : ev_M := x_clS p (fil (fil (fil (fil (fil (fil (fil (fil (fil (filL (x_clH p μ) (p + 1) 16) (p + 2) 16) (p + 3) 16) (p + 4) 10) (p + 6) 64) (p + 8) 256) (p + 10) 160) (p + 12) 160) (p + 14) 10) (p + 17) 10)
set_option maxRecDepth 20000 in
theorem m_X4_clear (hok : ev_ok sh_S G) (hp : p ∈ sh_B) : ev_T sh_S G mi_X4_clear [.ref p] μ (.inl (none, x_clP p μ)) := by
  have hlt := xp_lt hp
  unfold x_clP x_clH
  refine ev_tri hok okM_X4_clear (Nat.le_of_ble_eq_true rfl) 400 ?_
  rw [at_X4_clear_0]
  repeat' (first
    | (with_reducible refine ev_rid ?_; simp (disch := first | omega | assumption) only [ev_run_c, ev_run_n, ev_fj, ev_stp, ev_lk, ev_fv, ev_as, ev_sz, ev_st1, ev_st2, ev_rm, ev_pk, ev_Jof, ev_go, lv_args, List.map_cons, List.map_nil, List.zip_cons_cons, List.zip_nil_left, List.zip_nil_right, List.nil_append, List.cons_append, ↓reduceIte, reduceCtorEq, Int.reduceToNat, Nat.reduceEqDiff, Nat.reduceAdd, Nat.reduceLT, Nat.reduceLeDiff, Nat.reduceMul, Nat.reduceSub, Value.category, false_implies, true_and, and_true, Bool.false_eq_true, Option.some.injEq, exists_eq_left', Option.toList_some, Option.toList_none, ev_km, ev_k2, ev_k3, ev_k4, ev_k5, ev_l0, ev_l1, sh_1, sh_2, sh_3, sh_4, sh_5, ca_X4_83, ca_X4_89, ca_X4_92, ca_X4_95, ca_X4_96, cd_X4_clear_0, fl_X4_15, fl_X4_19, fl_X4_22, fl_X4_30, fl_X4_34, fl_X4_37, fl_X4_40, fl_X4_46, fl_X4_50, fl_X4_56, fl_X4_60, fl_X4_64, fl_X4_68, fl_X4_71, fl_X4_74, fl_X4_77, fl_X4_80, fl_X4_9, no_0, no_1, no_lt, no_le, no_eq, no_lt0, no_ge0, no_gt0, no_le0, no_eq0, no_0eq, no_eqm, no_meq, no_m0, no_mlt, no_mge, no_mgt, no_mm, no_i01, no_i10, no_in, no_or, no_ifm, no_mul, nI_add, no_sub, pk_div, iI_if, nI_clamp, oI_n, oI_s, not_true_eq_false, not_false_eq_true, forall_const, true_implies, false_and, and_false, or_false, false_or, Classical.not_not, true_or, or_true, no_b, no_eq1, eq_self, and_self, xk_0 hp, xk_1 hp, xk_2 hp, xk_3 hp, xk_4 hp, xk_5 hp, xk_6 hp, xk_7 hp, xk_8 hp, xk_9 hp, xk_10 hp, xk_11 hp, xk_12 hp, xk_13 hp, xk_14 hp, xk_15 hp, xk_16 hp, xk_17 hp, xk_18 hp, xk_19 hp, xk_20 hp, xk_21 hp, xl_1 hp, xl_2 hp, xl_3 hp, xl_4 hp, xl_6 hp, xl_8 hp, xl_10 hp, xl_12 hp, xl_14 hp, xl_15 hp, xl_17 hp, xl_18 hp, xl_21 hp, xp_7 hp, xp_8 hp, xp_9 hp, xp_10 hp, xp_11 hp, xp_12 hp, xp_13 hp, xp_14 hp, xp_15 hp, xp_16 hp, xp_17 hp, xp_t5 hp, xp_t7 hp, xp_t9 hp, xp_t11 hp, xp_t20 hp, xp_s19 hp, xp_a13 hp, xp_b13 hp, xp_a16 hp, xp_b16 hp, xc_r5 hp, xc_c5 hp, xc_r7 hp, xc_c7 hp, xc_r9 hp, xc_c9 hp, xc_r11 hp, xc_c11 hp, xc_r20 hp, xc_c20 hp, no_on, w1_d])
    | (with_reducible refine ev_gid ?_; simp (disch := first | omega | assumption) only [ev_run_c, ev_run_n, ev_fj, ev_stp, ev_lk, ev_fv, ev_as, ev_sz, ev_st1, ev_st2, ev_rm, ev_pk, ev_Jof, ev_go, lv_args, List.map_cons, List.map_nil, List.zip_cons_cons, List.zip_nil_left, List.zip_nil_right, List.nil_append, List.cons_append, ↓reduceIte, reduceCtorEq, Int.reduceToNat, Nat.reduceEqDiff, Nat.reduceAdd, Nat.reduceLT, Nat.reduceLeDiff, Nat.reduceMul, Nat.reduceSub, Value.category, false_implies, true_and, and_true, Bool.false_eq_true, Option.some.injEq, exists_eq_left', Option.toList_some, Option.toList_none, ev_km, ev_k2, ev_k3, ev_k4, ev_k5, ev_l0, ev_l1, sh_1, sh_2, sh_3, sh_4, sh_5, ca_X4_83, ca_X4_89, ca_X4_92, ca_X4_95, ca_X4_96, cd_X4_clear_0, fl_X4_15, fl_X4_19, fl_X4_22, fl_X4_30, fl_X4_34, fl_X4_37, fl_X4_40, fl_X4_46, fl_X4_50, fl_X4_56, fl_X4_60, fl_X4_64, fl_X4_68, fl_X4_71, fl_X4_74, fl_X4_77, fl_X4_80, fl_X4_9, no_0, no_1, no_lt, no_le, no_eq, no_lt0, no_ge0, no_gt0, no_le0, no_eq0, no_0eq, no_eqm, no_meq, no_m0, no_mlt, no_mge, no_mgt, no_mm, no_i01, no_i10, no_in, no_or, no_ifm, no_mul, nI_add, no_sub, pk_div, iI_if, nI_clamp, oI_n, oI_s, not_true_eq_false, not_false_eq_true, forall_const, true_implies, false_and, and_false, or_false, false_or, Classical.not_not, true_or, or_true, no_b, no_eq1, eq_self, and_self, xk_0 hp, xk_1 hp, xk_2 hp, xk_3 hp, xk_4 hp, xk_5 hp, xk_6 hp, xk_7 hp, xk_8 hp, xk_9 hp, xk_10 hp, xk_11 hp, xk_12 hp, xk_13 hp, xk_14 hp, xk_15 hp, xk_16 hp, xk_17 hp, xk_18 hp, xk_19 hp, xk_20 hp, xk_21 hp, xl_1 hp, xl_2 hp, xl_3 hp, xl_4 hp, xl_6 hp, xl_8 hp, xl_10 hp, xl_12 hp, xl_14 hp, xl_15 hp, xl_17 hp, xl_18 hp, xl_21 hp, xp_7 hp, xp_8 hp, xp_9 hp, xp_10 hp, xp_11 hp, xp_12 hp, xp_13 hp, xp_14 hp, xp_15 hp, xp_16 hp, xp_17 hp, xp_t5 hp, xp_t7 hp, xp_t9 hp, xp_t11 hp, xp_t20 hp, xp_s19 hp, xp_a13 hp, xp_b13 hp, xp_a16 hp, xp_b16 hp, xc_r5 hp, xc_c5 hp, xc_r7 hp, xc_c7 hp, xc_r9 hp, xc_c9 hp, xc_r11 hp, xc_c11 hp, xc_r20 hp, xc_c20 hp, no_on, w1_d])
    | (with_reducible refine And.intro (fun q => ?_) (fun q => ?_) <;> (try simp (disch := first | omega | assumption) only [no_0, no_1, no_lt, no_le, no_eq, no_lt0, no_ge0, no_gt0, no_le0, no_eq0, no_0eq, no_eqm, no_meq, no_m0, no_mlt, no_mge, no_mgt, no_mm, no_i01, no_i10, no_in, no_or, no_ifm, no_mul, nI_add, no_sub, pk_div, iI_if, nI_clamp, oI_n, oI_s, not_true_eq_false, not_false_eq_true, forall_const, true_implies, false_and, and_false, or_false, false_or, Classical.not_not, true_or, or_true, no_b, no_eq1, eq_self, and_self, xk_0 hp, xk_1 hp, xk_2 hp, xk_3 hp, xk_4 hp, xk_5 hp, xk_6 hp, xk_7 hp, xk_8 hp, xk_9 hp, xk_10 hp, xk_11 hp, xk_12 hp, xk_13 hp, xk_14 hp, xk_15 hp, xk_16 hp, xk_17 hp, xk_18 hp, xk_19 hp, xk_20 hp, xk_21 hp, xl_1 hp, xl_2 hp, xl_3 hp, xl_4 hp, xl_6 hp, xl_8 hp, xl_10 hp, xl_12 hp, xl_14 hp, xl_15 hp, xl_17 hp, xl_18 hp, xl_21 hp, xp_7 hp, xp_8 hp, xp_9 hp, xp_10 hp, xp_11 hp, xp_12 hp, xp_13 hp, xp_14 hp, xp_15 hp, xp_16 hp, xp_17 hp, xp_t5 hp, xp_t7 hp, xp_t9 hp, xp_t11 hp, xp_t20 hp, xp_s19 hp, xp_a13 hp, xp_b13 hp, xp_a16 hp, xp_b16 hp, xc_r5 hp, xc_c5 hp, xc_r7 hp, xc_c7 hp, xc_r9 hp, xc_c9 hp, xc_r11 hp, xc_c11 hp, xc_r20 hp, xc_c20 hp, no_on, w1_d] at q))
    | (with_reducible refine ev_ci (clL1 hok hp) ?_)
    | (with_reducible refine ev_ci (clR2 hok hp) ?_)
    | (with_reducible refine ev_ci (clR3 hok hp) ?_)
    | (with_reducible refine ev_ci (clR4 hok hp) ?_)
    | (with_reducible refine ev_ci (clT5 hok hp) ?_)
    | (with_reducible refine ev_ci (clT7 hok hp) ?_)
    | (with_reducible refine ev_ci (clT9 hok hp) ?_)
    | (with_reducible refine ev_ci (clT11 hok hp) ?_)
    | (with_reducible refine ev_ci (clP13 hok hp) ?_)
    | (with_reducible refine ev_ci (clP16 hok hp) ?_)
    | (with_reducible refine ev_ci (m_X6_clear hok hp) ?_)
    | exact Or.inl rfl
    | omega
    | with_reducible assumption
    | with_reducible rfl
    | (refine Nat.lt_of_lt_of_le ?_ (Nat.le_refl 312); omega)
    | with_reducible refine And.intro ?_ ?_
    | simp (disch := first | omega | assumption) only [ev_run_c, ev_run_n, ev_fj, ev_stp, ev_lk, ev_fv, ev_as, ev_sz, ev_st1, ev_st2, ev_rm, ev_pk, ev_Jof, ev_go, lv_args, List.map_cons, List.map_nil, List.zip_cons_cons, List.zip_nil_left, List.zip_nil_right, List.nil_append, List.cons_append, ↓reduceIte, reduceCtorEq, Int.reduceToNat, Nat.reduceEqDiff, Nat.reduceAdd, Nat.reduceLT, Nat.reduceLeDiff, Nat.reduceMul, Nat.reduceSub, Value.category, false_implies, true_and, and_true, Bool.false_eq_true, Option.some.injEq, exists_eq_left', Option.toList_some, Option.toList_none, ev_km, ev_k2, ev_k3, ev_k4, ev_k5, ev_l0, ev_l1, sh_1, sh_2, sh_3, sh_4, sh_5, ca_X4_83, ca_X4_89, ca_X4_92, ca_X4_95, ca_X4_96, cd_X4_clear_0, fl_X4_15, fl_X4_19, fl_X4_22, fl_X4_30, fl_X4_34, fl_X4_37, fl_X4_40, fl_X4_46, fl_X4_50, fl_X4_56, fl_X4_60, fl_X4_64, fl_X4_68, fl_X4_71, fl_X4_74, fl_X4_77, fl_X4_80, fl_X4_9, no_0, no_1, no_lt, no_le, no_eq, no_lt0, no_ge0, no_gt0, no_le0, no_eq0, no_0eq, no_eqm, no_meq, no_m0, no_mlt, no_mge, no_mgt, no_mm, no_i01, no_i10, no_in, no_or, no_ifm, no_mul, nI_add, no_sub, pk_div, iI_if, nI_clamp, oI_n, oI_s, not_true_eq_false, not_false_eq_true, forall_const, true_implies, false_and, and_false, or_false, false_or, Classical.not_not, true_or, or_true, no_b, no_eq1, eq_self, and_self, xk_0 hp, xk_1 hp, xk_2 hp, xk_3 hp, xk_4 hp, xk_5 hp, xk_6 hp, xk_7 hp, xk_8 hp, xk_9 hp, xk_10 hp, xk_11 hp, xk_12 hp, xk_13 hp, xk_14 hp, xk_15 hp, xk_16 hp, xk_17 hp, xk_18 hp, xk_19 hp, xk_20 hp, xk_21 hp, xl_1 hp, xl_2 hp, xl_3 hp, xl_4 hp, xl_6 hp, xl_8 hp, xl_10 hp, xl_12 hp, xl_14 hp, xl_15 hp, xl_17 hp, xl_18 hp, xl_21 hp, xp_7 hp, xp_8 hp, xp_9 hp, xp_10 hp, xp_11 hp, xp_12 hp, xp_13 hp, xp_14 hp, xp_15 hp, xp_16 hp, xp_17 hp, xp_t5 hp, xp_t7 hp, xp_t9 hp, xp_t11 hp, xp_t20 hp, xp_s19 hp, xp_a13 hp, xp_b13 hp, xp_a16 hp, xp_b16 hp, xc_r5 hp, xc_c5 hp, xc_r7 hp, xc_c7 hp, xc_r9 hp, xc_c9 hp, xc_r11 hp, xc_c11 hp, xc_r20 hp, xc_c20 hp, no_on, w1_d]
    | exact rfl)
theorem fl_1 {a n : Nat} : (filL μ a n).1 = μ.1 := rfl
theorem fl_2 {a n : Nat} : (filL μ a n).2.2 = μ.2.2 := rfl
theorem fl_y {a n x : Nat} (h : x < n) : (filL μ a n).2.1 a x = 0 := if_pos ⟨rfl, h⟩
theorem fl_n {a n c x : Nat} (h : ¬ (c = a ∧ x < n)) : (filL μ a n).2.1 c x = μ.2.1 c x := if_neg h
theorem clP_n {a x : Nat} (h : a < p ∨ p + 22 ≤ a) : (x_clP p μ).1 a x = μ.1 a x := by
  simp (disch := omega) only [x_clP, x_clS, x_clH, w1_s, w1_n, w1_2, fil_y, fil_n, fil_2, fl_1, fl_2, fl_y, fl_n]
theorem clP_l {a x : Nat} (h : ¬ a = p + 1) : (x_clP p μ).2.1 a x = μ.2.1 a x := by
  simp (disch := omega) only [x_clP, x_clS, x_clH, w1_s, w1_n, w1_2, fil_y, fil_n, fil_2, fl_1, fl_2, fl_y, fl_n]
theorem clP_2 : (x_clP p μ).2.2 = μ.2.2 := by
  simp (disch := omega) only [x_clP, x_clS, x_clH, w1_s, w1_n, w1_2, fil_y, fil_n, fil_2, fl_1, fl_2, fl_y, fl_n]
theorem clP_0 : (x_clP p μ).1 p 0 = nI 0 := by
  simp (disch := omega) only [x_clP, x_clS, x_clH, w1_s, w1_n, w1_2, fil_y, fil_n, fil_2, fl_1, fl_2, fl_y, fl_n]
/-- a panel cleared holds the row of zeros -/
theorem PR_cl : PR p (fun _ => 0) (x_clP p μ) := by
  refine ⟨⟨?_, ?_, ?_, ?_, ?_, ?_⟩, fun i hi => ?_, fun i hi => ?_, fun i hi => ?_, fun q hq => ?_, fun i t hi ht => ?_, fun i j hi hj => ?_, fun i q hi hq => ?_, fun i q hi hq => ?_, ⟨fun q hq => ?_, fun q k hq hk => absurd hk (Nat.not_lt_zero k)⟩, ⟨fun q hq => ?_, fun q k hq hk => absurd hk (Nat.not_lt_zero k)⟩, ⟨?_, ?_, ?_, ?_⟩, fun i q hi hq => ?_⟩
  · refine Eq.trans (b := nI 0) ?_ rfl
    simp (disch := omega) only [x_clP, x_clS, x_clH, w1_s, w1_n, w1_2, fil_y, fil_n, fil_2, fl_1, fl_2, fl_y, fl_n]
  · refine Eq.trans (b := nI 0) ?_ rfl
    simp (disch := omega) only [x_clP, x_clS, x_clH, w1_s, w1_n, w1_2, fil_y, fil_n, fil_2, fl_1, fl_2, fl_y, fl_n]
  · refine Eq.trans (b := nI 0) ?_ rfl
    simp (disch := omega) only [x_clP, x_clS, x_clH, w1_s, w1_n, w1_2, fil_y, fil_n, fil_2, fl_1, fl_2, fl_y, fl_n]
  · refine Eq.trans (b := nI 0) ?_ rfl
    simp (disch := omega) only [x_clP, x_clS, x_clH, w1_s, w1_n, w1_2, fil_y, fil_n, fil_2, fl_1, fl_2, fl_y, fl_n]
  · refine Eq.trans (b := nI 0) ?_ rfl
    simp (disch := omega) only [x_clP, x_clS, x_clH, w1_s, w1_n, w1_2, fil_y, fil_n, fil_2, fl_1, fl_2, fl_y, fl_n]
  · refine Eq.trans (b := nI 0) ?_ rfl
    simp (disch := omega) only [x_clP, x_clS, x_clH, w1_s, w1_n, w1_2, fil_y, fil_n, fil_2, fl_1, fl_2, fl_y, fl_n]
  · refine Eq.trans (b := 0) ?_ rfl
    simp (disch := omega) only [x_clP, x_clS, x_clH, w1_s, w1_n, w1_2, fil_y, fil_n, fil_2, fl_1, fl_2, fl_y, fl_n]
  · refine Eq.trans (b := nI 0) ?_ rfl
    simp (disch := omega) only [x_clP, x_clS, x_clH, w1_s, w1_n, w1_2, fil_y, fil_n, fil_2, fl_1, fl_2, fl_y, fl_n]
  · refine Eq.trans (b := nI 0) ?_ rfl
    simp (disch := omega) only [x_clP, x_clS, x_clH, w1_s, w1_n, w1_2, fil_y, fil_n, fil_2, fl_1, fl_2, fl_y, fl_n]
  · refine Eq.trans (b := nI 0) ?_ rfl
    simp (disch := omega) only [x_clP, x_clS, x_clH, w1_s, w1_n, w1_2, fil_y, fil_n, fil_2, fl_1, fl_2, fl_y, fl_n]
  · refine Eq.trans (b := nI 0) ?_ rfl
    simp (disch := omega) only [x_clP, x_clS, x_clH, w1_s, w1_n, w1_2, fil_y, fil_n, fil_2, fl_1, fl_2, fl_y, fl_n]
  · refine Eq.trans (b := nI 0) ?_ rfl
    simp (disch := omega) only [x_clP, x_clS, x_clH, w1_s, w1_n, w1_2, fil_y, fil_n, fil_2, fl_1, fl_2, fl_y, fl_n]
  · refine Eq.trans (b := nI 0) ?_ rfl
    simp (disch := omega) only [x_clP, x_clS, x_clH, w1_s, w1_n, w1_2, fil_y, fil_n, fil_2, fl_1, fl_2, fl_y, fl_n]
  · refine Eq.trans (b := nI 0) ?_ rfl
    simp (disch := omega) only [x_clP, x_clS, x_clH, w1_s, w1_n, w1_2, fil_y, fil_n, fil_2, fl_1, fl_2, fl_y, fl_n]
  · refine Eq.trans (b := nI 0) ?_ rfl
    simp (disch := omega) only [x_clP, x_clS, x_clH, w1_s, w1_n, w1_2, fil_y, fil_n, fil_2, fl_1, fl_2, fl_y, fl_n]
  · refine Eq.trans (b := nI 0) ?_ rfl
    simp (disch := omega) only [x_clP, x_clS, x_clH, w1_s, w1_n, w1_2, fil_y, fil_n, fil_2, fl_1, fl_2, fl_y, fl_n]
  · refine Eq.trans (b := nI 0) ?_ rfl
    simp (disch := omega) only [x_clP, x_clS, x_clH, w1_s, w1_n, w1_2, fil_y, fil_n, fil_2, fl_1, fl_2, fl_y, fl_n]
  · refine Eq.trans (b := nI 0) ?_ rfl
    simp (disch := omega) only [x_clP, x_clS, x_clH, w1_s, w1_n, w1_2, fil_y, fil_n, fil_2, fl_1, fl_2, fl_y, fl_n]
  · refine Eq.trans (b := nI 0) ?_ rfl
    simp (disch := omega) only [x_clP, x_clS, x_clH, w1_s, w1_n, w1_2, fil_y, fil_n, fil_2, fl_1, fl_2, fl_y, fl_n]
  · refine Eq.trans (b := nI 0) ?_ rfl
    simp (disch := omega) only [x_clP, x_clS, x_clH, w1_s, w1_n, w1_2, fil_y, fil_n, fil_2, fl_1, fl_2, fl_y, fl_n]
  · refine Eq.trans (b := nI 0) ?_ rfl
    simp (disch := omega) only [x_clP, x_clS, x_clH, w1_s, w1_n, w1_2, fil_y, fil_n, fil_2, fl_1, fl_2, fl_y, fl_n]
end XClear3
