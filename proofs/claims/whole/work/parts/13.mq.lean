/-! ===== the reference: seats ===== -/
section MSeats
variable {G : ev_G} {N : Nat → Nat} {μ : ev_M}
/-- conflicts: kitchens, partners, the reason -/
def nbr (N : Nat → Nat) (q i : Nat) : Nat → Nat := an (fun k => if N (8 + 59 * N (952 + 9 * q + (2 + k)) + 0) = N (8 + 59 * i + 0) then 1 else 0)
def frd (N : Nat → Nat) (q i : Nat) : Nat → Nat := an (fun k => if N (8 + 59 * i + (43 + N (952 + 9 * q + (2 + k)))) = 1 then 1 else 0)
def cf (N : Nat → Nat) (i q : Nat) : Nat :=
  if cP N q i (N (952 + 9 * q + 1)) < N (952 + 9 * q + 1) then 1
  else if nbr N q i (N (952 + 9 * q + 1)) = 1 then 2
  else if frd N q i (N (952 + 9 * q + 1)) = 1 then 3
  else if N (8 + 59 * i + (33 + q)) = 1 then 4 else 0
theorem cf_le (N : Nat → Nat) (i q : Nat) : cf N i q ≤ 4 := by unfold cf; (repeat' split) <;> omega
theorem nbr_s {N : Nat → Nat} {q i k b : Nat} (h : b = (if N (8 + 59 * N (952 + 9 * q + (2 + k)) + 0) = N (8 + 59 * i + 0) then 1 else 0)) : (if nbr N q i k + b = 0 then 0 else 1) = nbr N q i (k + 1) := by rw [h]; rfl
theorem frd_s {N : Nat → Nat} {q i k b : Nat} (h : b = (if N (8 + 59 * i + (43 + N (952 + 9 * q + (2 + k)))) = 1 then 1 else 0)) : (if frd N q i k + b = 0 then 0 else 1) = frd N q i (k + 1) := by rw [h]; rfl
theorem nbr_1 {N : Nat → Nat} {q i k : Nat} (h : N (8 + 59 * N (952 + 9 * q + (2 + k)) + 0) = N (8 + 59 * i + 0)) : 1 = nbr N q i (k + 1) := by
  show 1 = if nbr N q i k + (if N (8 + 59 * N (952 + 9 * q + (2 + k)) + 0) = N (8 + 59 * i + 0) then 1 else 0) = 0 then 0 else 1
  rw [if_pos h, if_neg (by omega)]
theorem frd_1 {N : Nat → Nat} {q i k : Nat} (h : N (8 + 59 * i + (43 + N (952 + 9 * q + (2 + k)))) = 1) : 1 = frd N q i (k + 1) := by
  show 1 = if frd N q i k + (if N (8 + 59 * i + (43 + N (952 + 9 * q + (2 + k)))) = 1 then 1 else 0) = 0 then 0 else 1
  rw [if_pos h, if_neg (by omega)]
set_option maxHeartbeats 2000000 in
theorem m_X11_conflictOf (hok : ev_ok sh_S G) (hN : MR N μ) (hI : INV N) {i q : Nat} (hi : i < 16) (hq : q < 10) : ev_T sh_S G mi_X11_conflictOf [.ref 301, .int (nI i), .int (nI q)] μ (.inl (some (.int (nI (cf N i q))), μ)) := by
  have hh := iv_h hI
  have hc := iv_q hI q hq
  have hck : ∀ k, k < N (952 + 9 * q + 1) → N (952 + 9 * q + (2 + k)) < 2 ^ 31 := fun k hk => by have := iv_ck hI q k hq hk; omega
  by_cases hcp : cP N q i (N (952 + 9 * q + 1)) < N (952 + 9 * q + 1)
  · have hcf : cf N i q = 1 := by unfold cf; rw [if_pos hcp]
    rw [hcf]
    refine ev_tri hok (okM_X11_conflictOf 0) (Nat.le_of_ble_eq_true rfl) 400 ?_
    rw [at_X11_conflictOf_0]
    repeat' (first
      | (with_reducible refine ev_rid ?_; simp (disch := first | omega | assumption) only [ev_run_c, ev_run_n, ev_fj, ev_stp, ev_lk, ev_fv, ev_as, ev_sz, ev_st1, ev_st2, ev_rm, ev_pk, ev_Jof, ev_go, lv_args, List.map_cons, List.map_nil, List.zip_cons_cons, List.zip_nil_left, List.zip_nil_right, List.nil_append, List.cons_append, ↓reduceIte, reduceCtorEq, Int.reduceToNat, Nat.reduceEqDiff, Nat.reduceAdd, Nat.reduceLT, Nat.reduceLeDiff, Nat.reduceMul, Value.category, false_implies, true_and, and_true, Bool.false_eq_true, Option.some.injEq, exists_eq_left', Option.toList_some, Option.toList_none, ev_km, ev_k2, ev_k3, ev_k4, ev_k5, ev_l0, ev_l1, sh_1, sh_2, sh_3, sh_4, sh_5, at_X11_conflictOf_101, at_X11_conflictOf_108, at_X11_conflictOf_117, at_X11_conflictOf_134, at_X11_conflictOf_135, at_X11_conflictOf_19, at_X11_conflictOf_28, at_X11_conflictOf_67, at_X11_conflictOf_68, at_X11_conflictOf_91, at_X11_conflictOf_92, ca_X11_121, ca_X11_156, ca_X11_195, cd_X11_conflictOf_0, cd_X11_conflictOf_101, cd_X11_conflictOf_108, cd_X11_conflictOf_117, cd_X11_conflictOf_134, cd_X11_conflictOf_135, cd_X11_conflictOf_19, cd_X11_conflictOf_28, cd_X11_conflictOf_67, cd_X11_conflictOf_68, cd_X11_conflictOf_91, cd_X11_conflictOf_92, ev_b_33, ev_b_43, no_0, no_1, no_lt, no_le, no_eq, no_lt0, no_ge0, no_gt0, no_le0, no_eq0, no_0eq, no_eqm, no_meq, no_m0, no_mlt, no_mge, no_mgt, no_mm, no_i01, no_i10, no_in, no_or, no_ifm, no_mul, nI_add, no_sub, pk_div, iI_if, nI_clamp, oI_n, oI_s, not_true_eq_false, not_false_eq_true, forall_const, true_implies, false_and, and_false, or_false, false_or, Classical.not_not, true_or, or_true, no_b, no_eq1, eq_self, and_self, sk_301, sk_302, sl_302, sp_301, hcp])
      | (with_reducible refine ev_gid ?_; simp (disch := first | omega | assumption) only [ev_run_c, ev_run_n, ev_fj, ev_stp, ev_lk, ev_fv, ev_as, ev_sz, ev_st1, ev_st2, ev_rm, ev_pk, ev_Jof, ev_go, lv_args, List.map_cons, List.map_nil, List.zip_cons_cons, List.zip_nil_left, List.zip_nil_right, List.nil_append, List.cons_append, ↓reduceIte, reduceCtorEq, Int.reduceToNat, Nat.reduceEqDiff, Nat.reduceAdd, Nat.reduceLT, Nat.reduceLeDiff, Nat.reduceMul, Value.category, false_implies, true_and, and_true, Bool.false_eq_true, Option.some.injEq, exists_eq_left', Option.toList_some, Option.toList_none, ev_km, ev_k2, ev_k3, ev_k4, ev_k5, ev_l0, ev_l1, sh_1, sh_2, sh_3, sh_4, sh_5, at_X11_conflictOf_101, at_X11_conflictOf_108, at_X11_conflictOf_117, at_X11_conflictOf_134, at_X11_conflictOf_135, at_X11_conflictOf_19, at_X11_conflictOf_28, at_X11_conflictOf_67, at_X11_conflictOf_68, at_X11_conflictOf_91, at_X11_conflictOf_92, ca_X11_121, ca_X11_156, ca_X11_195, cd_X11_conflictOf_0, cd_X11_conflictOf_101, cd_X11_conflictOf_108, cd_X11_conflictOf_117, cd_X11_conflictOf_134, cd_X11_conflictOf_135, cd_X11_conflictOf_19, cd_X11_conflictOf_28, cd_X11_conflictOf_67, cd_X11_conflictOf_68, cd_X11_conflictOf_91, cd_X11_conflictOf_92, ev_b_33, ev_b_43, no_0, no_1, no_lt, no_le, no_eq, no_lt0, no_ge0, no_gt0, no_le0, no_eq0, no_0eq, no_eqm, no_meq, no_m0, no_mlt, no_mge, no_mgt, no_mm, no_i01, no_i10, no_in, no_or, no_ifm, no_mul, nI_add, no_sub, pk_div, iI_if, nI_clamp, oI_n, oI_s, not_true_eq_false, not_false_eq_true, forall_const, true_implies, false_and, and_false, or_false, false_or, Classical.not_not, true_or, or_true, no_b, no_eq1, eq_self, and_self, sk_301, sk_302, sl_302, sp_301, hcp])
      | (with_reducible refine And.intro (fun q => ?_) (fun q => ?_) <;> (try simp (disch := first | omega | assumption) only [no_0, no_1, no_lt, no_le, no_eq, no_lt0, no_ge0, no_gt0, no_le0, no_eq0, no_0eq, no_eqm, no_meq, no_m0, no_mlt, no_mge, no_mgt, no_mm, no_i01, no_i10, no_in, no_or, no_ifm, no_mul, nI_add, no_sub, pk_div, iI_if, nI_clamp, oI_n, oI_s, not_true_eq_false, not_false_eq_true, forall_const, true_implies, false_and, and_false, or_false, false_or, Classical.not_not, true_or, or_true, no_b, no_eq1, eq_self, and_self, sk_301, sk_302, sl_302, sp_301, hcp] at q))
      | with_reducible refine ev_ci (m_X11_ofCake hok (by assumption) ?_ ?_) ?_
      | with_reducible refine ev_ci (m_X11_cooks hok (by assumption) ?_ ?_ ?_ ?_) ?_
      | with_reducible refine ev_ci (m_X11_of hok (by assumption) ?_ ?_) ?_
      | omega
      | assumption
      | with_reducible rfl
      | with_reducible refine lp_nx ?_ ?_ ?_ ?_
      | with_reducible refine lp_st ?_ ?_ ?_
      | with_reducible refine ls_c ?_ ?_
      | with_reducible refine vi_c ?_
      | with_reducible refine re_c ?_
      | with_reducible refine vz_c ?_
      | with_reducible refine rz_c ?_
      | exact trivial
      | with_reducible refine And.intro ?_ ?_
      | simp (disch := first | omega | assumption) only [ev_run_c, ev_run_n, ev_fj, ev_stp, ev_lk, ev_fv, ev_as, ev_sz, ev_st1, ev_st2, ev_rm, ev_pk, ev_Jof, ev_go, lv_args, List.map_cons, List.map_nil, List.zip_cons_cons, List.zip_nil_left, List.zip_nil_right, List.nil_append, List.cons_append, ↓reduceIte, reduceCtorEq, Int.reduceToNat, Nat.reduceEqDiff, Nat.reduceAdd, Nat.reduceLT, Nat.reduceLeDiff, Nat.reduceMul, Value.category, false_implies, true_and, and_true, Bool.false_eq_true, Option.some.injEq, exists_eq_left', Option.toList_some, Option.toList_none, ev_km, ev_k2, ev_k3, ev_k4, ev_k5, ev_l0, ev_l1, sh_1, sh_2, sh_3, sh_4, sh_5, at_X11_conflictOf_101, at_X11_conflictOf_108, at_X11_conflictOf_117, at_X11_conflictOf_134, at_X11_conflictOf_135, at_X11_conflictOf_19, at_X11_conflictOf_28, at_X11_conflictOf_67, at_X11_conflictOf_68, at_X11_conflictOf_91, at_X11_conflictOf_92, ca_X11_121, ca_X11_156, ca_X11_195, cd_X11_conflictOf_0, cd_X11_conflictOf_101, cd_X11_conflictOf_108, cd_X11_conflictOf_117, cd_X11_conflictOf_134, cd_X11_conflictOf_135, cd_X11_conflictOf_19, cd_X11_conflictOf_28, cd_X11_conflictOf_67, cd_X11_conflictOf_68, cd_X11_conflictOf_91, cd_X11_conflictOf_92, ev_b_33, ev_b_43, no_0, no_1, no_lt, no_le, no_eq, no_lt0, no_ge0, no_gt0, no_le0, no_eq0, no_0eq, no_eqm, no_meq, no_m0, no_mlt, no_mge, no_mgt, no_mm, no_i01, no_i10, no_in, no_or, no_ifm, no_mul, nI_add, no_sub, pk_div, iI_if, nI_clamp, oI_n, oI_s, not_true_eq_false, not_false_eq_true, forall_const, true_implies, false_and, and_false, or_false, false_or, Classical.not_not, true_or, or_true, no_b, no_eq1, eq_self, and_self, sk_301, sk_302, sl_302, sp_301, hcp]
      | exact rfl
      | (split <;> omega))
  · refine ev_tri1 hok (okM_X11_conflictOf 0) (Nat.le_of_ble_eq_true rfl) 28 [0, 1, 2, 3, 4, 5, 6] (N (952 + 9 * q + 1)) 400 (fun k => [.ref 301, .int (nI i), .int (nI q), .int (nI (N (952 + 9 * q + 1))), .int (nI (nbr N q i k)), .int (nI (frd N q i k)), .int (nI k)]) (fun _ => μ) (fun _ => True) ?_ ?_
    · intro k hk _
      rw [at_X11_conflictOf_28]
      have h1 : nbr N q i k ≤ 1 := an_le _ _
      have h2 : frd N q i k ≤ 1 := an_le _ _
      rcases Nat.lt_or_ge k (N (952 + 9 * q + 1)) with hkn | hkn
      · have h3 := iv_ck hI q k hq hkn
        repeat' (first
          | (with_reducible refine ev_rid ?_; simp (disch := first | omega | assumption | (refine iv_31 hI ?_; omega)) only [ev_run_c, ev_run_n, ev_fj, ev_stp, ev_lk, ev_fv, ev_as, ev_sz, ev_st1, ev_st2, ev_rm, ev_pk, ev_Jof, ev_go, lv_args, List.map_cons, List.map_nil, List.zip_cons_cons, List.zip_nil_left, List.zip_nil_right, List.nil_append, List.cons_append, ↓reduceIte, reduceCtorEq, Int.reduceToNat, Nat.reduceEqDiff, Nat.reduceAdd, Nat.reduceLT, Nat.reduceLeDiff, Nat.reduceMul, Value.category, false_implies, true_and, and_true, Bool.false_eq_true, Option.some.injEq, exists_eq_left', Option.toList_some, Option.toList_none, ev_km, ev_k2, ev_k3, ev_k4, ev_k5, ev_l0, ev_l1, sh_1, sh_2, sh_3, sh_4, sh_5, at_X11_conflictOf_101, at_X11_conflictOf_108, at_X11_conflictOf_117, at_X11_conflictOf_134, at_X11_conflictOf_135, at_X11_conflictOf_19, at_X11_conflictOf_28, at_X11_conflictOf_67, at_X11_conflictOf_68, at_X11_conflictOf_91, at_X11_conflictOf_92, ca_X11_121, ca_X11_156, ca_X11_195, cd_X11_conflictOf_0, cd_X11_conflictOf_101, cd_X11_conflictOf_108, cd_X11_conflictOf_117, cd_X11_conflictOf_134, cd_X11_conflictOf_135, cd_X11_conflictOf_19, cd_X11_conflictOf_28, cd_X11_conflictOf_67, cd_X11_conflictOf_68, cd_X11_conflictOf_91, cd_X11_conflictOf_92, ev_b_33, ev_b_43, no_0, no_1, no_lt, no_le, no_eq, no_lt0, no_ge0, no_gt0, no_le0, no_eq0, no_0eq, no_eqm, no_meq, no_m0, no_mlt, no_mge, no_mgt, no_mm, no_i01, no_i10, no_in, no_or, no_ifm, no_mul, nI_add, no_sub, pk_div, iI_if, nI_clamp, oI_n, oI_s, not_true_eq_false, not_false_eq_true, forall_const, true_implies, false_and, and_false, or_false, false_or, Classical.not_not, true_or, or_true, no_b, no_eq1, eq_self, and_self, sk_301, sk_302, sl_302, sp_301])
          | (with_reducible refine ev_gid ?_; simp (disch := first | omega | assumption | (refine iv_31 hI ?_; omega)) only [ev_run_c, ev_run_n, ev_fj, ev_stp, ev_lk, ev_fv, ev_as, ev_sz, ev_st1, ev_st2, ev_rm, ev_pk, ev_Jof, ev_go, lv_args, List.map_cons, List.map_nil, List.zip_cons_cons, List.zip_nil_left, List.zip_nil_right, List.nil_append, List.cons_append, ↓reduceIte, reduceCtorEq, Int.reduceToNat, Nat.reduceEqDiff, Nat.reduceAdd, Nat.reduceLT, Nat.reduceLeDiff, Nat.reduceMul, Value.category, false_implies, true_and, and_true, Bool.false_eq_true, Option.some.injEq, exists_eq_left', Option.toList_some, Option.toList_none, ev_km, ev_k2, ev_k3, ev_k4, ev_k5, ev_l0, ev_l1, sh_1, sh_2, sh_3, sh_4, sh_5, at_X11_conflictOf_101, at_X11_conflictOf_108, at_X11_conflictOf_117, at_X11_conflictOf_134, at_X11_conflictOf_135, at_X11_conflictOf_19, at_X11_conflictOf_28, at_X11_conflictOf_67, at_X11_conflictOf_68, at_X11_conflictOf_91, at_X11_conflictOf_92, ca_X11_121, ca_X11_156, ca_X11_195, cd_X11_conflictOf_0, cd_X11_conflictOf_101, cd_X11_conflictOf_108, cd_X11_conflictOf_117, cd_X11_conflictOf_134, cd_X11_conflictOf_135, cd_X11_conflictOf_19, cd_X11_conflictOf_28, cd_X11_conflictOf_67, cd_X11_conflictOf_68, cd_X11_conflictOf_91, cd_X11_conflictOf_92, ev_b_33, ev_b_43, no_0, no_1, no_lt, no_le, no_eq, no_lt0, no_ge0, no_gt0, no_le0, no_eq0, no_0eq, no_eqm, no_meq, no_m0, no_mlt, no_mge, no_mgt, no_mm, no_i01, no_i10, no_in, no_or, no_ifm, no_mul, nI_add, no_sub, pk_div, iI_if, nI_clamp, oI_n, oI_s, not_true_eq_false, not_false_eq_true, forall_const, true_implies, false_and, and_false, or_false, false_or, Classical.not_not, true_or, or_true, no_b, no_eq1, eq_self, and_self, sk_301, sk_302, sl_302, sp_301])
          | (with_reducible refine And.intro (fun q => ?_) (fun q => ?_) <;> (try simp (disch := first | omega | assumption | (refine iv_31 hI ?_; omega)) only [no_0, no_1, no_lt, no_le, no_eq, no_lt0, no_ge0, no_gt0, no_le0, no_eq0, no_0eq, no_eqm, no_meq, no_m0, no_mlt, no_mge, no_mgt, no_mm, no_i01, no_i10, no_in, no_or, no_ifm, no_mul, nI_add, no_sub, pk_div, iI_if, nI_clamp, oI_n, oI_s, not_true_eq_false, not_false_eq_true, forall_const, true_implies, false_and, and_false, or_false, false_or, Classical.not_not, true_or, or_true, no_b, no_eq1, eq_self, and_self, sk_301, sk_302, sl_302, sp_301] at q))
          | with_reducible refine ev_ci (m_X11_ofCake hok (by assumption) ?_ ?_) ?_
          | with_reducible refine ev_ci (m_X11_cooks hok (by assumption) ?_ ?_ ?_ ?_) ?_
          | with_reducible refine ev_ci (m_X11_of hok (by assumption) ?_ ?_) ?_
          | omega
          | assumption
          | with_reducible rfl
          | (refine iv_31 hI ?_; omega)
          | refine nbr_s ?_
          | refine frd_s ?_
          | exact nbr_1 ‹_›
          | exact frd_1 ‹_›
          | with_reducible refine lp_nx ?_ ?_ ?_ ?_
          | with_reducible refine lp_st ?_ ?_ ?_
          | with_reducible refine ls_c ?_ ?_
          | with_reducible refine vi_c ?_
          | with_reducible refine re_c ?_
          | with_reducible refine vz_c ?_
          | with_reducible refine rz_c ?_
          | exact trivial
          | with_reducible refine And.intro ?_ ?_
          | simp (disch := first | omega | assumption | (refine iv_31 hI ?_; omega)) only [ev_run_c, ev_run_n, ev_fj, ev_stp, ev_lk, ev_fv, ev_as, ev_sz, ev_st1, ev_st2, ev_rm, ev_pk, ev_Jof, ev_go, lv_args, List.map_cons, List.map_nil, List.zip_cons_cons, List.zip_nil_left, List.zip_nil_right, List.nil_append, List.cons_append, ↓reduceIte, reduceCtorEq, Int.reduceToNat, Nat.reduceEqDiff, Nat.reduceAdd, Nat.reduceLT, Nat.reduceLeDiff, Nat.reduceMul, Value.category, false_implies, true_and, and_true, Bool.false_eq_true, Option.some.injEq, exists_eq_left', Option.toList_some, Option.toList_none, ev_km, ev_k2, ev_k3, ev_k4, ev_k5, ev_l0, ev_l1, sh_1, sh_2, sh_3, sh_4, sh_5, at_X11_conflictOf_101, at_X11_conflictOf_108, at_X11_conflictOf_117, at_X11_conflictOf_134, at_X11_conflictOf_135, at_X11_conflictOf_19, at_X11_conflictOf_28, at_X11_conflictOf_67, at_X11_conflictOf_68, at_X11_conflictOf_91, at_X11_conflictOf_92, ca_X11_121, ca_X11_156, ca_X11_195, cd_X11_conflictOf_0, cd_X11_conflictOf_101, cd_X11_conflictOf_108, cd_X11_conflictOf_117, cd_X11_conflictOf_134, cd_X11_conflictOf_135, cd_X11_conflictOf_19, cd_X11_conflictOf_28, cd_X11_conflictOf_67, cd_X11_conflictOf_68, cd_X11_conflictOf_91, cd_X11_conflictOf_92, ev_b_33, ev_b_43, no_0, no_1, no_lt, no_le, no_eq, no_lt0, no_ge0, no_gt0, no_le0, no_eq0, no_0eq, no_eqm, no_meq, no_m0, no_mlt, no_mge, no_mgt, no_mm, no_i01, no_i10, no_in, no_or, no_ifm, no_mul, nI_add, no_sub, pk_div, iI_if, nI_clamp, oI_n, oI_s, not_true_eq_false, not_false_eq_true, forall_const, true_implies, false_and, and_false, or_false, false_or, Classical.not_not, true_or, or_true, no_b, no_eq1, eq_self, and_self, sk_301, sk_302, sl_302, sp_301]
          | exact rfl
          | (split <;> omega))
      · have hkn : N (952 + 9 * q + 1) = k := by omega
        have hcf : cf N i q = if nbr N q i k = 1 then 2 else if frd N q i k = 1 then 3 else if N (8 + 59 * i + (33 + q)) = 1 then 4 else 0 := by unfold cf; rw [if_neg hcp, hkn]
        rw [hcf, hkn]
        repeat' (first
          | (with_reducible refine ev_rid ?_; simp (disch := first | omega | assumption | (refine iv_31 hI ?_; omega)) only [ev_run_c, ev_run_n, ev_fj, ev_stp, ev_lk, ev_fv, ev_as, ev_sz, ev_st1, ev_st2, ev_rm, ev_pk, ev_Jof, ev_go, lv_args, List.map_cons, List.map_nil, List.zip_cons_cons, List.zip_nil_left, List.zip_nil_right, List.nil_append, List.cons_append, ↓reduceIte, reduceCtorEq, Int.reduceToNat, Nat.reduceEqDiff, Nat.reduceAdd, Nat.reduceLT, Nat.reduceLeDiff, Nat.reduceMul, Value.category, false_implies, true_and, and_true, Bool.false_eq_true, Option.some.injEq, exists_eq_left', Option.toList_some, Option.toList_none, ev_km, ev_k2, ev_k3, ev_k4, ev_k5, ev_l0, ev_l1, sh_1, sh_2, sh_3, sh_4, sh_5, at_X11_conflictOf_101, at_X11_conflictOf_108, at_X11_conflictOf_117, at_X11_conflictOf_134, at_X11_conflictOf_135, at_X11_conflictOf_19, at_X11_conflictOf_28, at_X11_conflictOf_67, at_X11_conflictOf_68, at_X11_conflictOf_91, at_X11_conflictOf_92, ca_X11_121, ca_X11_156, ca_X11_195, cd_X11_conflictOf_0, cd_X11_conflictOf_101, cd_X11_conflictOf_108, cd_X11_conflictOf_117, cd_X11_conflictOf_134, cd_X11_conflictOf_135, cd_X11_conflictOf_19, cd_X11_conflictOf_28, cd_X11_conflictOf_67, cd_X11_conflictOf_68, cd_X11_conflictOf_91, cd_X11_conflictOf_92, ev_b_33, ev_b_43, no_0, no_1, no_lt, no_le, no_eq, no_lt0, no_ge0, no_gt0, no_le0, no_eq0, no_0eq, no_eqm, no_meq, no_m0, no_mlt, no_mge, no_mgt, no_mm, no_i01, no_i10, no_in, no_or, no_ifm, no_mul, nI_add, no_sub, pk_div, iI_if, nI_clamp, oI_n, oI_s, not_true_eq_false, not_false_eq_true, forall_const, true_implies, false_and, and_false, or_false, false_or, Classical.not_not, true_or, or_true, no_b, no_eq1, eq_self, and_self, sk_301, sk_302, sl_302, sp_301])
          | (with_reducible refine ev_gid ?_; simp (disch := first | omega | assumption | (refine iv_31 hI ?_; omega)) only [ev_run_c, ev_run_n, ev_fj, ev_stp, ev_lk, ev_fv, ev_as, ev_sz, ev_st1, ev_st2, ev_rm, ev_pk, ev_Jof, ev_go, lv_args, List.map_cons, List.map_nil, List.zip_cons_cons, List.zip_nil_left, List.zip_nil_right, List.nil_append, List.cons_append, ↓reduceIte, reduceCtorEq, Int.reduceToNat, Nat.reduceEqDiff, Nat.reduceAdd, Nat.reduceLT, Nat.reduceLeDiff, Nat.reduceMul, Value.category, false_implies, true_and, and_true, Bool.false_eq_true, Option.some.injEq, exists_eq_left', Option.toList_some, Option.toList_none, ev_km, ev_k2, ev_k3, ev_k4, ev_k5, ev_l0, ev_l1, sh_1, sh_2, sh_3, sh_4, sh_5, at_X11_conflictOf_101, at_X11_conflictOf_108, at_X11_conflictOf_117, at_X11_conflictOf_134, at_X11_conflictOf_135, at_X11_conflictOf_19, at_X11_conflictOf_28, at_X11_conflictOf_67, at_X11_conflictOf_68, at_X11_conflictOf_91, at_X11_conflictOf_92, ca_X11_121, ca_X11_156, ca_X11_195, cd_X11_conflictOf_0, cd_X11_conflictOf_101, cd_X11_conflictOf_108, cd_X11_conflictOf_117, cd_X11_conflictOf_134, cd_X11_conflictOf_135, cd_X11_conflictOf_19, cd_X11_conflictOf_28, cd_X11_conflictOf_67, cd_X11_conflictOf_68, cd_X11_conflictOf_91, cd_X11_conflictOf_92, ev_b_33, ev_b_43, no_0, no_1, no_lt, no_le, no_eq, no_lt0, no_ge0, no_gt0, no_le0, no_eq0, no_0eq, no_eqm, no_meq, no_m0, no_mlt, no_mge, no_mgt, no_mm, no_i01, no_i10, no_in, no_or, no_ifm, no_mul, nI_add, no_sub, pk_div, iI_if, nI_clamp, oI_n, oI_s, not_true_eq_false, not_false_eq_true, forall_const, true_implies, false_and, and_false, or_false, false_or, Classical.not_not, true_or, or_true, no_b, no_eq1, eq_self, and_self, sk_301, sk_302, sl_302, sp_301])
          | (with_reducible refine And.intro (fun q => ?_) (fun q => ?_) <;> (try simp (disch := first | omega | assumption | (refine iv_31 hI ?_; omega)) only [no_0, no_1, no_lt, no_le, no_eq, no_lt0, no_ge0, no_gt0, no_le0, no_eq0, no_0eq, no_eqm, no_meq, no_m0, no_mlt, no_mge, no_mgt, no_mm, no_i01, no_i10, no_in, no_or, no_ifm, no_mul, nI_add, no_sub, pk_div, iI_if, nI_clamp, oI_n, oI_s, not_true_eq_false, not_false_eq_true, forall_const, true_implies, false_and, and_false, or_false, false_or, Classical.not_not, true_or, or_true, no_b, no_eq1, eq_self, and_self, sk_301, sk_302, sl_302, sp_301] at q))
          | with_reducible refine ev_ci (m_X11_ofCake hok (by assumption) ?_ ?_) ?_
          | with_reducible refine ev_ci (m_X11_cooks hok (by assumption) ?_ ?_ ?_ ?_) ?_
          | with_reducible refine ev_ci (m_X11_of hok (by assumption) ?_ ?_) ?_
          | omega
          | assumption
          | with_reducible rfl
          | ((repeat' split) <;> omega)
          | with_reducible refine lp_nx ?_ ?_ ?_ ?_
          | with_reducible refine lp_st ?_ ?_ ?_
          | with_reducible refine ls_c ?_ ?_
          | with_reducible refine vi_c ?_
          | with_reducible refine re_c ?_
          | with_reducible refine vz_c ?_
          | with_reducible refine rz_c ?_
          | exact trivial
          | with_reducible refine And.intro ?_ ?_
          | simp (disch := first | omega | assumption | (refine iv_31 hI ?_; omega)) only [ev_run_c, ev_run_n, ev_fj, ev_stp, ev_lk, ev_fv, ev_as, ev_sz, ev_st1, ev_st2, ev_rm, ev_pk, ev_Jof, ev_go, lv_args, List.map_cons, List.map_nil, List.zip_cons_cons, List.zip_nil_left, List.zip_nil_right, List.nil_append, List.cons_append, ↓reduceIte, reduceCtorEq, Int.reduceToNat, Nat.reduceEqDiff, Nat.reduceAdd, Nat.reduceLT, Nat.reduceLeDiff, Nat.reduceMul, Value.category, false_implies, true_and, and_true, Bool.false_eq_true, Option.some.injEq, exists_eq_left', Option.toList_some, Option.toList_none, ev_km, ev_k2, ev_k3, ev_k4, ev_k5, ev_l0, ev_l1, sh_1, sh_2, sh_3, sh_4, sh_5, at_X11_conflictOf_101, at_X11_conflictOf_108, at_X11_conflictOf_117, at_X11_conflictOf_134, at_X11_conflictOf_135, at_X11_conflictOf_19, at_X11_conflictOf_28, at_X11_conflictOf_67, at_X11_conflictOf_68, at_X11_conflictOf_91, at_X11_conflictOf_92, ca_X11_121, ca_X11_156, ca_X11_195, cd_X11_conflictOf_0, cd_X11_conflictOf_101, cd_X11_conflictOf_108, cd_X11_conflictOf_117, cd_X11_conflictOf_134, cd_X11_conflictOf_135, cd_X11_conflictOf_19, cd_X11_conflictOf_28, cd_X11_conflictOf_67, cd_X11_conflictOf_68, cd_X11_conflictOf_91, cd_X11_conflictOf_92, ev_b_33, ev_b_43, no_0, no_1, no_lt, no_le, no_eq, no_lt0, no_ge0, no_gt0, no_le0, no_eq0, no_0eq, no_eqm, no_meq, no_m0, no_mlt, no_mge, no_mgt, no_mm, no_i01, no_i10, no_in, no_or, no_ifm, no_mul, nI_add, no_sub, pk_div, iI_if, nI_clamp, oI_n, oI_s, not_true_eq_false, not_false_eq_true, forall_const, true_implies, false_and, and_false, or_false, false_or, Classical.not_not, true_or, or_true, no_b, no_eq1, eq_self, and_self, sk_301, sk_302, sl_302, sp_301]
          | exact rfl
          | (split <;> omega))
    · rw [at_X11_conflictOf_0]
      repeat' (first
        | (with_reducible refine ev_rid ?_; simp (disch := first | omega | assumption) only [ev_run_c, ev_run_n, ev_fj, ev_stp, ev_lk, ev_fv, ev_as, ev_sz, ev_st1, ev_st2, ev_rm, ev_pk, ev_Jof, ev_go, lv_args, List.map_cons, List.map_nil, List.zip_cons_cons, List.zip_nil_left, List.zip_nil_right, List.nil_append, List.cons_append, ↓reduceIte, reduceCtorEq, Int.reduceToNat, Nat.reduceEqDiff, Nat.reduceAdd, Nat.reduceLT, Nat.reduceLeDiff, Nat.reduceMul, Value.category, false_implies, true_and, and_true, Bool.false_eq_true, Option.some.injEq, exists_eq_left', Option.toList_some, Option.toList_none, ev_km, ev_k2, ev_k3, ev_k4, ev_k5, ev_l0, ev_l1, sh_1, sh_2, sh_3, sh_4, sh_5, at_X11_conflictOf_101, at_X11_conflictOf_108, at_X11_conflictOf_117, at_X11_conflictOf_134, at_X11_conflictOf_135, at_X11_conflictOf_19, at_X11_conflictOf_28, at_X11_conflictOf_67, at_X11_conflictOf_68, at_X11_conflictOf_91, at_X11_conflictOf_92, ca_X11_121, ca_X11_156, ca_X11_195, cd_X11_conflictOf_0, cd_X11_conflictOf_101, cd_X11_conflictOf_108, cd_X11_conflictOf_117, cd_X11_conflictOf_134, cd_X11_conflictOf_135, cd_X11_conflictOf_19, cd_X11_conflictOf_28, cd_X11_conflictOf_67, cd_X11_conflictOf_68, cd_X11_conflictOf_91, cd_X11_conflictOf_92, ev_b_33, ev_b_43, no_0, no_1, no_lt, no_le, no_eq, no_lt0, no_ge0, no_gt0, no_le0, no_eq0, no_0eq, no_eqm, no_meq, no_m0, no_mlt, no_mge, no_mgt, no_mm, no_i01, no_i10, no_in, no_or, no_ifm, no_mul, nI_add, no_sub, pk_div, iI_if, nI_clamp, oI_n, oI_s, not_true_eq_false, not_false_eq_true, forall_const, true_implies, false_and, and_false, or_false, false_or, Classical.not_not, true_or, or_true, no_b, no_eq1, eq_self, and_self, sk_301, sk_302, sl_302, sp_301, hcp])
        | (with_reducible refine ev_gid ?_; simp (disch := first | omega | assumption) only [ev_run_c, ev_run_n, ev_fj, ev_stp, ev_lk, ev_fv, ev_as, ev_sz, ev_st1, ev_st2, ev_rm, ev_pk, ev_Jof, ev_go, lv_args, List.map_cons, List.map_nil, List.zip_cons_cons, List.zip_nil_left, List.zip_nil_right, List.nil_append, List.cons_append, ↓reduceIte, reduceCtorEq, Int.reduceToNat, Nat.reduceEqDiff, Nat.reduceAdd, Nat.reduceLT, Nat.reduceLeDiff, Nat.reduceMul, Value.category, false_implies, true_and, and_true, Bool.false_eq_true, Option.some.injEq, exists_eq_left', Option.toList_some, Option.toList_none, ev_km, ev_k2, ev_k3, ev_k4, ev_k5, ev_l0, ev_l1, sh_1, sh_2, sh_3, sh_4, sh_5, at_X11_conflictOf_101, at_X11_conflictOf_108, at_X11_conflictOf_117, at_X11_conflictOf_134, at_X11_conflictOf_135, at_X11_conflictOf_19, at_X11_conflictOf_28, at_X11_conflictOf_67, at_X11_conflictOf_68, at_X11_conflictOf_91, at_X11_conflictOf_92, ca_X11_121, ca_X11_156, ca_X11_195, cd_X11_conflictOf_0, cd_X11_conflictOf_101, cd_X11_conflictOf_108, cd_X11_conflictOf_117, cd_X11_conflictOf_134, cd_X11_conflictOf_135, cd_X11_conflictOf_19, cd_X11_conflictOf_28, cd_X11_conflictOf_67, cd_X11_conflictOf_68, cd_X11_conflictOf_91, cd_X11_conflictOf_92, ev_b_33, ev_b_43, no_0, no_1, no_lt, no_le, no_eq, no_lt0, no_ge0, no_gt0, no_le0, no_eq0, no_0eq, no_eqm, no_meq, no_m0, no_mlt, no_mge, no_mgt, no_mm, no_i01, no_i10, no_in, no_or, no_ifm, no_mul, nI_add, no_sub, pk_div, iI_if, nI_clamp, oI_n, oI_s, not_true_eq_false, not_false_eq_true, forall_const, true_implies, false_and, and_false, or_false, false_or, Classical.not_not, true_or, or_true, no_b, no_eq1, eq_self, and_self, sk_301, sk_302, sl_302, sp_301, hcp])
        | (with_reducible refine And.intro (fun q => ?_) (fun q => ?_) <;> (try simp (disch := first | omega | assumption) only [no_0, no_1, no_lt, no_le, no_eq, no_lt0, no_ge0, no_gt0, no_le0, no_eq0, no_0eq, no_eqm, no_meq, no_m0, no_mlt, no_mge, no_mgt, no_mm, no_i01, no_i10, no_in, no_or, no_ifm, no_mul, nI_add, no_sub, pk_div, iI_if, nI_clamp, oI_n, oI_s, not_true_eq_false, not_false_eq_true, forall_const, true_implies, false_and, and_false, or_false, false_or, Classical.not_not, true_or, or_true, no_b, no_eq1, eq_self, and_self, sk_301, sk_302, sl_302, sp_301, hcp] at q))
        | with_reducible refine ev_ci (m_X11_ofCake hok (by assumption) ?_ ?_) ?_
        | with_reducible refine ev_ci (m_X11_cooks hok (by assumption) ?_ ?_ ?_ ?_) ?_
        | with_reducible refine ev_ci (m_X11_of hok (by assumption) ?_ ?_) ?_
        | omega
        | assumption
        | with_reducible rfl
        | with_reducible refine lp_nx ?_ ?_ ?_ ?_
        | with_reducible refine lp_st ?_ ?_ ?_
        | with_reducible refine ls_c ?_ ?_
        | with_reducible refine vi_c ?_
        | with_reducible refine re_c ?_
        | with_reducible refine vz_c ?_
        | with_reducible refine rz_c ?_
        | exact trivial
        | with_reducible refine And.intro ?_ ?_
        | simp (disch := first | omega | assumption) only [ev_run_c, ev_run_n, ev_fj, ev_stp, ev_lk, ev_fv, ev_as, ev_sz, ev_st1, ev_st2, ev_rm, ev_pk, ev_Jof, ev_go, lv_args, List.map_cons, List.map_nil, List.zip_cons_cons, List.zip_nil_left, List.zip_nil_right, List.nil_append, List.cons_append, ↓reduceIte, reduceCtorEq, Int.reduceToNat, Nat.reduceEqDiff, Nat.reduceAdd, Nat.reduceLT, Nat.reduceLeDiff, Nat.reduceMul, Value.category, false_implies, true_and, and_true, Bool.false_eq_true, Option.some.injEq, exists_eq_left', Option.toList_some, Option.toList_none, ev_km, ev_k2, ev_k3, ev_k4, ev_k5, ev_l0, ev_l1, sh_1, sh_2, sh_3, sh_4, sh_5, at_X11_conflictOf_101, at_X11_conflictOf_108, at_X11_conflictOf_117, at_X11_conflictOf_134, at_X11_conflictOf_135, at_X11_conflictOf_19, at_X11_conflictOf_28, at_X11_conflictOf_67, at_X11_conflictOf_68, at_X11_conflictOf_91, at_X11_conflictOf_92, ca_X11_121, ca_X11_156, ca_X11_195, cd_X11_conflictOf_0, cd_X11_conflictOf_101, cd_X11_conflictOf_108, cd_X11_conflictOf_117, cd_X11_conflictOf_134, cd_X11_conflictOf_135, cd_X11_conflictOf_19, cd_X11_conflictOf_28, cd_X11_conflictOf_67, cd_X11_conflictOf_68, cd_X11_conflictOf_91, cd_X11_conflictOf_92, ev_b_33, ev_b_43, no_0, no_1, no_lt, no_le, no_eq, no_lt0, no_ge0, no_gt0, no_le0, no_eq0, no_0eq, no_eqm, no_meq, no_m0, no_mlt, no_mge, no_mgt, no_mm, no_i01, no_i10, no_in, no_or, no_ifm, no_mul, nI_add, no_sub, pk_div, iI_if, nI_clamp, oI_n, oI_s, not_true_eq_false, not_false_eq_true, forall_const, true_implies, false_and, and_false, or_false, false_or, Classical.not_not, true_or, or_true, no_b, no_eq1, eq_self, and_self, sk_301, sk_302, sl_302, sp_301, hcp]
        | exact rfl
        | (split <;> omega))
def why (N : Nat → Nat) (i q : Nat) : Nat :=
  if N (8 + 59 * i + 1) = 0 then 1
  else if sP N q i < N (952 + 9 * q + 5) then 2
  else if cf N i q ≠ 0 then 3
  else if N (952 + 9 * q + 5) = 3 then 4
  else if N (8 + 59 * i + 1) ≤ ld N i (N 1) then 5 else 0
theorem why_le (N : Nat → Nat) (i q : Nat) : why N i q ≤ 5 := by unfold why; (repeat' split) <;> omega
theorem iv_st31 (h : INV N) {q : Nat} (hq : q < 10) : ∀ k, k < N (952 + 9 * q + 5) → N (952 + 9 * q + (6 + k)) < 2 ^ 31 := fun k hk => by
  have := iv_st h q k hq hk
  have := iv_h h
  omega
theorem m_X11_why (hok : ev_ok sh_S G) (hN : MR N μ) (hI : INV N) {i q : Nat} (hi : i < 16) (hq : q < 10) : ev_T sh_S G mi_X11_why [.ref 301, .int (nI i), .int (nI q)] μ (.inl (some (.int (nI (why N i q))), μ)) := by
  have hh := iv_h hI
  have hc := iv_q hI q hq
  have h1 := iv_p hI i hi
  have h2 := cf_le N i q
  have h3 := ld_le N i (N 1)
  have h4 : sP N q i ≤ N (952 + 9 * q + 5) := fx_le _ _ _
  unfold why
  refine ev_tri hok (okM_X11_why 0) (Nat.le_of_ble_eq_true rfl) 400 ?_
  rw [at_X11_why_0]
  repeat' (first
    | (with_reducible refine ev_rid ?_; simp (disch := first | omega | assumption) only [ev_run_c, ev_run_n, ev_fj, ev_stp, ev_lk, ev_fv, ev_as, ev_sz, ev_st1, ev_st2, ev_rm, ev_pk, ev_Jof, ev_go, lv_args, List.map_cons, List.map_nil, List.zip_cons_cons, List.zip_nil_left, List.zip_nil_right, List.nil_append, List.cons_append, ↓reduceIte, reduceCtorEq, Int.reduceToNat, Nat.reduceEqDiff, Nat.reduceAdd, Nat.reduceLT, Nat.reduceLeDiff, Nat.reduceMul, Value.category, false_implies, true_and, and_true, Bool.false_eq_true, Option.some.injEq, exists_eq_left', Option.toList_some, Option.toList_none, ev_km, ev_k2, ev_k3, ev_k4, ev_k5, ev_l0, ev_l1, sh_1, sh_2, sh_3, sh_4, sh_5, at_X11_why_10, at_X11_why_22, at_X11_why_33, at_X11_why_45, at_X11_why_63, at_X11_why_64, ca_X11_121, ca_X11_140, ca_X11_180, ca_X11_195, ca_X11_329, ca_X11_332, cd_X11_why_0, cd_X11_why_10, cd_X11_why_22, cd_X11_why_33, cd_X11_why_45, cd_X11_why_63, cd_X11_why_64, no_0, no_1, no_lt, no_le, no_eq, no_lt0, no_ge0, no_gt0, no_le0, no_eq0, no_0eq, no_eqm, no_meq, no_m0, no_mlt, no_mge, no_mgt, no_mm, no_i01, no_i10, no_in, no_or, no_ifm, no_mul, nI_add, no_sub, pk_div, iI_if, nI_clamp, oI_n, oI_s, not_true_eq_false, not_false_eq_true, forall_const, true_implies, false_and, and_false, or_false, false_or, Classical.not_not, true_or, or_true, no_b, no_eq1, eq_self, and_self, sk_301, sk_302, sl_302, sp_301])
    | (with_reducible refine ev_gid ?_; simp (disch := first | omega | assumption) only [ev_run_c, ev_run_n, ev_fj, ev_stp, ev_lk, ev_fv, ev_as, ev_sz, ev_st1, ev_st2, ev_rm, ev_pk, ev_Jof, ev_go, lv_args, List.map_cons, List.map_nil, List.zip_cons_cons, List.zip_nil_left, List.zip_nil_right, List.nil_append, List.cons_append, ↓reduceIte, reduceCtorEq, Int.reduceToNat, Nat.reduceEqDiff, Nat.reduceAdd, Nat.reduceLT, Nat.reduceLeDiff, Nat.reduceMul, Value.category, false_implies, true_and, and_true, Bool.false_eq_true, Option.some.injEq, exists_eq_left', Option.toList_some, Option.toList_none, ev_km, ev_k2, ev_k3, ev_k4, ev_k5, ev_l0, ev_l1, sh_1, sh_2, sh_3, sh_4, sh_5, at_X11_why_10, at_X11_why_22, at_X11_why_33, at_X11_why_45, at_X11_why_63, at_X11_why_64, ca_X11_121, ca_X11_140, ca_X11_180, ca_X11_195, ca_X11_329, ca_X11_332, cd_X11_why_0, cd_X11_why_10, cd_X11_why_22, cd_X11_why_33, cd_X11_why_45, cd_X11_why_63, cd_X11_why_64, no_0, no_1, no_lt, no_le, no_eq, no_lt0, no_ge0, no_gt0, no_le0, no_eq0, no_0eq, no_eqm, no_meq, no_m0, no_mlt, no_mge, no_mgt, no_mm, no_i01, no_i10, no_in, no_or, no_ifm, no_mul, nI_add, no_sub, pk_div, iI_if, nI_clamp, oI_n, oI_s, not_true_eq_false, not_false_eq_true, forall_const, true_implies, false_and, and_false, or_false, false_or, Classical.not_not, true_or, or_true, no_b, no_eq1, eq_self, and_self, sk_301, sk_302, sl_302, sp_301])
    | (with_reducible refine And.intro (fun q => ?_) (fun q => ?_) <;> (try simp (disch := first | omega | assumption) only [no_0, no_1, no_lt, no_le, no_eq, no_lt0, no_ge0, no_gt0, no_le0, no_eq0, no_0eq, no_eqm, no_meq, no_m0, no_mlt, no_mge, no_mgt, no_mm, no_i01, no_i10, no_in, no_or, no_ifm, no_mul, nI_add, no_sub, pk_div, iI_if, nI_clamp, oI_n, oI_s, not_true_eq_false, not_false_eq_true, forall_const, true_implies, false_and, and_false, or_false, false_or, Classical.not_not, true_or, or_true, no_b, no_eq1, eq_self, and_self, sk_301, sk_302, sl_302, sp_301] at q))
    | with_reducible refine ev_ci (m_X11_isTasting hok (by assumption) ?_ ?_) ?_
    | with_reducible refine ev_ci (m_X11_seatOf hok (by assumption) ?_ ?_ ?_ ?_) ?_
    | with_reducible refine ev_ci (m_X11_conflictOf hok (by assumption) (by assumption) ?_ ?_) ?_
    | with_reducible refine ev_ci (m_X11_ofCake hok (by assumption) ?_ ?_) ?_
    | with_reducible refine ev_ci (m_X11_load hok (by assumption) (by assumption) ?_) ?_
    | with_reducible refine ev_ci (m_X11_of hok (by assumption) ?_ ?_) ?_
    | omega
    | assumption
    | with_reducible rfl
    | exact iv_st31 hI hq
    | ((repeat' split) <;> omega)
    | with_reducible refine lp_nx ?_ ?_ ?_ ?_
    | with_reducible refine lp_st ?_ ?_ ?_
    | with_reducible refine ls_c ?_ ?_
    | with_reducible refine vi_c ?_
    | with_reducible refine re_c ?_
    | with_reducible refine vz_c ?_
    | with_reducible refine rz_c ?_
    | exact trivial
    | with_reducible refine And.intro ?_ ?_
    | simp (disch := first | omega | assumption) only [ev_run_c, ev_run_n, ev_fj, ev_stp, ev_lk, ev_fv, ev_as, ev_sz, ev_st1, ev_st2, ev_rm, ev_pk, ev_Jof, ev_go, lv_args, List.map_cons, List.map_nil, List.zip_cons_cons, List.zip_nil_left, List.zip_nil_right, List.nil_append, List.cons_append, ↓reduceIte, reduceCtorEq, Int.reduceToNat, Nat.reduceEqDiff, Nat.reduceAdd, Nat.reduceLT, Nat.reduceLeDiff, Nat.reduceMul, Value.category, false_implies, true_and, and_true, Bool.false_eq_true, Option.some.injEq, exists_eq_left', Option.toList_some, Option.toList_none, ev_km, ev_k2, ev_k3, ev_k4, ev_k5, ev_l0, ev_l1, sh_1, sh_2, sh_3, sh_4, sh_5, at_X11_why_10, at_X11_why_22, at_X11_why_33, at_X11_why_45, at_X11_why_63, at_X11_why_64, ca_X11_121, ca_X11_140, ca_X11_180, ca_X11_195, ca_X11_329, ca_X11_332, cd_X11_why_0, cd_X11_why_10, cd_X11_why_22, cd_X11_why_33, cd_X11_why_45, cd_X11_why_63, cd_X11_why_64, no_0, no_1, no_lt, no_le, no_eq, no_lt0, no_ge0, no_gt0, no_le0, no_eq0, no_0eq, no_eqm, no_meq, no_m0, no_mlt, no_mge, no_mgt, no_mm, no_i01, no_i10, no_in, no_or, no_ifm, no_mul, nI_add, no_sub, pk_div, iI_if, nI_clamp, oI_n, oI_s, not_true_eq_false, not_false_eq_true, forall_const, true_implies, false_and, and_false, or_false, false_or, Classical.not_not, true_or, or_true, no_b, no_eq1, eq_self, and_self, sk_301, sk_302, sl_302, sp_301]
    | exact rfl
    | (split <;> omega))
def wish (N : Nat → Nat) (i q : Nat) : Nat := 10 * N (8 + 59 * i + (13 + q)) + N (8 + 59 * i + (2 + N (952 + 9 * q + 0)))
theorem wish_le (hI : INV N) {i q : Nat} (hi : i < 16) (hq : q < 10) : wish N i q ≤ 39 := by
  have h1 := iv_pq hI i q hi hq
  have h2 := iv_t hI i (N (952 + 9 * q + 0)) hi (by have := iv_q hI q hq; omega)
  unfold wish
  omega
theorem m_X11_wish (hok : ev_ok sh_S G) (hN : MR N μ) (hI : INV N) {i q : Nat} (hi : i < 16) (hq : q < 10) : ev_T sh_S G mi_X11_wish [.ref 301, .int (nI i), .int (nI q)] μ (.inl (some (.int (nI (wish N i q))), μ)) := by
  have hc := iv_q hI q hq
  unfold wish
  refine ev_tri hok (okM_X11_wish 0) (Nat.le_of_ble_eq_true rfl) 400 ?_
  rw [at_X11_wish_0]
  repeat' (first
    | (with_reducible refine ev_rid ?_; simp (disch := first | omega | assumption) only [ev_run_c, ev_run_n, ev_fj, ev_stp, ev_lk, ev_fv, ev_as, ev_sz, ev_st1, ev_st2, ev_rm, ev_pk, ev_Jof, ev_go, lv_args, List.map_cons, List.map_nil, List.zip_cons_cons, List.zip_nil_left, List.zip_nil_right, List.nil_append, List.cons_append, ↓reduceIte, reduceCtorEq, Int.reduceToNat, Nat.reduceEqDiff, Nat.reduceAdd, Nat.reduceLT, Nat.reduceLeDiff, Nat.reduceMul, Value.category, false_implies, true_and, and_true, Bool.false_eq_true, Option.some.injEq, exists_eq_left', Option.toList_some, Option.toList_none, ev_km, ev_k2, ev_k3, ev_k4, ev_k5, ev_l0, ev_l1, sh_1, sh_2, sh_3, sh_4, sh_5, ca_X11_121, ca_X11_195, cd_X11_wish_0, ev_b_10, ev_b_13, no_0, no_1, no_lt, no_le, no_eq, no_lt0, no_ge0, no_gt0, no_le0, no_eq0, no_0eq, no_eqm, no_meq, no_m0, no_mlt, no_mge, no_mgt, no_mm, no_i01, no_i10, no_in, no_or, no_ifm, no_mul, nI_add, no_sub, pk_div, iI_if, nI_clamp, oI_n, oI_s, not_true_eq_false, not_false_eq_true, forall_const, true_implies, false_and, and_false, or_false, false_or, Classical.not_not, true_or, or_true, no_b, no_eq1, eq_self, and_self, sk_301, sk_302, sl_302, sp_301])
    | (with_reducible refine ev_gid ?_; simp (disch := first | omega | assumption) only [ev_run_c, ev_run_n, ev_fj, ev_stp, ev_lk, ev_fv, ev_as, ev_sz, ev_st1, ev_st2, ev_rm, ev_pk, ev_Jof, ev_go, lv_args, List.map_cons, List.map_nil, List.zip_cons_cons, List.zip_nil_left, List.zip_nil_right, List.nil_append, List.cons_append, ↓reduceIte, reduceCtorEq, Int.reduceToNat, Nat.reduceEqDiff, Nat.reduceAdd, Nat.reduceLT, Nat.reduceLeDiff, Nat.reduceMul, Value.category, false_implies, true_and, and_true, Bool.false_eq_true, Option.some.injEq, exists_eq_left', Option.toList_some, Option.toList_none, ev_km, ev_k2, ev_k3, ev_k4, ev_k5, ev_l0, ev_l1, sh_1, sh_2, sh_3, sh_4, sh_5, ca_X11_121, ca_X11_195, cd_X11_wish_0, ev_b_10, ev_b_13, no_0, no_1, no_lt, no_le, no_eq, no_lt0, no_ge0, no_gt0, no_le0, no_eq0, no_0eq, no_eqm, no_meq, no_m0, no_mlt, no_mge, no_mgt, no_mm, no_i01, no_i10, no_in, no_or, no_ifm, no_mul, nI_add, no_sub, pk_div, iI_if, nI_clamp, oI_n, oI_s, not_true_eq_false, not_false_eq_true, forall_const, true_implies, false_and, and_false, or_false, false_or, Classical.not_not, true_or, or_true, no_b, no_eq1, eq_self, and_self, sk_301, sk_302, sl_302, sp_301])
    | (with_reducible refine And.intro (fun q => ?_) (fun q => ?_) <;> (try simp (disch := first | omega | assumption) only [no_0, no_1, no_lt, no_le, no_eq, no_lt0, no_ge0, no_gt0, no_le0, no_eq0, no_0eq, no_eqm, no_meq, no_m0, no_mlt, no_mge, no_mgt, no_mm, no_i01, no_i10, no_in, no_or, no_ifm, no_mul, nI_add, no_sub, pk_div, iI_if, nI_clamp, oI_n, oI_s, not_true_eq_false, not_false_eq_true, forall_const, true_implies, false_and, and_false, or_false, false_or, Classical.not_not, true_or, or_true, no_b, no_eq1, eq_self, and_self, sk_301, sk_302, sl_302, sp_301] at q))
    | with_reducible refine ev_ci (m_X11_of hok (by assumption) ?_ ?_) ?_
    | with_reducible refine ev_ci (m_X11_ofCake hok (by assumption) ?_ ?_) ?_
    | omega
    | assumption
    | with_reducible rfl
    | with_reducible refine lp_nx ?_ ?_ ?_ ?_
    | with_reducible refine lp_st ?_ ?_ ?_
    | with_reducible refine ls_c ?_ ?_
    | with_reducible refine vi_c ?_
    | with_reducible refine re_c ?_
    | with_reducible refine vz_c ?_
    | with_reducible refine rz_c ?_
    | exact trivial
    | with_reducible refine And.intro ?_ ?_
    | simp (disch := first | omega | assumption) only [ev_run_c, ev_run_n, ev_fj, ev_stp, ev_lk, ev_fv, ev_as, ev_sz, ev_st1, ev_st2, ev_rm, ev_pk, ev_Jof, ev_go, lv_args, List.map_cons, List.map_nil, List.zip_cons_cons, List.zip_nil_left, List.zip_nil_right, List.nil_append, List.cons_append, ↓reduceIte, reduceCtorEq, Int.reduceToNat, Nat.reduceEqDiff, Nat.reduceAdd, Nat.reduceLT, Nat.reduceLeDiff, Nat.reduceMul, Value.category, false_implies, true_and, and_true, Bool.false_eq_true, Option.some.injEq, exists_eq_left', Option.toList_some, Option.toList_none, ev_km, ev_k2, ev_k3, ev_k4, ev_k5, ev_l0, ev_l1, sh_1, sh_2, sh_3, sh_4, sh_5, ca_X11_121, ca_X11_195, cd_X11_wish_0, ev_b_10, ev_b_13, no_0, no_1, no_lt, no_le, no_eq, no_lt0, no_ge0, no_gt0, no_le0, no_eq0, no_0eq, no_eqm, no_meq, no_m0, no_mlt, no_mge, no_mgt, no_mm, no_i01, no_i10, no_in, no_or, no_ifm, no_mul, nI_add, no_sub, pk_div, iI_if, nI_clamp, oI_n, oI_s, not_true_eq_false, not_false_eq_true, forall_const, true_implies, false_and, and_false, or_false, false_or, Classical.not_not, true_or, or_true, no_b, no_eq1, eq_self, and_self, sk_301, sk_302, sl_302, sp_301]
    | exact rfl
    | (split <;> omega))
def better (N : Nat → Nat) (i j q : Nat) : Nat := if wish N i q = wish N j q then (if ld N i (N 1) < ld N j (N 1) then 1 else 0) else if wish N j q < wish N i q then 1 else 0
theorem m_X11_isBetter (hok : ev_ok sh_S G) (hN : MR N μ) (hI : INV N) {i j q : Nat} (hi : i < 16) (hj : j < 16) (hq : q < 10) : ev_T sh_S G mi_X11_isBetter [.ref 301, .int (nI i), .int (nI j), .int (nI q)] μ (.inl (some (.int (nI (better N i j q))), μ)) := by
  have hh := iv_h hI
  have h1 := wish_le hI hi hq
  have h2 := wish_le hI hj hq
  have h3 := ld_le N i (N 1)
  have h4 := ld_le N j (N 1)
  unfold better
  refine ev_tri hok (okM_X11_isBetter 0) (Nat.le_of_ble_eq_true rfl) 400 ?_
  rw [at_X11_isBetter_0]
  repeat' (first
    | (with_reducible refine ev_rid ?_; simp (disch := first | omega | assumption) only [ev_run_c, ev_run_n, ev_fj, ev_stp, ev_lk, ev_fv, ev_as, ev_sz, ev_st1, ev_st2, ev_rm, ev_pk, ev_Jof, ev_go, lv_args, List.map_cons, List.map_nil, List.zip_cons_cons, List.zip_nil_left, List.zip_nil_right, List.nil_append, List.cons_append, ↓reduceIte, reduceCtorEq, Int.reduceToNat, Nat.reduceEqDiff, Nat.reduceAdd, Nat.reduceLT, Nat.reduceLeDiff, Nat.reduceMul, Value.category, false_implies, true_and, and_true, Bool.false_eq_true, Option.some.injEq, exists_eq_left', Option.toList_some, Option.toList_none, ev_km, ev_k2, ev_k3, ev_k4, ev_k5, ev_l0, ev_l1, sh_1, sh_2, sh_3, sh_4, sh_5, at_X11_isBetter_29, at_X11_isBetter_33, at_X11_isBetter_50, at_X11_isBetter_51, ca_X11_332, ca_X11_335, cd_X11_isBetter_0, cd_X11_isBetter_29, cd_X11_isBetter_33, cd_X11_isBetter_50, cd_X11_isBetter_51, no_0, no_1, no_lt, no_le, no_eq, no_lt0, no_ge0, no_gt0, no_le0, no_eq0, no_0eq, no_eqm, no_meq, no_m0, no_mlt, no_mge, no_mgt, no_mm, no_i01, no_i10, no_in, no_or, no_ifm, no_mul, nI_add, no_sub, pk_div, iI_if, nI_clamp, oI_n, oI_s, not_true_eq_false, not_false_eq_true, forall_const, true_implies, false_and, and_false, or_false, false_or, Classical.not_not, true_or, or_true, no_b, no_eq1, eq_self, and_self, sk_301, sk_302, sl_302, sp_301, iI_dif, iI_eq0, iI_lt0, iI_ge0, iI_gt0, iI_le0])
    | (with_reducible refine ev_gid ?_; simp (disch := first | omega | assumption) only [ev_run_c, ev_run_n, ev_fj, ev_stp, ev_lk, ev_fv, ev_as, ev_sz, ev_st1, ev_st2, ev_rm, ev_pk, ev_Jof, ev_go, lv_args, List.map_cons, List.map_nil, List.zip_cons_cons, List.zip_nil_left, List.zip_nil_right, List.nil_append, List.cons_append, ↓reduceIte, reduceCtorEq, Int.reduceToNat, Nat.reduceEqDiff, Nat.reduceAdd, Nat.reduceLT, Nat.reduceLeDiff, Nat.reduceMul, Value.category, false_implies, true_and, and_true, Bool.false_eq_true, Option.some.injEq, exists_eq_left', Option.toList_some, Option.toList_none, ev_km, ev_k2, ev_k3, ev_k4, ev_k5, ev_l0, ev_l1, sh_1, sh_2, sh_3, sh_4, sh_5, at_X11_isBetter_29, at_X11_isBetter_33, at_X11_isBetter_50, at_X11_isBetter_51, ca_X11_332, ca_X11_335, cd_X11_isBetter_0, cd_X11_isBetter_29, cd_X11_isBetter_33, cd_X11_isBetter_50, cd_X11_isBetter_51, no_0, no_1, no_lt, no_le, no_eq, no_lt0, no_ge0, no_gt0, no_le0, no_eq0, no_0eq, no_eqm, no_meq, no_m0, no_mlt, no_mge, no_mgt, no_mm, no_i01, no_i10, no_in, no_or, no_ifm, no_mul, nI_add, no_sub, pk_div, iI_if, nI_clamp, oI_n, oI_s, not_true_eq_false, not_false_eq_true, forall_const, true_implies, false_and, and_false, or_false, false_or, Classical.not_not, true_or, or_true, no_b, no_eq1, eq_self, and_self, sk_301, sk_302, sl_302, sp_301, iI_dif, iI_eq0, iI_lt0, iI_ge0, iI_gt0, iI_le0])
    | (with_reducible refine And.intro (fun q => ?_) (fun q => ?_) <;> (try simp (disch := first | omega | assumption) only [no_0, no_1, no_lt, no_le, no_eq, no_lt0, no_ge0, no_gt0, no_le0, no_eq0, no_0eq, no_eqm, no_meq, no_m0, no_mlt, no_mge, no_mgt, no_mm, no_i01, no_i10, no_in, no_or, no_ifm, no_mul, nI_add, no_sub, pk_div, iI_if, nI_clamp, oI_n, oI_s, not_true_eq_false, not_false_eq_true, forall_const, true_implies, false_and, and_false, or_false, false_or, Classical.not_not, true_or, or_true, no_b, no_eq1, eq_self, and_self, sk_301, sk_302, sl_302, sp_301, iI_dif, iI_eq0, iI_lt0, iI_ge0, iI_gt0, iI_le0] at q))
    | with_reducible refine ev_ci (m_X11_wish hok (by assumption) (by assumption) ?_ ?_) ?_
    | with_reducible refine ev_ci (m_X11_load hok (by assumption) (by assumption) ?_) ?_
    | omega
    | assumption
    | with_reducible rfl
    | ((repeat' split) <;> omega)
    | with_reducible refine lp_nx ?_ ?_ ?_ ?_
    | with_reducible refine lp_st ?_ ?_ ?_
    | with_reducible refine ls_c ?_ ?_
    | with_reducible refine vi_c ?_
    | with_reducible refine re_c ?_
    | with_reducible refine vz_c ?_
    | with_reducible refine rz_c ?_
    | exact trivial
    | with_reducible refine And.intro ?_ ?_
    | simp (disch := first | omega | assumption) only [ev_run_c, ev_run_n, ev_fj, ev_stp, ev_lk, ev_fv, ev_as, ev_sz, ev_st1, ev_st2, ev_rm, ev_pk, ev_Jof, ev_go, lv_args, List.map_cons, List.map_nil, List.zip_cons_cons, List.zip_nil_left, List.zip_nil_right, List.nil_append, List.cons_append, ↓reduceIte, reduceCtorEq, Int.reduceToNat, Nat.reduceEqDiff, Nat.reduceAdd, Nat.reduceLT, Nat.reduceLeDiff, Nat.reduceMul, Value.category, false_implies, true_and, and_true, Bool.false_eq_true, Option.some.injEq, exists_eq_left', Option.toList_some, Option.toList_none, ev_km, ev_k2, ev_k3, ev_k4, ev_k5, ev_l0, ev_l1, sh_1, sh_2, sh_3, sh_4, sh_5, at_X11_isBetter_29, at_X11_isBetter_33, at_X11_isBetter_50, at_X11_isBetter_51, ca_X11_332, ca_X11_335, cd_X11_isBetter_0, cd_X11_isBetter_29, cd_X11_isBetter_33, cd_X11_isBetter_50, cd_X11_isBetter_51, no_0, no_1, no_lt, no_le, no_eq, no_lt0, no_ge0, no_gt0, no_le0, no_eq0, no_0eq, no_eqm, no_meq, no_m0, no_mlt, no_mge, no_mgt, no_mm, no_i01, no_i10, no_in, no_or, no_ifm, no_mul, nI_add, no_sub, pk_div, iI_if, nI_clamp, oI_n, oI_s, not_true_eq_false, not_false_eq_true, forall_const, true_implies, false_and, and_false, or_false, false_or, Classical.not_not, true_or, or_true, no_b, no_eq1, eq_self, and_self, sk_301, sk_302, sl_302, sp_301, iI_dif, iI_eq0, iI_lt0, iI_ge0, iI_gt0, iI_le0]
    | exact rfl
    | (split <;> omega))
def best (N : Nat → Nat) (q : Nat) : Nat → Option Nat
  | 0 => none
  | n + 1 => match best N q n with
    | none => if why N n q = 0 then some n else none
    | some b => if why N n q = 0 ∧ better N n b q = 1 then some n else some b
theorem best_lt {N : Nat → Nat} {q n b : Nat} (h : best N q n = some b) : b < n := by
  induction n generalizing b with
  | zero => cases h
  | succ n ih =>
    unfold best at h
    cases h1 : best N q n with
    | none =>
      rw [h1] at h
      dsimp only at h
      split at h
      · cases h; omega
      · cases h
    | some c =>
      rw [h1] at h
      dsimp only at h
      have := ih h1
      split at h <;> cases h <;> omega
theorem best_n0 {N : Nat → Nat} {q n : Nat} (h : best N q n = none) (h2 : ¬ why N n q = 0) : best N q (n + 1) = none := by unfold best; rw [h]; exact if_neg h2
theorem best_n1 {N : Nat → Nat} {q n : Nat} (h : best N q n = none) (h2 : why N n q = 0) : best N q (n + 1) = some n := by unfold best; rw [h]; exact if_pos h2
theorem best_s0 {N : Nat → Nat} {q n b : Nat} (h : best N q n = some b) (h2 : ¬ (why N n q = 0 ∧ better N n b q = 1)) : best N q (n + 1) = some b := by unfold best; rw [h]; exact if_neg h2
theorem best_s1 {N : Nat → Nat} {q n b : Nat} (h : best N q n = some b) (h2 : why N n q = 0) (h3 : better N n b q = 1) : best N q (n + 1) = some n := by unfold best; rw [h]; exact if_pos ⟨h2, h3⟩
theorem vo_c {a b : Option Nat} (h : a = b) : Value.int (oI a) = Value.int (oI b) := by rw [h]
theorem vo_n {b : Option Nat} (h : b = none) : Value.int (-1) = Value.int (oI b) := by rw [h]; rfl
theorem vo_s {a : Nat} {b : Option Nat} (h : b = some a) : Value.int (nI a) = Value.int (oI b) := by rw [h]; rfl
theorem better_le (N : Nat → Nat) (i j q : Nat) : better N i j q ≤ 1 := by unfold better; (repeat' split) <;> omega
set_option maxHeartbeats 2000000 in
theorem m_X11_best (hok : ev_ok sh_S G) (hN : MR N μ) (hI : INV N) {q : Nat} (hq : q < 10) : ev_T sh_S G mi_X11_best [.ref 301, .int (nI q)] μ (.inl (some (.int (oI (best N q (N 0)))), μ)) := by
  have hh := iv_h hI
  have hN' : ∀ k, k < 1042 → μ.1 302 k = nI (N k) := hN
  refine ev_tri1 hok (okM_X11_best 0) (Nat.le_of_ble_eq_true rfl) 4 [0, 1, 2, 3] (N 0) 400 (fun k => [.ref 301, .int (nI q), .int (oI (best N q k)), .int (nI k)]) (fun _ => μ) (fun _ => True) ?_ ?_
  · intro k hk _
    rw [at_X11_best_4]
    rcases Nat.lt_or_ge k (N 0) with hkn | hkn
    · have h1 := why_le N k q
      cases hb : best N q k with
      | none => 
        repeat' (first
          | (with_reducible refine ev_rid ?_; simp (disch := first | omega | assumption) only [ev_run_c, ev_run_n, ev_fj, ev_stp, ev_lk, ev_fv, ev_as, ev_sz, ev_st1, ev_st2, ev_rm, ev_pk, ev_Jof, ev_go, lv_args, List.map_cons, List.map_nil, List.zip_cons_cons, List.zip_nil_left, List.zip_nil_right, List.nil_append, List.cons_append, ↓reduceIte, reduceCtorEq, Int.reduceToNat, Nat.reduceEqDiff, Nat.reduceAdd, Nat.reduceLT, Nat.reduceLeDiff, Nat.reduceMul, Value.category, false_implies, true_and, and_true, Bool.false_eq_true, Option.some.injEq, exists_eq_left', Option.toList_some, Option.toList_none, ev_km, ev_k2, ev_k3, ev_k4, ev_k5, ev_l0, ev_l1, sh_1, sh_2, sh_3, sh_4, sh_5, at_X11_best_38, at_X11_best_4, at_X11_best_40, at_X11_best_46, ca_X11_171, ca_X11_338, cd_X11_best_0, cd_X11_best_38, cd_X11_best_4, cd_X11_best_40, cd_X11_best_46, fl_X11_9, no_0, no_1, no_lt, no_le, no_eq, no_lt0, no_ge0, no_gt0, no_le0, no_eq0, no_0eq, no_eqm, no_meq, no_m0, no_mlt, no_mge, no_mgt, no_mm, no_i01, no_i10, no_in, no_or, no_ifm, no_mul, nI_add, no_sub, pk_div, iI_if, nI_clamp, oI_n, oI_s, not_true_eq_false, not_false_eq_true, forall_const, true_implies, false_and, and_false, or_false, false_or, Classical.not_not, true_or, or_true, no_b, no_eq1, eq_self, and_self, sk_301, sk_302, sl_302, sp_301, hN'])
          | (with_reducible refine ev_gid ?_; simp (disch := first | omega | assumption) only [ev_run_c, ev_run_n, ev_fj, ev_stp, ev_lk, ev_fv, ev_as, ev_sz, ev_st1, ev_st2, ev_rm, ev_pk, ev_Jof, ev_go, lv_args, List.map_cons, List.map_nil, List.zip_cons_cons, List.zip_nil_left, List.zip_nil_right, List.nil_append, List.cons_append, ↓reduceIte, reduceCtorEq, Int.reduceToNat, Nat.reduceEqDiff, Nat.reduceAdd, Nat.reduceLT, Nat.reduceLeDiff, Nat.reduceMul, Value.category, false_implies, true_and, and_true, Bool.false_eq_true, Option.some.injEq, exists_eq_left', Option.toList_some, Option.toList_none, ev_km, ev_k2, ev_k3, ev_k4, ev_k5, ev_l0, ev_l1, sh_1, sh_2, sh_3, sh_4, sh_5, at_X11_best_38, at_X11_best_4, at_X11_best_40, at_X11_best_46, ca_X11_171, ca_X11_338, cd_X11_best_0, cd_X11_best_38, cd_X11_best_4, cd_X11_best_40, cd_X11_best_46, fl_X11_9, no_0, no_1, no_lt, no_le, no_eq, no_lt0, no_ge0, no_gt0, no_le0, no_eq0, no_0eq, no_eqm, no_meq, no_m0, no_mlt, no_mge, no_mgt, no_mm, no_i01, no_i10, no_in, no_or, no_ifm, no_mul, nI_add, no_sub, pk_div, iI_if, nI_clamp, oI_n, oI_s, not_true_eq_false, not_false_eq_true, forall_const, true_implies, false_and, and_false, or_false, false_or, Classical.not_not, true_or, or_true, no_b, no_eq1, eq_self, and_self, sk_301, sk_302, sl_302, sp_301, hN'])
          | (with_reducible refine And.intro (fun q => ?_) (fun q => ?_) <;> (try simp (disch := first | omega | assumption) only [no_0, no_1, no_lt, no_le, no_eq, no_lt0, no_ge0, no_gt0, no_le0, no_eq0, no_0eq, no_eqm, no_meq, no_m0, no_mlt, no_mge, no_mgt, no_mm, no_i01, no_i10, no_in, no_or, no_ifm, no_mul, nI_add, no_sub, pk_div, iI_if, nI_clamp, oI_n, oI_s, not_true_eq_false, not_false_eq_true, forall_const, true_implies, false_and, and_false, or_false, false_or, Classical.not_not, true_or, or_true, no_b, no_eq1, eq_self, and_self, sk_301, sk_302, sl_302, sp_301, hN'] at q))
          | with_reducible refine ev_ci (m_X11_why hok (by assumption) (by assumption) ?_ ?_) ?_
          | with_reducible refine ev_ci (m_X11_isBetter hok (by assumption) (by assumption) ?_ ?_ ?_) ?_
          | omega
          | assumption
          | with_reducible rfl
          | refine vo_n (best_n0 hb ‹_›)
          | refine vo_s (best_n1 hb ‹_›)
          | with_reducible refine lp_nx ?_ ?_ ?_ ?_
          | with_reducible refine lp_st ?_ ?_ ?_
          | with_reducible refine ls_c ?_ ?_
          | with_reducible refine vi_c ?_
          | with_reducible refine re_c ?_
          | with_reducible refine vz_c ?_
          | with_reducible refine rz_c ?_
          | exact trivial
          | with_reducible refine And.intro ?_ ?_
          | simp (disch := first | omega | assumption) only [ev_run_c, ev_run_n, ev_fj, ev_stp, ev_lk, ev_fv, ev_as, ev_sz, ev_st1, ev_st2, ev_rm, ev_pk, ev_Jof, ev_go, lv_args, List.map_cons, List.map_nil, List.zip_cons_cons, List.zip_nil_left, List.zip_nil_right, List.nil_append, List.cons_append, ↓reduceIte, reduceCtorEq, Int.reduceToNat, Nat.reduceEqDiff, Nat.reduceAdd, Nat.reduceLT, Nat.reduceLeDiff, Nat.reduceMul, Value.category, false_implies, true_and, and_true, Bool.false_eq_true, Option.some.injEq, exists_eq_left', Option.toList_some, Option.toList_none, ev_km, ev_k2, ev_k3, ev_k4, ev_k5, ev_l0, ev_l1, sh_1, sh_2, sh_3, sh_4, sh_5, at_X11_best_38, at_X11_best_4, at_X11_best_40, at_X11_best_46, ca_X11_171, ca_X11_338, cd_X11_best_0, cd_X11_best_38, cd_X11_best_4, cd_X11_best_40, cd_X11_best_46, fl_X11_9, no_0, no_1, no_lt, no_le, no_eq, no_lt0, no_ge0, no_gt0, no_le0, no_eq0, no_0eq, no_eqm, no_meq, no_m0, no_mlt, no_mge, no_mgt, no_mm, no_i01, no_i10, no_in, no_or, no_ifm, no_mul, nI_add, no_sub, pk_div, iI_if, nI_clamp, oI_n, oI_s, not_true_eq_false, not_false_eq_true, forall_const, true_implies, false_and, and_false, or_false, false_or, Classical.not_not, true_or, or_true, no_b, no_eq1, eq_self, and_self, sk_301, sk_302, sl_302, sp_301, hN']
          | exact rfl
          | (split <;> omega))
      | some b =>
        have h2 := best_lt hb
        have h3 := better_le N k b q
        repeat' (first
          | (with_reducible refine ev_rid ?_; simp (disch := first | omega | assumption) only [ev_run_c, ev_run_n, ev_fj, ev_stp, ev_lk, ev_fv, ev_as, ev_sz, ev_st1, ev_st2, ev_rm, ev_pk, ev_Jof, ev_go, lv_args, List.map_cons, List.map_nil, List.zip_cons_cons, List.zip_nil_left, List.zip_nil_right, List.nil_append, List.cons_append, ↓reduceIte, reduceCtorEq, Int.reduceToNat, Nat.reduceEqDiff, Nat.reduceAdd, Nat.reduceLT, Nat.reduceLeDiff, Nat.reduceMul, Value.category, false_implies, true_and, and_true, Bool.false_eq_true, Option.some.injEq, exists_eq_left', Option.toList_some, Option.toList_none, ev_km, ev_k2, ev_k3, ev_k4, ev_k5, ev_l0, ev_l1, sh_1, sh_2, sh_3, sh_4, sh_5, at_X11_best_38, at_X11_best_4, at_X11_best_40, at_X11_best_46, ca_X11_171, ca_X11_338, cd_X11_best_0, cd_X11_best_38, cd_X11_best_4, cd_X11_best_40, cd_X11_best_46, fl_X11_9, no_0, no_1, no_lt, no_le, no_eq, no_lt0, no_ge0, no_gt0, no_le0, no_eq0, no_0eq, no_eqm, no_meq, no_m0, no_mlt, no_mge, no_mgt, no_mm, no_i01, no_i10, no_in, no_or, no_ifm, no_mul, nI_add, no_sub, pk_div, iI_if, nI_clamp, oI_n, oI_s, not_true_eq_false, not_false_eq_true, forall_const, true_implies, false_and, and_false, or_false, false_or, Classical.not_not, true_or, or_true, no_b, no_eq1, eq_self, and_self, sk_301, sk_302, sl_302, sp_301, hN'])
          | (with_reducible refine ev_gid ?_; simp (disch := first | omega | assumption) only [ev_run_c, ev_run_n, ev_fj, ev_stp, ev_lk, ev_fv, ev_as, ev_sz, ev_st1, ev_st2, ev_rm, ev_pk, ev_Jof, ev_go, lv_args, List.map_cons, List.map_nil, List.zip_cons_cons, List.zip_nil_left, List.zip_nil_right, List.nil_append, List.cons_append, ↓reduceIte, reduceCtorEq, Int.reduceToNat, Nat.reduceEqDiff, Nat.reduceAdd, Nat.reduceLT, Nat.reduceLeDiff, Nat.reduceMul, Value.category, false_implies, true_and, and_true, Bool.false_eq_true, Option.some.injEq, exists_eq_left', Option.toList_some, Option.toList_none, ev_km, ev_k2, ev_k3, ev_k4, ev_k5, ev_l0, ev_l1, sh_1, sh_2, sh_3, sh_4, sh_5, at_X11_best_38, at_X11_best_4, at_X11_best_40, at_X11_best_46, ca_X11_171, ca_X11_338, cd_X11_best_0, cd_X11_best_38, cd_X11_best_4, cd_X11_best_40, cd_X11_best_46, fl_X11_9, no_0, no_1, no_lt, no_le, no_eq, no_lt0, no_ge0, no_gt0, no_le0, no_eq0, no_0eq, no_eqm, no_meq, no_m0, no_mlt, no_mge, no_mgt, no_mm, no_i01, no_i10, no_in, no_or, no_ifm, no_mul, nI_add, no_sub, pk_div, iI_if, nI_clamp, oI_n, oI_s, not_true_eq_false, not_false_eq_true, forall_const, true_implies, false_and, and_false, or_false, false_or, Classical.not_not, true_or, or_true, no_b, no_eq1, eq_self, and_self, sk_301, sk_302, sl_302, sp_301, hN'])
          | (with_reducible refine And.intro (fun q => ?_) (fun q => ?_) <;> (try simp (disch := first | omega | assumption) only [no_0, no_1, no_lt, no_le, no_eq, no_lt0, no_ge0, no_gt0, no_le0, no_eq0, no_0eq, no_eqm, no_meq, no_m0, no_mlt, no_mge, no_mgt, no_mm, no_i01, no_i10, no_in, no_or, no_ifm, no_mul, nI_add, no_sub, pk_div, iI_if, nI_clamp, oI_n, oI_s, not_true_eq_false, not_false_eq_true, forall_const, true_implies, false_and, and_false, or_false, false_or, Classical.not_not, true_or, or_true, no_b, no_eq1, eq_self, and_self, sk_301, sk_302, sl_302, sp_301, hN'] at q))
          | with_reducible refine ev_ci (m_X11_why hok (by assumption) (by assumption) ?_ ?_) ?_
          | with_reducible refine ev_ci (m_X11_isBetter hok (by assumption) (by assumption) ?_ ?_ ?_) ?_
          | omega
          | assumption
          | with_reducible rfl
          | refine vo_s (best_s1 hb ‹_› ?_)
          | refine vo_s (best_s0 hb ?_)
          | with_reducible refine lp_nx ?_ ?_ ?_ ?_
          | with_reducible refine lp_st ?_ ?_ ?_
          | with_reducible refine ls_c ?_ ?_
          | with_reducible refine vi_c ?_
          | with_reducible refine re_c ?_
          | with_reducible refine vz_c ?_
          | with_reducible refine rz_c ?_
          | exact trivial
          | with_reducible refine And.intro ?_ ?_
          | simp (disch := first | omega | assumption) only [ev_run_c, ev_run_n, ev_fj, ev_stp, ev_lk, ev_fv, ev_as, ev_sz, ev_st1, ev_st2, ev_rm, ev_pk, ev_Jof, ev_go, lv_args, List.map_cons, List.map_nil, List.zip_cons_cons, List.zip_nil_left, List.zip_nil_right, List.nil_append, List.cons_append, ↓reduceIte, reduceCtorEq, Int.reduceToNat, Nat.reduceEqDiff, Nat.reduceAdd, Nat.reduceLT, Nat.reduceLeDiff, Nat.reduceMul, Value.category, false_implies, true_and, and_true, Bool.false_eq_true, Option.some.injEq, exists_eq_left', Option.toList_some, Option.toList_none, ev_km, ev_k2, ev_k3, ev_k4, ev_k5, ev_l0, ev_l1, sh_1, sh_2, sh_3, sh_4, sh_5, at_X11_best_38, at_X11_best_4, at_X11_best_40, at_X11_best_46, ca_X11_171, ca_X11_338, cd_X11_best_0, cd_X11_best_38, cd_X11_best_4, cd_X11_best_40, cd_X11_best_46, fl_X11_9, no_0, no_1, no_lt, no_le, no_eq, no_lt0, no_ge0, no_gt0, no_le0, no_eq0, no_0eq, no_eqm, no_meq, no_m0, no_mlt, no_mge, no_mgt, no_mm, no_i01, no_i10, no_in, no_or, no_ifm, no_mul, nI_add, no_sub, pk_div, iI_if, nI_clamp, oI_n, oI_s, not_true_eq_false, not_false_eq_true, forall_const, true_implies, false_and, and_false, or_false, false_or, Classical.not_not, true_or, or_true, no_b, no_eq1, eq_self, and_self, sk_301, sk_302, sl_302, sp_301, hN']
          | exact rfl
          | (split <;> omega))
    · have hkn : N 0 = k := by omega
      subst hkn
      repeat' (first
        | (with_reducible refine ev_rid ?_; simp (disch := first | omega | assumption) only [ev_run_c, ev_run_n, ev_fj, ev_stp, ev_lk, ev_fv, ev_as, ev_sz, ev_st1, ev_st2, ev_rm, ev_pk, ev_Jof, ev_go, lv_args, List.map_cons, List.map_nil, List.zip_cons_cons, List.zip_nil_left, List.zip_nil_right, List.nil_append, List.cons_append, ↓reduceIte, reduceCtorEq, Int.reduceToNat, Nat.reduceEqDiff, Nat.reduceAdd, Nat.reduceLT, Nat.reduceLeDiff, Nat.reduceMul, Value.category, false_implies, true_and, and_true, Bool.false_eq_true, Option.some.injEq, exists_eq_left', Option.toList_some, Option.toList_none, ev_km, ev_k2, ev_k3, ev_k4, ev_k5, ev_l0, ev_l1, sh_1, sh_2, sh_3, sh_4, sh_5, at_X11_best_38, at_X11_best_4, at_X11_best_40, at_X11_best_46, ca_X11_171, ca_X11_338, cd_X11_best_0, cd_X11_best_38, cd_X11_best_4, cd_X11_best_40, cd_X11_best_46, fl_X11_9, no_0, no_1, no_lt, no_le, no_eq, no_lt0, no_ge0, no_gt0, no_le0, no_eq0, no_0eq, no_eqm, no_meq, no_m0, no_mlt, no_mge, no_mgt, no_mm, no_i01, no_i10, no_in, no_or, no_ifm, no_mul, nI_add, no_sub, pk_div, iI_if, nI_clamp, oI_n, oI_s, not_true_eq_false, not_false_eq_true, forall_const, true_implies, false_and, and_false, or_false, false_or, Classical.not_not, true_or, or_true, no_b, no_eq1, eq_self, and_self, sk_301, sk_302, sl_302, sp_301, hN'])
        | (with_reducible refine ev_gid ?_; simp (disch := first | omega | assumption) only [ev_run_c, ev_run_n, ev_fj, ev_stp, ev_lk, ev_fv, ev_as, ev_sz, ev_st1, ev_st2, ev_rm, ev_pk, ev_Jof, ev_go, lv_args, List.map_cons, List.map_nil, List.zip_cons_cons, List.zip_nil_left, List.zip_nil_right, List.nil_append, List.cons_append, ↓reduceIte, reduceCtorEq, Int.reduceToNat, Nat.reduceEqDiff, Nat.reduceAdd, Nat.reduceLT, Nat.reduceLeDiff, Nat.reduceMul, Value.category, false_implies, true_and, and_true, Bool.false_eq_true, Option.some.injEq, exists_eq_left', Option.toList_some, Option.toList_none, ev_km, ev_k2, ev_k3, ev_k4, ev_k5, ev_l0, ev_l1, sh_1, sh_2, sh_3, sh_4, sh_5, at_X11_best_38, at_X11_best_4, at_X11_best_40, at_X11_best_46, ca_X11_171, ca_X11_338, cd_X11_best_0, cd_X11_best_38, cd_X11_best_4, cd_X11_best_40, cd_X11_best_46, fl_X11_9, no_0, no_1, no_lt, no_le, no_eq, no_lt0, no_ge0, no_gt0, no_le0, no_eq0, no_0eq, no_eqm, no_meq, no_m0, no_mlt, no_mge, no_mgt, no_mm, no_i01, no_i10, no_in, no_or, no_ifm, no_mul, nI_add, no_sub, pk_div, iI_if, nI_clamp, oI_n, oI_s, not_true_eq_false, not_false_eq_true, forall_const, true_implies, false_and, and_false, or_false, false_or, Classical.not_not, true_or, or_true, no_b, no_eq1, eq_self, and_self, sk_301, sk_302, sl_302, sp_301, hN'])
        | (with_reducible refine And.intro (fun q => ?_) (fun q => ?_) <;> (try simp (disch := first | omega | assumption) only [no_0, no_1, no_lt, no_le, no_eq, no_lt0, no_ge0, no_gt0, no_le0, no_eq0, no_0eq, no_eqm, no_meq, no_m0, no_mlt, no_mge, no_mgt, no_mm, no_i01, no_i10, no_in, no_or, no_ifm, no_mul, nI_add, no_sub, pk_div, iI_if, nI_clamp, oI_n, oI_s, not_true_eq_false, not_false_eq_true, forall_const, true_implies, false_and, and_false, or_false, false_or, Classical.not_not, true_or, or_true, no_b, no_eq1, eq_self, and_self, sk_301, sk_302, sl_302, sp_301, hN'] at q))
        | with_reducible refine ev_ci (m_X11_why hok (by assumption) (by assumption) ?_ ?_) ?_
        | with_reducible refine ev_ci (m_X11_isBetter hok (by assumption) (by assumption) ?_ ?_ ?_) ?_
        | omega
        | assumption
        | with_reducible rfl
        | with_reducible refine lp_nx ?_ ?_ ?_ ?_
        | with_reducible refine lp_st ?_ ?_ ?_
        | with_reducible refine ls_c ?_ ?_
        | with_reducible refine vi_c ?_
        | with_reducible refine re_c ?_
        | with_reducible refine vz_c ?_
        | with_reducible refine rz_c ?_
        | exact trivial
        | with_reducible refine And.intro ?_ ?_
        | simp (disch := first | omega | assumption) only [ev_run_c, ev_run_n, ev_fj, ev_stp, ev_lk, ev_fv, ev_as, ev_sz, ev_st1, ev_st2, ev_rm, ev_pk, ev_Jof, ev_go, lv_args, List.map_cons, List.map_nil, List.zip_cons_cons, List.zip_nil_left, List.zip_nil_right, List.nil_append, List.cons_append, ↓reduceIte, reduceCtorEq, Int.reduceToNat, Nat.reduceEqDiff, Nat.reduceAdd, Nat.reduceLT, Nat.reduceLeDiff, Nat.reduceMul, Value.category, false_implies, true_and, and_true, Bool.false_eq_true, Option.some.injEq, exists_eq_left', Option.toList_some, Option.toList_none, ev_km, ev_k2, ev_k3, ev_k4, ev_k5, ev_l0, ev_l1, sh_1, sh_2, sh_3, sh_4, sh_5, at_X11_best_38, at_X11_best_4, at_X11_best_40, at_X11_best_46, ca_X11_171, ca_X11_338, cd_X11_best_0, cd_X11_best_38, cd_X11_best_4, cd_X11_best_40, cd_X11_best_46, fl_X11_9, no_0, no_1, no_lt, no_le, no_eq, no_lt0, no_ge0, no_gt0, no_le0, no_eq0, no_0eq, no_eqm, no_meq, no_m0, no_mlt, no_mge, no_mgt, no_mm, no_i01, no_i10, no_in, no_or, no_ifm, no_mul, nI_add, no_sub, pk_div, iI_if, nI_clamp, oI_n, oI_s, not_true_eq_false, not_false_eq_true, forall_const, true_implies, false_and, and_false, or_false, false_or, Classical.not_not, true_or, or_true, no_b, no_eq1, eq_self, and_self, sk_301, sk_302, sl_302, sp_301, hN']
        | exact rfl
        | (split <;> omega))
  · rw [at_X11_best_0]
    repeat' (first
      | (with_reducible refine ev_rid ?_; simp (disch := first | omega | assumption) only [ev_run_c, ev_run_n, ev_fj, ev_stp, ev_lk, ev_fv, ev_as, ev_sz, ev_st1, ev_st2, ev_rm, ev_pk, ev_Jof, ev_go, lv_args, List.map_cons, List.map_nil, List.zip_cons_cons, List.zip_nil_left, List.zip_nil_right, List.nil_append, List.cons_append, ↓reduceIte, reduceCtorEq, Int.reduceToNat, Nat.reduceEqDiff, Nat.reduceAdd, Nat.reduceLT, Nat.reduceLeDiff, Nat.reduceMul, Value.category, false_implies, true_and, and_true, Bool.false_eq_true, Option.some.injEq, exists_eq_left', Option.toList_some, Option.toList_none, ev_km, ev_k2, ev_k3, ev_k4, ev_k5, ev_l0, ev_l1, sh_1, sh_2, sh_3, sh_4, sh_5, at_X11_best_38, at_X11_best_4, at_X11_best_40, at_X11_best_46, ca_X11_171, ca_X11_338, cd_X11_best_0, cd_X11_best_38, cd_X11_best_4, cd_X11_best_40, cd_X11_best_46, fl_X11_9, no_0, no_1, no_lt, no_le, no_eq, no_lt0, no_ge0, no_gt0, no_le0, no_eq0, no_0eq, no_eqm, no_meq, no_m0, no_mlt, no_mge, no_mgt, no_mm, no_i01, no_i10, no_in, no_or, no_ifm, no_mul, nI_add, no_sub, pk_div, iI_if, nI_clamp, oI_n, oI_s, not_true_eq_false, not_false_eq_true, forall_const, true_implies, false_and, and_false, or_false, false_or, Classical.not_not, true_or, or_true, no_b, no_eq1, eq_self, and_self, sk_301, sk_302, sl_302, sp_301, hN'])
      | (with_reducible refine ev_gid ?_; simp (disch := first | omega | assumption) only [ev_run_c, ev_run_n, ev_fj, ev_stp, ev_lk, ev_fv, ev_as, ev_sz, ev_st1, ev_st2, ev_rm, ev_pk, ev_Jof, ev_go, lv_args, List.map_cons, List.map_nil, List.zip_cons_cons, List.zip_nil_left, List.zip_nil_right, List.nil_append, List.cons_append, ↓reduceIte, reduceCtorEq, Int.reduceToNat, Nat.reduceEqDiff, Nat.reduceAdd, Nat.reduceLT, Nat.reduceLeDiff, Nat.reduceMul, Value.category, false_implies, true_and, and_true, Bool.false_eq_true, Option.some.injEq, exists_eq_left', Option.toList_some, Option.toList_none, ev_km, ev_k2, ev_k3, ev_k4, ev_k5, ev_l0, ev_l1, sh_1, sh_2, sh_3, sh_4, sh_5, at_X11_best_38, at_X11_best_4, at_X11_best_40, at_X11_best_46, ca_X11_171, ca_X11_338, cd_X11_best_0, cd_X11_best_38, cd_X11_best_4, cd_X11_best_40, cd_X11_best_46, fl_X11_9, no_0, no_1, no_lt, no_le, no_eq, no_lt0, no_ge0, no_gt0, no_le0, no_eq0, no_0eq, no_eqm, no_meq, no_m0, no_mlt, no_mge, no_mgt, no_mm, no_i01, no_i10, no_in, no_or, no_ifm, no_mul, nI_add, no_sub, pk_div, iI_if, nI_clamp, oI_n, oI_s, not_true_eq_false, not_false_eq_true, forall_const, true_implies, false_and, and_false, or_false, false_or, Classical.not_not, true_or, or_true, no_b, no_eq1, eq_self, and_self, sk_301, sk_302, sl_302, sp_301, hN'])
      | (with_reducible refine And.intro (fun q => ?_) (fun q => ?_) <;> (try simp (disch := first | omega | assumption) only [no_0, no_1, no_lt, no_le, no_eq, no_lt0, no_ge0, no_gt0, no_le0, no_eq0, no_0eq, no_eqm, no_meq, no_m0, no_mlt, no_mge, no_mgt, no_mm, no_i01, no_i10, no_in, no_or, no_ifm, no_mul, nI_add, no_sub, pk_div, iI_if, nI_clamp, oI_n, oI_s, not_true_eq_false, not_false_eq_true, forall_const, true_implies, false_and, and_false, or_false, false_or, Classical.not_not, true_or, or_true, no_b, no_eq1, eq_self, and_self, sk_301, sk_302, sl_302, sp_301, hN'] at q))
      | with_reducible refine ev_ci (m_X11_why hok (by assumption) (by assumption) ?_ ?_) ?_
      | with_reducible refine ev_ci (m_X11_isBetter hok (by assumption) (by assumption) ?_ ?_ ?_) ?_
      | omega
      | assumption
      | with_reducible rfl
      | exact vo_n rfl
      | with_reducible refine lp_nx ?_ ?_ ?_ ?_
      | with_reducible refine lp_st ?_ ?_ ?_
      | with_reducible refine ls_c ?_ ?_
      | with_reducible refine vi_c ?_
      | with_reducible refine re_c ?_
      | with_reducible refine vz_c ?_
      | with_reducible refine rz_c ?_
      | exact trivial
      | with_reducible refine And.intro ?_ ?_
      | simp (disch := first | omega | assumption) only [ev_run_c, ev_run_n, ev_fj, ev_stp, ev_lk, ev_fv, ev_as, ev_sz, ev_st1, ev_st2, ev_rm, ev_pk, ev_Jof, ev_go, lv_args, List.map_cons, List.map_nil, List.zip_cons_cons, List.zip_nil_left, List.zip_nil_right, List.nil_append, List.cons_append, ↓reduceIte, reduceCtorEq, Int.reduceToNat, Nat.reduceEqDiff, Nat.reduceAdd, Nat.reduceLT, Nat.reduceLeDiff, Nat.reduceMul, Value.category, false_implies, true_and, and_true, Bool.false_eq_true, Option.some.injEq, exists_eq_left', Option.toList_some, Option.toList_none, ev_km, ev_k2, ev_k3, ev_k4, ev_k5, ev_l0, ev_l1, sh_1, sh_2, sh_3, sh_4, sh_5, at_X11_best_38, at_X11_best_4, at_X11_best_40, at_X11_best_46, ca_X11_171, ca_X11_338, cd_X11_best_0, cd_X11_best_38, cd_X11_best_4, cd_X11_best_40, cd_X11_best_46, fl_X11_9, no_0, no_1, no_lt, no_le, no_eq, no_lt0, no_ge0, no_gt0, no_le0, no_eq0, no_0eq, no_eqm, no_meq, no_m0, no_mlt, no_mge, no_mgt, no_mm, no_i01, no_i10, no_in, no_or, no_ifm, no_mul, nI_add, no_sub, pk_div, iI_if, nI_clamp, oI_n, oI_s, not_true_eq_false, not_false_eq_true, forall_const, true_implies, false_and, and_false, or_false, false_or, Classical.not_not, true_or, or_true, no_b, no_eq1, eq_self, and_self, sk_301, sk_302, sl_302, sp_301, hN']
      | exact rfl
      | (split <;> omega))
end MSeats
