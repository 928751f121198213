/-! ===== the reference: scores ===== -/
section MScore
variable {G : ev_G} {N : Nat → Nat} {μ : ev_M}
def lk (N : Nat → Nat) : Nat → Nat := sm (fun q => 3 - N (952 + 9 * q + 5))
theorem m_X11_lacks (hok : ev_ok sh_S G) (hN : MR N μ) (hI : INV N) : ev_T sh_S G mi_X11_lacks [.ref 301] μ (.inl (some (.int (nI (lk N (N 1)))), μ)) := by
  have hh := iv_h hI
  have hN' : ∀ k, k < 1042 → μ.1 302 k = nI (N k) := hN
  refine ev_tri1 hok (okM_X11_lacks 0) (Nat.le_of_ble_eq_true rfl) 4 [0, 1, 2] (N 1) 400 (fun k => [.ref 301, .int (nI (lk N k)), .int (nI k)]) (fun _ => μ) (fun _ => True) ?_ ?_
  · intro k hk _
    rw [at_X11_lacks_4]
    rcases Nat.lt_or_ge k (N 1) with hkn | hkn
    · have h1 := iv_q hI k (by omega)
      repeat' (first
        | omega
        | assumption
        | exact rfl
        | refine lp_nx ?_ ?_ ?_ ?_
        | refine lp_st ?_ ?_ ?_
        | refine ls_c ?_ ?_
        | refine vi_c ?_
        | refine re_c ?_
        | refine vz_c ?_
        | refine rz_c ?_
        | exact trivial
        | (split <;> omega)
        | (simp only [lk, sm]; omega)
        | with_reducible refine ev_ci (m_X11_ofCake hok (by assumption) ?_ ?_) ?_
        | (refine And.intro (fun q => ?_) (fun q => ?_) <;> (try simp (disch := first | omega | assumption) only [no_0, no_1, no_lt, no_le, no_eq, no_lt0, no_ge0, no_gt0, no_le0, no_eq0, no_0eq, no_eqm, no_meq, no_m0, no_mlt, no_mge, no_mgt, no_mm, no_i01, no_i10, no_in, no_or, no_ifm, no_mul, nI_add, no_sub, pk_div, iI_if, nI_clamp, oI_n, oI_s, not_true_eq_false, not_false_eq_true, forall_const, true_implies, false_and, and_false, or_false, false_or, Classical.not_not, true_or, or_true, no_b, no_eq1, eq_self, and_self, sk_301, sk_302, sl_302, sp_301, hN'] at q))
        | refine And.intro ?_ ?_
        | simp (disch := first | omega | assumption) only [ev_run_c, ev_run_n, ev_fj, ev_stp, ev_lk, ev_fv, ev_as, ev_sz, ev_st1, ev_st2, ev_rm, ev_pk, ev_Jof, ev_go, lv_args, List.map_cons, List.map_nil, List.zip_cons_cons, List.zip_nil_left, List.zip_nil_right, List.nil_append, List.cons_append, ↓reduceIte, reduceCtorEq, Int.reduceToNat, Nat.reduceEqDiff, Nat.reduceAdd, Nat.reduceLT, Nat.reduceLeDiff, Nat.reduceMul, Value.category, false_implies, true_and, and_true, Bool.false_eq_true, Option.some.injEq, exists_eq_left', Option.toList_some, Option.toList_none, ev_km, ev_k2, ev_k3, ev_k4, ev_k5, ev_l0, ev_l1, sh_1, sh_2, sh_3, sh_4, sh_5, at_X11_lacks_31, at_X11_lacks_4, ca_X11_195, cd_X11_lacks_0, cd_X11_lacks_31, cd_X11_lacks_4, fl_X11_9, no_0, no_1, no_lt, no_le, no_eq, no_lt0, no_ge0, no_gt0, no_le0, no_eq0, no_0eq, no_eqm, no_meq, no_m0, no_mlt, no_mge, no_mgt, no_mm, no_i01, no_i10, no_in, no_or, no_ifm, no_mul, nI_add, no_sub, pk_div, iI_if, nI_clamp, oI_n, oI_s, not_true_eq_false, not_false_eq_true, forall_const, true_implies, false_and, and_false, or_false, false_or, Classical.not_not, true_or, or_true, no_b, no_eq1, eq_self, and_self, sk_301, sk_302, sl_302, sp_301, hN'])
    · have hkn : N 1 = k := by omega
      subst hkn
      repeat' (first
        | omega
        | assumption
        | exact rfl
        | refine lp_nx ?_ ?_ ?_ ?_
        | refine lp_st ?_ ?_ ?_
        | refine ls_c ?_ ?_
        | refine vi_c ?_
        | refine re_c ?_
        | refine vz_c ?_
        | refine rz_c ?_
        | exact trivial
        | (split <;> omega)
        | with_reducible refine ev_ci (m_X11_ofCake hok (by assumption) ?_ ?_) ?_
        | (refine And.intro (fun q => ?_) (fun q => ?_) <;> (try simp (disch := first | omega | assumption) only [no_0, no_1, no_lt, no_le, no_eq, no_lt0, no_ge0, no_gt0, no_le0, no_eq0, no_0eq, no_eqm, no_meq, no_m0, no_mlt, no_mge, no_mgt, no_mm, no_i01, no_i10, no_in, no_or, no_ifm, no_mul, nI_add, no_sub, pk_div, iI_if, nI_clamp, oI_n, oI_s, not_true_eq_false, not_false_eq_true, forall_const, true_implies, false_and, and_false, or_false, false_or, Classical.not_not, true_or, or_true, no_b, no_eq1, eq_self, and_self, sk_301, sk_302, sl_302, sp_301, hN'] at q))
        | refine And.intro ?_ ?_
        | simp (disch := first | omega | assumption) only [ev_run_c, ev_run_n, ev_fj, ev_stp, ev_lk, ev_fv, ev_as, ev_sz, ev_st1, ev_st2, ev_rm, ev_pk, ev_Jof, ev_go, lv_args, List.map_cons, List.map_nil, List.zip_cons_cons, List.zip_nil_left, List.zip_nil_right, List.nil_append, List.cons_append, ↓reduceIte, reduceCtorEq, Int.reduceToNat, Nat.reduceEqDiff, Nat.reduceAdd, Nat.reduceLT, Nat.reduceLeDiff, Nat.reduceMul, Value.category, false_implies, true_and, and_true, Bool.false_eq_true, Option.some.injEq, exists_eq_left', Option.toList_some, Option.toList_none, ev_km, ev_k2, ev_k3, ev_k4, ev_k5, ev_l0, ev_l1, sh_1, sh_2, sh_3, sh_4, sh_5, at_X11_lacks_31, at_X11_lacks_4, ca_X11_195, cd_X11_lacks_0, cd_X11_lacks_31, cd_X11_lacks_4, fl_X11_9, no_0, no_1, no_lt, no_le, no_eq, no_lt0, no_ge0, no_gt0, no_le0, no_eq0, no_0eq, no_eqm, no_meq, no_m0, no_mlt, no_mge, no_mgt, no_mm, no_i01, no_i10, no_in, no_or, no_ifm, no_mul, nI_add, no_sub, pk_div, iI_if, nI_clamp, oI_n, oI_s, not_true_eq_false, not_false_eq_true, forall_const, true_implies, false_and, and_false, or_false, false_or, Classical.not_not, true_or, or_true, no_b, no_eq1, eq_self, and_self, sk_301, sk_302, sl_302, sp_301, hN'])
  · rw [at_X11_lacks_0]
    repeat' (first
      | omega
      | assumption
      | exact rfl
      | refine lp_nx ?_ ?_ ?_ ?_
      | refine lp_st ?_ ?_ ?_
      | refine ls_c ?_ ?_
      | refine vi_c ?_
      | refine re_c ?_
      | refine vz_c ?_
      | refine rz_c ?_
      | exact trivial
      | (split <;> omega)
      | with_reducible refine ev_ci (m_X11_ofCake hok (by assumption) ?_ ?_) ?_
      | (refine And.intro (fun q => ?_) (fun q => ?_) <;> (try simp (disch := first | omega | assumption) only [no_0, no_1, no_lt, no_le, no_eq, no_lt0, no_ge0, no_gt0, no_le0, no_eq0, no_0eq, no_eqm, no_meq, no_m0, no_mlt, no_mge, no_mgt, no_mm, no_i01, no_i10, no_in, no_or, no_ifm, no_mul, nI_add, no_sub, pk_div, iI_if, nI_clamp, oI_n, oI_s, not_true_eq_false, not_false_eq_true, forall_const, true_implies, false_and, and_false, or_false, false_or, Classical.not_not, true_or, or_true, no_b, no_eq1, eq_self, and_self] at q))
      | refine And.intro ?_ ?_
      | simp (disch := first | omega | assumption) only [ev_run_c, ev_run_n, ev_fj, ev_stp, ev_lk, ev_fv, ev_as, ev_sz, ev_st1, ev_st2, ev_rm, ev_pk, ev_Jof, ev_go, lv_args, List.map_cons, List.map_nil, List.zip_cons_cons, List.zip_nil_left, List.zip_nil_right, List.nil_append, List.cons_append, ↓reduceIte, reduceCtorEq, Int.reduceToNat, Nat.reduceEqDiff, Nat.reduceAdd, Nat.reduceLT, Nat.reduceLeDiff, Nat.reduceMul, Value.category, false_implies, true_and, and_true, Bool.false_eq_true, Option.some.injEq, exists_eq_left', Option.toList_some, Option.toList_none, ev_km, ev_k2, ev_k3, ev_k4, ev_k5, ev_l0, ev_l1, sh_1, sh_2, sh_3, sh_4, sh_5, at_X11_lacks_31, at_X11_lacks_4, ca_X11_195, cd_X11_lacks_0, cd_X11_lacks_31, cd_X11_lacks_4, fl_X11_9, no_0, no_1, no_lt, no_le, no_eq, no_lt0, no_ge0, no_gt0, no_le0, no_eq0, no_0eq, no_eqm, no_meq, no_m0, no_mlt, no_mge, no_mgt, no_mm, no_i01, no_i10, no_in, no_or, no_ifm, no_mul, nI_add, no_sub, pk_div, iI_if, nI_clamp, oI_n, oI_s, not_true_eq_false, not_false_eq_true, forall_const, true_implies, false_and, and_false, or_false, false_or, Classical.not_not, true_or, or_true, no_b, no_eq1, eq_self, and_self])
/-- how many scores a pancake has, a person has given, all; the sums -/
def scs (N : Nat → Nat) (q : Nat) : Nat → Nat := sm (fun i => if N (8 + 59 * i + (23 + q)) = 0 then 0 else 1)
def scb (N : Nat → Nat) (i : Nat) : Nat → Nat := sm (fun q => if N (8 + 59 * i + (23 + q)) = 0 then 0 else 1)
def smb (N : Nat → Nat) (i : Nat) : Nat → Nat := sm (fun q => N (8 + 59 * i + (23 + q)))
def asc (N : Nat → Nat) : Nat → Nat := sm (fun i => scb N i (N 1))
def asm (N : Nat → Nat) : Nat → Nat := sm (fun i => smb N i (N 1))
theorem scs_le (N : Nat → Nat) (q n : Nat) : scs N q n ≤ n := by
  have := sm_le (f := fun i => if N (8 + 59 * i + (23 + q)) = 0 then 0 else 1) (B := 1) n (fun k _ => by (try dsimp only); split <;> omega)
  unfold scs; omega
theorem scb_le (N : Nat → Nat) (i n : Nat) : scb N i n ≤ n := by
  have := sm_le (f := fun q => if N (8 + 59 * i + (23 + q)) = 0 then 0 else 1) (B := 1) n (fun k _ => by (try dsimp only); split <;> omega)
  unfold scb; omega
theorem smb_le (hI : INV N) {i n : Nat} (hi : i < 16) (hn : n ≤ 10) : smb N i n ≤ 90 := by
  have := sm_le (f := fun q => N (8 + 59 * i + (23 + q))) (B := 9) n (fun k hk => (iv_pq hI i k hi (by omega)).2.1)
  unfold smb; omega
theorem asc_le (hI : INV N) {n : Nat} (hn : n ≤ 16) : asc N n ≤ 160 := by
  have := sm_le (f := fun i => scb N i (N 1)) (B := 10) n (fun k hk => by have := scb_le N k (N 1); have := iv_h hI; omega)
  unfold asc; omega
theorem asm_le (hI : INV N) {n : Nat} (hn : n ≤ 16) : asm N n ≤ 1440 := by
  have := sm_le (f := fun i => smb N i (N 1)) (B := 90) n (fun k hk => smb_le hI (by omega) (by have := iv_h hI; omega))
  unfold asm; omega
theorem sm_y {c : Prop} [Decidable c] {a : Nat} (h : ¬ c) : a + 1 = a + (if c then 0 else 1) := by rw [if_neg h]
theorem sm_n {c : Prop} [Decidable c] {a : Nat} (h : c) : a + 0 = a + (if c then 0 else 1) := by rw [if_pos h]
theorem m_X11_scores (hok : ev_ok sh_S G) (hN : MR N μ) (hI : INV N) {q : Nat} (hq : q < 10) : ev_T sh_S G mi_X11_scores [.ref 301, .int (nI q)] μ (.inl (some (.int (nI (scs N q (N 0)))), μ)) := by
  have hh := iv_h hI
  have hN' : ∀ k, k < 1042 → μ.1 302 k = nI (N k) := hN
  refine ev_tri1 hok (okM_X11_scores 0) (Nat.le_of_ble_eq_true rfl) 4 [0, 1, 2, 3] (N 0) 400 (fun k => [.ref 301, .int (nI q), .int (nI (scs N q k)), .int (nI k)]) (fun _ => μ) (fun _ => True) ?_ ?_
  · intro k hk _
    rw [at_X11_scores_4]
    rcases Nat.lt_or_ge k (N 0) with hkn | hkn
    · have h1 := iv_pq hI k q (by omega) hq
      repeat' (first
        | omega
        | assumption
        | exact rfl
        | exact sm_y ‹_›
        | exact sm_n ‹_›
        | refine lp_nx ?_ ?_ ?_ ?_
        | refine lp_st ?_ ?_ ?_
        | refine ls_c ?_ ?_
        | refine vi_c ?_
        | refine re_c ?_
        | refine vz_c ?_
        | refine rz_c ?_
        | exact trivial
        | (split <;> omega)
        | with_reducible refine ev_ci (m_X11_of hok (by assumption) ?_ ?_) ?_
        | with_reducible refine ev_ci (m_X11_one hok _ ?_) ?_
        | (refine And.intro (fun q => ?_) (fun q => ?_) <;> (try simp (disch := first | omega | assumption) only [no_0, no_1, no_lt, no_le, no_eq, no_lt0, no_ge0, no_gt0, no_le0, no_eq0, no_0eq, no_eqm, no_meq, no_m0, no_mlt, no_mge, no_mgt, no_mm, no_i01, no_i10, no_in, no_or, no_ifm, no_mul, nI_add, no_sub, pk_div, iI_if, nI_clamp, oI_n, oI_s, not_true_eq_false, not_false_eq_true, forall_const, true_implies, false_and, and_false, or_false, false_or, Classical.not_not, true_or, or_true, no_b, no_eq1, eq_self, and_self, sk_301, sk_302, sl_302, sp_301, hN'] at q))
        | refine And.intro ?_ ?_
        | simp (disch := first | omega | assumption) only [ev_run_c, ev_run_n, ev_fj, ev_stp, ev_lk, ev_fv, ev_as, ev_sz, ev_st1, ev_st2, ev_rm, ev_pk, ev_Jof, ev_go, lv_args, List.map_cons, List.map_nil, List.zip_cons_cons, List.zip_nil_left, List.zip_nil_right, List.nil_append, List.cons_append, ↓reduceIte, reduceCtorEq, Int.reduceToNat, Nat.reduceEqDiff, Nat.reduceAdd, Nat.reduceLT, Nat.reduceLeDiff, Nat.reduceMul, Value.category, false_implies, true_and, and_true, Bool.false_eq_true, Option.some.injEq, exists_eq_left', Option.toList_some, Option.toList_none, ev_km, ev_k2, ev_k3, ev_k4, ev_k5, ev_l0, ev_l1, sh_1, sh_2, sh_3, sh_4, sh_5, at_X11_scores_31, at_X11_scores_32, at_X11_scores_4, at_X11_scores_43, ca_X11_121, ca_X11_325, cd_X11_scores_0, cd_X11_scores_31, cd_X11_scores_32, cd_X11_scores_4, cd_X11_scores_43, fl_X11_9, ev_b_23, no_0, no_1, no_lt, no_le, no_eq, no_lt0, no_ge0, no_gt0, no_le0, no_eq0, no_0eq, no_eqm, no_meq, no_m0, no_mlt, no_mge, no_mgt, no_mm, no_i01, no_i10, no_in, no_or, no_ifm, no_mul, nI_add, no_sub, pk_div, iI_if, nI_clamp, oI_n, oI_s, not_true_eq_false, not_false_eq_true, forall_const, true_implies, false_and, and_false, or_false, false_or, Classical.not_not, true_or, or_true, no_b, no_eq1, eq_self, and_self, sk_301, sk_302, sl_302, sp_301, hN'])
    · have hkn : N 0 = k := by omega
      subst hkn
      repeat' (first
        | omega
        | assumption
        | exact rfl
        | refine lp_nx ?_ ?_ ?_ ?_
        | refine lp_st ?_ ?_ ?_
        | refine ls_c ?_ ?_
        | refine vi_c ?_
        | refine re_c ?_
        | refine vz_c ?_
        | refine rz_c ?_
        | exact trivial
        | (split <;> omega)
        | with_reducible refine ev_ci (m_X11_of hok (by assumption) ?_ ?_) ?_
        | with_reducible refine ev_ci (m_X11_one hok _ ?_) ?_
        | (refine And.intro (fun q => ?_) (fun q => ?_) <;> (try simp (disch := first | omega | assumption) only [no_0, no_1, no_lt, no_le, no_eq, no_lt0, no_ge0, no_gt0, no_le0, no_eq0, no_0eq, no_eqm, no_meq, no_m0, no_mlt, no_mge, no_mgt, no_mm, no_i01, no_i10, no_in, no_or, no_ifm, no_mul, nI_add, no_sub, pk_div, iI_if, nI_clamp, oI_n, oI_s, not_true_eq_false, not_false_eq_true, forall_const, true_implies, false_and, and_false, or_false, false_or, Classical.not_not, true_or, or_true, no_b, no_eq1, eq_self, and_self, sk_301, sk_302, sl_302, sp_301, hN'] at q))
        | refine And.intro ?_ ?_
        | simp (disch := first | omega | assumption) only [ev_run_c, ev_run_n, ev_fj, ev_stp, ev_lk, ev_fv, ev_as, ev_sz, ev_st1, ev_st2, ev_rm, ev_pk, ev_Jof, ev_go, lv_args, List.map_cons, List.map_nil, List.zip_cons_cons, List.zip_nil_left, List.zip_nil_right, List.nil_append, List.cons_append, ↓reduceIte, reduceCtorEq, Int.reduceToNat, Nat.reduceEqDiff, Nat.reduceAdd, Nat.reduceLT, Nat.reduceLeDiff, Nat.reduceMul, Value.category, false_implies, true_and, and_true, Bool.false_eq_true, Option.some.injEq, exists_eq_left', Option.toList_some, Option.toList_none, ev_km, ev_k2, ev_k3, ev_k4, ev_k5, ev_l0, ev_l1, sh_1, sh_2, sh_3, sh_4, sh_5, at_X11_scores_31, at_X11_scores_32, at_X11_scores_4, at_X11_scores_43, ca_X11_121, ca_X11_325, cd_X11_scores_0, cd_X11_scores_31, cd_X11_scores_32, cd_X11_scores_4, cd_X11_scores_43, fl_X11_9, ev_b_23, no_0, no_1, no_lt, no_le, no_eq, no_lt0, no_ge0, no_gt0, no_le0, no_eq0, no_0eq, no_eqm, no_meq, no_m0, no_mlt, no_mge, no_mgt, no_mm, no_i01, no_i10, no_in, no_or, no_ifm, no_mul, nI_add, no_sub, pk_div, iI_if, nI_clamp, oI_n, oI_s, not_true_eq_false, not_false_eq_true, forall_const, true_implies, false_and, and_false, or_false, false_or, Classical.not_not, true_or, or_true, no_b, no_eq1, eq_self, and_self, sk_301, sk_302, sl_302, sp_301, hN'])
  · rw [at_X11_scores_0]
    repeat' (first
      | omega
      | assumption
      | exact rfl
      | refine lp_nx ?_ ?_ ?_ ?_
      | refine lp_st ?_ ?_ ?_
      | refine ls_c ?_ ?_
      | refine vi_c ?_
      | refine re_c ?_
      | refine vz_c ?_
      | refine rz_c ?_
      | exact trivial
      | (split <;> omega)
      | with_reducible refine ev_ci (m_X11_of hok (by assumption) ?_ ?_) ?_
      | with_reducible refine ev_ci (m_X11_one hok _ ?_) ?_
      | (refine And.intro (fun q => ?_) (fun q => ?_) <;> (try simp (disch := first | omega | assumption) only [no_0, no_1, no_lt, no_le, no_eq, no_lt0, no_ge0, no_gt0, no_le0, no_eq0, no_0eq, no_eqm, no_meq, no_m0, no_mlt, no_mge, no_mgt, no_mm, no_i01, no_i10, no_in, no_or, no_ifm, no_mul, nI_add, no_sub, pk_div, iI_if, nI_clamp, oI_n, oI_s, not_true_eq_false, not_false_eq_true, forall_const, true_implies, false_and, and_false, or_false, false_or, Classical.not_not, true_or, or_true, no_b, no_eq1, eq_self, and_self] at q))
      | refine And.intro ?_ ?_
      | simp (disch := first | omega | assumption) only [ev_run_c, ev_run_n, ev_fj, ev_stp, ev_lk, ev_fv, ev_as, ev_sz, ev_st1, ev_st2, ev_rm, ev_pk, ev_Jof, ev_go, lv_args, List.map_cons, List.map_nil, List.zip_cons_cons, List.zip_nil_left, List.zip_nil_right, List.nil_append, List.cons_append, ↓reduceIte, reduceCtorEq, Int.reduceToNat, Nat.reduceEqDiff, Nat.reduceAdd, Nat.reduceLT, Nat.reduceLeDiff, Nat.reduceMul, Value.category, false_implies, true_and, and_true, Bool.false_eq_true, Option.some.injEq, exists_eq_left', Option.toList_some, Option.toList_none, ev_km, ev_k2, ev_k3, ev_k4, ev_k5, ev_l0, ev_l1, sh_1, sh_2, sh_3, sh_4, sh_5, at_X11_scores_31, at_X11_scores_32, at_X11_scores_4, at_X11_scores_43, ca_X11_121, ca_X11_325, cd_X11_scores_0, cd_X11_scores_31, cd_X11_scores_32, cd_X11_scores_4, cd_X11_scores_43, fl_X11_9, ev_b_23, no_0, no_1, no_lt, no_le, no_eq, no_lt0, no_ge0, no_gt0, no_le0, no_eq0, no_0eq, no_eqm, no_meq, no_m0, no_mlt, no_mge, no_mgt, no_mm, no_i01, no_i10, no_in, no_or, no_ifm, no_mul, nI_add, no_sub, pk_div, iI_if, nI_clamp, oI_n, oI_s, not_true_eq_false, not_false_eq_true, forall_const, true_implies, false_and, and_false, or_false, false_or, Classical.not_not, true_or, or_true, no_b, no_eq1, eq_self, and_self])
theorem m_X11_scoresBy (hok : ev_ok sh_S G) (hN : MR N μ) (hI : INV N) {i : Nat} (hi : i < 16) : ev_T sh_S G mi_X11_scoresBy [.ref 301, .int (nI i)] μ (.inl (some (.int (nI (scb N i (N 1)))), μ)) := by
  have hh := iv_h hI
  have hN' : ∀ k, k < 1042 → μ.1 302 k = nI (N k) := hN
  refine ev_tri1 hok (okM_X11_scoresBy 0) (Nat.le_of_ble_eq_true rfl) 4 [0, 1, 2, 3] (N 1) 400 (fun k => [.ref 301, .int (nI i), .int (nI (scb N i k)), .int (nI k)]) (fun _ => μ) (fun _ => True) ?_ ?_
  · intro k hk _
    rw [at_X11_scoresBy_4]
    rcases Nat.lt_or_ge k (N 1) with hkn | hkn
    · have h1 := iv_pq hI i k hi (by omega)
      repeat' (first
        | omega
        | assumption
        | exact rfl
        | exact sm_y ‹_›
        | exact sm_n ‹_›
        | refine lp_nx ?_ ?_ ?_ ?_
        | refine lp_st ?_ ?_ ?_
        | refine ls_c ?_ ?_
        | refine vi_c ?_
        | refine re_c ?_
        | refine vz_c ?_
        | refine rz_c ?_
        | exact trivial
        | (split <;> omega)
        | with_reducible refine ev_ci (m_X11_of hok (by assumption) ?_ ?_) ?_
        | with_reducible refine ev_ci (m_X11_one hok _ ?_) ?_
        | (refine And.intro (fun q => ?_) (fun q => ?_) <;> (try simp (disch := first | omega | assumption) only [no_0, no_1, no_lt, no_le, no_eq, no_lt0, no_ge0, no_gt0, no_le0, no_eq0, no_0eq, no_eqm, no_meq, no_m0, no_mlt, no_mge, no_mgt, no_mm, no_i01, no_i10, no_in, no_or, no_ifm, no_mul, nI_add, no_sub, pk_div, iI_if, nI_clamp, oI_n, oI_s, not_true_eq_false, not_false_eq_true, forall_const, true_implies, false_and, and_false, or_false, false_or, Classical.not_not, true_or, or_true, no_b, no_eq1, eq_self, and_self, sk_301, sk_302, sl_302, sp_301, hN'] at q))
        | refine And.intro ?_ ?_
        | simp (disch := first | omega | assumption) only [ev_run_c, ev_run_n, ev_fj, ev_stp, ev_lk, ev_fv, ev_as, ev_sz, ev_st1, ev_st2, ev_rm, ev_pk, ev_Jof, ev_go, lv_args, List.map_cons, List.map_nil, List.zip_cons_cons, List.zip_nil_left, List.zip_nil_right, List.nil_append, List.cons_append, ↓reduceIte, reduceCtorEq, Int.reduceToNat, Nat.reduceEqDiff, Nat.reduceAdd, Nat.reduceLT, Nat.reduceLeDiff, Nat.reduceMul, Value.category, false_implies, true_and, and_true, Bool.false_eq_true, Option.some.injEq, exists_eq_left', Option.toList_some, Option.toList_none, ev_km, ev_k2, ev_k3, ev_k4, ev_k5, ev_l0, ev_l1, sh_1, sh_2, sh_3, sh_4, sh_5, at_X11_scoresBy_31, at_X11_scoresBy_32, at_X11_scoresBy_4, at_X11_scoresBy_43, ca_X11_121, ca_X11_325, cd_X11_scoresBy_0, cd_X11_scoresBy_31, cd_X11_scoresBy_32, cd_X11_scoresBy_4, cd_X11_scoresBy_43, fl_X11_9, ev_b_23, no_0, no_1, no_lt, no_le, no_eq, no_lt0, no_ge0, no_gt0, no_le0, no_eq0, no_0eq, no_eqm, no_meq, no_m0, no_mlt, no_mge, no_mgt, no_mm, no_i01, no_i10, no_in, no_or, no_ifm, no_mul, nI_add, no_sub, pk_div, iI_if, nI_clamp, oI_n, oI_s, not_true_eq_false, not_false_eq_true, forall_const, true_implies, false_and, and_false, or_false, false_or, Classical.not_not, true_or, or_true, no_b, no_eq1, eq_self, and_self, sk_301, sk_302, sl_302, sp_301, hN'])
    · have hkn : N 1 = k := by omega
      subst hkn
      repeat' (first
        | omega
        | assumption
        | exact rfl
        | refine lp_nx ?_ ?_ ?_ ?_
        | refine lp_st ?_ ?_ ?_
        | refine ls_c ?_ ?_
        | refine vi_c ?_
        | refine re_c ?_
        | refine vz_c ?_
        | refine rz_c ?_
        | exact trivial
        | (split <;> omega)
        | with_reducible refine ev_ci (m_X11_of hok (by assumption) ?_ ?_) ?_
        | with_reducible refine ev_ci (m_X11_one hok _ ?_) ?_
        | (refine And.intro (fun q => ?_) (fun q => ?_) <;> (try simp (disch := first | omega | assumption) only [no_0, no_1, no_lt, no_le, no_eq, no_lt0, no_ge0, no_gt0, no_le0, no_eq0, no_0eq, no_eqm, no_meq, no_m0, no_mlt, no_mge, no_mgt, no_mm, no_i01, no_i10, no_in, no_or, no_ifm, no_mul, nI_add, no_sub, pk_div, iI_if, nI_clamp, oI_n, oI_s, not_true_eq_false, not_false_eq_true, forall_const, true_implies, false_and, and_false, or_false, false_or, Classical.not_not, true_or, or_true, no_b, no_eq1, eq_self, and_self, sk_301, sk_302, sl_302, sp_301, hN'] at q))
        | refine And.intro ?_ ?_
        | simp (disch := first | omega | assumption) only [ev_run_c, ev_run_n, ev_fj, ev_stp, ev_lk, ev_fv, ev_as, ev_sz, ev_st1, ev_st2, ev_rm, ev_pk, ev_Jof, ev_go, lv_args, List.map_cons, List.map_nil, List.zip_cons_cons, List.zip_nil_left, List.zip_nil_right, List.nil_append, List.cons_append, ↓reduceIte, reduceCtorEq, Int.reduceToNat, Nat.reduceEqDiff, Nat.reduceAdd, Nat.reduceLT, Nat.reduceLeDiff, Nat.reduceMul, Value.category, false_implies, true_and, and_true, Bool.false_eq_true, Option.some.injEq, exists_eq_left', Option.toList_some, Option.toList_none, ev_km, ev_k2, ev_k3, ev_k4, ev_k5, ev_l0, ev_l1, sh_1, sh_2, sh_3, sh_4, sh_5, at_X11_scoresBy_31, at_X11_scoresBy_32, at_X11_scoresBy_4, at_X11_scoresBy_43, ca_X11_121, ca_X11_325, cd_X11_scoresBy_0, cd_X11_scoresBy_31, cd_X11_scoresBy_32, cd_X11_scoresBy_4, cd_X11_scoresBy_43, fl_X11_9, ev_b_23, no_0, no_1, no_lt, no_le, no_eq, no_lt0, no_ge0, no_gt0, no_le0, no_eq0, no_0eq, no_eqm, no_meq, no_m0, no_mlt, no_mge, no_mgt, no_mm, no_i01, no_i10, no_in, no_or, no_ifm, no_mul, nI_add, no_sub, pk_div, iI_if, nI_clamp, oI_n, oI_s, not_true_eq_false, not_false_eq_true, forall_const, true_implies, false_and, and_false, or_false, false_or, Classical.not_not, true_or, or_true, no_b, no_eq1, eq_self, and_self, sk_301, sk_302, sl_302, sp_301, hN'])
  · rw [at_X11_scoresBy_0]
    repeat' (first
      | omega
      | assumption
      | exact rfl
      | refine lp_nx ?_ ?_ ?_ ?_
      | refine lp_st ?_ ?_ ?_
      | refine ls_c ?_ ?_
      | refine vi_c ?_
      | refine re_c ?_
      | refine vz_c ?_
      | refine rz_c ?_
      | exact trivial
      | (split <;> omega)
      | with_reducible refine ev_ci (m_X11_of hok (by assumption) ?_ ?_) ?_
      | with_reducible refine ev_ci (m_X11_one hok _ ?_) ?_
      | (refine And.intro (fun q => ?_) (fun q => ?_) <;> (try simp (disch := first | omega | assumption) only [no_0, no_1, no_lt, no_le, no_eq, no_lt0, no_ge0, no_gt0, no_le0, no_eq0, no_0eq, no_eqm, no_meq, no_m0, no_mlt, no_mge, no_mgt, no_mm, no_i01, no_i10, no_in, no_or, no_ifm, no_mul, nI_add, no_sub, pk_div, iI_if, nI_clamp, oI_n, oI_s, not_true_eq_false, not_false_eq_true, forall_const, true_implies, false_and, and_false, or_false, false_or, Classical.not_not, true_or, or_true, no_b, no_eq1, eq_self, and_self] at q))
      | refine And.intro ?_ ?_
      | simp (disch := first | omega | assumption) only [ev_run_c, ev_run_n, ev_fj, ev_stp, ev_lk, ev_fv, ev_as, ev_sz, ev_st1, ev_st2, ev_rm, ev_pk, ev_Jof, ev_go, lv_args, List.map_cons, List.map_nil, List.zip_cons_cons, List.zip_nil_left, List.zip_nil_right, List.nil_append, List.cons_append, ↓reduceIte, reduceCtorEq, Int.reduceToNat, Nat.reduceEqDiff, Nat.reduceAdd, Nat.reduceLT, Nat.reduceLeDiff, Nat.reduceMul, Value.category, false_implies, true_and, and_true, Bool.false_eq_true, Option.some.injEq, exists_eq_left', Option.toList_some, Option.toList_none, ev_km, ev_k2, ev_k3, ev_k4, ev_k5, ev_l0, ev_l1, sh_1, sh_2, sh_3, sh_4, sh_5, at_X11_scoresBy_31, at_X11_scoresBy_32, at_X11_scoresBy_4, at_X11_scoresBy_43, ca_X11_121, ca_X11_325, cd_X11_scoresBy_0, cd_X11_scoresBy_31, cd_X11_scoresBy_32, cd_X11_scoresBy_4, cd_X11_scoresBy_43, fl_X11_9, ev_b_23, no_0, no_1, no_lt, no_le, no_eq, no_lt0, no_ge0, no_gt0, no_le0, no_eq0, no_0eq, no_eqm, no_meq, no_m0, no_mlt, no_mge, no_mgt, no_mm, no_i01, no_i10, no_in, no_or, no_ifm, no_mul, nI_add, no_sub, pk_div, iI_if, nI_clamp, oI_n, oI_s, not_true_eq_false, not_false_eq_true, forall_const, true_implies, false_and, and_false, or_false, false_or, Classical.not_not, true_or, or_true, no_b, no_eq1, eq_self, and_self])
theorem m_X11_sumBy (hok : ev_ok sh_S G) (hN : MR N μ) (hI : INV N) {i : Nat} (hi : i < 16) : ev_T sh_S G mi_X11_sumBy [.ref 301, .int (nI i)] μ (.inl (some (.int (nI (smb N i (N 1)))), μ)) := by
  have hh := iv_h hI
  have hN' : ∀ k, k < 1042 → μ.1 302 k = nI (N k) := hN
  refine ev_tri1 hok (okM_X11_sumBy 0) (Nat.le_of_ble_eq_true rfl) 4 [0, 1, 2, 3] (N 1) 400 (fun k => [.ref 301, .int (nI i), .int (nI (smb N i k)), .int (nI k)]) (fun _ => μ) (fun _ => True) ?_ ?_
  · intro k hk _
    rw [at_X11_sumBy_4]
    rcases Nat.lt_or_ge k (N 1) with hkn | hkn
    · repeat' (first
        | omega
        | assumption
        | exact rfl
        | refine lp_nx ?_ ?_ ?_ ?_
        | refine lp_st ?_ ?_ ?_
        | refine ls_c ?_ ?_
        | refine vi_c ?_
        | refine re_c ?_
        | refine vz_c ?_
        | refine rz_c ?_
        | exact trivial
        | (split <;> omega)
        | with_reducible refine ev_ci (m_X11_of hok (by assumption) ?_ ?_) ?_
        | (refine And.intro (fun q => ?_) (fun q => ?_) <;> (try simp (disch := first | omega | assumption) only [no_0, no_1, no_lt, no_le, no_eq, no_lt0, no_ge0, no_gt0, no_le0, no_eq0, no_0eq, no_eqm, no_meq, no_m0, no_mlt, no_mge, no_mgt, no_mm, no_i01, no_i10, no_in, no_or, no_ifm, no_mul, nI_add, no_sub, pk_div, iI_if, nI_clamp, oI_n, oI_s, not_true_eq_false, not_false_eq_true, forall_const, true_implies, false_and, and_false, or_false, false_or, Classical.not_not, true_or, or_true, no_b, no_eq1, eq_self, and_self, sk_301, sk_302, sl_302, sp_301, hN'] at q))
        | refine And.intro ?_ ?_
        | simp (disch := first | omega | assumption) only [ev_run_c, ev_run_n, ev_fj, ev_stp, ev_lk, ev_fv, ev_as, ev_sz, ev_st1, ev_st2, ev_rm, ev_pk, ev_Jof, ev_go, lv_args, List.map_cons, List.map_nil, List.zip_cons_cons, List.zip_nil_left, List.zip_nil_right, List.nil_append, List.cons_append, ↓reduceIte, reduceCtorEq, Int.reduceToNat, Nat.reduceEqDiff, Nat.reduceAdd, Nat.reduceLT, Nat.reduceLeDiff, Nat.reduceMul, Value.category, false_implies, true_and, and_true, Bool.false_eq_true, Option.some.injEq, exists_eq_left', Option.toList_some, Option.toList_none, ev_km, ev_k2, ev_k3, ev_k4, ev_k5, ev_l0, ev_l1, sh_1, sh_2, sh_3, sh_4, sh_5, at_X11_sumBy_32, at_X11_sumBy_4, ca_X11_121, cd_X11_sumBy_0, cd_X11_sumBy_32, cd_X11_sumBy_4, fl_X11_9, ev_b_23, no_0, no_1, no_lt, no_le, no_eq, no_lt0, no_ge0, no_gt0, no_le0, no_eq0, no_0eq, no_eqm, no_meq, no_m0, no_mlt, no_mge, no_mgt, no_mm, no_i01, no_i10, no_in, no_or, no_ifm, no_mul, nI_add, no_sub, pk_div, iI_if, nI_clamp, oI_n, oI_s, not_true_eq_false, not_false_eq_true, forall_const, true_implies, false_and, and_false, or_false, false_or, Classical.not_not, true_or, or_true, no_b, no_eq1, eq_self, and_self, sk_301, sk_302, sl_302, sp_301, hN'])
    · have hkn : N 1 = k := by omega
      subst hkn
      repeat' (first
        | omega
        | assumption
        | exact rfl
        | refine lp_nx ?_ ?_ ?_ ?_
        | refine lp_st ?_ ?_ ?_
        | refine ls_c ?_ ?_
        | refine vi_c ?_
        | refine re_c ?_
        | refine vz_c ?_
        | refine rz_c ?_
        | exact trivial
        | (split <;> omega)
        | with_reducible refine ev_ci (m_X11_of hok (by assumption) ?_ ?_) ?_
        | (refine And.intro (fun q => ?_) (fun q => ?_) <;> (try simp (disch := first | omega | assumption) only [no_0, no_1, no_lt, no_le, no_eq, no_lt0, no_ge0, no_gt0, no_le0, no_eq0, no_0eq, no_eqm, no_meq, no_m0, no_mlt, no_mge, no_mgt, no_mm, no_i01, no_i10, no_in, no_or, no_ifm, no_mul, nI_add, no_sub, pk_div, iI_if, nI_clamp, oI_n, oI_s, not_true_eq_false, not_false_eq_true, forall_const, true_implies, false_and, and_false, or_false, false_or, Classical.not_not, true_or, or_true, no_b, no_eq1, eq_self, and_self, sk_301, sk_302, sl_302, sp_301, hN'] at q))
        | refine And.intro ?_ ?_
        | simp (disch := first | omega | assumption) only [ev_run_c, ev_run_n, ev_fj, ev_stp, ev_lk, ev_fv, ev_as, ev_sz, ev_st1, ev_st2, ev_rm, ev_pk, ev_Jof, ev_go, lv_args, List.map_cons, List.map_nil, List.zip_cons_cons, List.zip_nil_left, List.zip_nil_right, List.nil_append, List.cons_append, ↓reduceIte, reduceCtorEq, Int.reduceToNat, Nat.reduceEqDiff, Nat.reduceAdd, Nat.reduceLT, Nat.reduceLeDiff, Nat.reduceMul, Value.category, false_implies, true_and, and_true, Bool.false_eq_true, Option.some.injEq, exists_eq_left', Option.toList_some, Option.toList_none, ev_km, ev_k2, ev_k3, ev_k4, ev_k5, ev_l0, ev_l1, sh_1, sh_2, sh_3, sh_4, sh_5, at_X11_sumBy_32, at_X11_sumBy_4, ca_X11_121, cd_X11_sumBy_0, cd_X11_sumBy_32, cd_X11_sumBy_4, fl_X11_9, ev_b_23, no_0, no_1, no_lt, no_le, no_eq, no_lt0, no_ge0, no_gt0, no_le0, no_eq0, no_0eq, no_eqm, no_meq, no_m0, no_mlt, no_mge, no_mgt, no_mm, no_i01, no_i10, no_in, no_or, no_ifm, no_mul, nI_add, no_sub, pk_div, iI_if, nI_clamp, oI_n, oI_s, not_true_eq_false, not_false_eq_true, forall_const, true_implies, false_and, and_false, or_false, false_or, Classical.not_not, true_or, or_true, no_b, no_eq1, eq_self, and_self, sk_301, sk_302, sl_302, sp_301, hN'])
  · rw [at_X11_sumBy_0]
    repeat' (first
      | omega
      | assumption
      | exact rfl
      | refine lp_nx ?_ ?_ ?_ ?_
      | refine lp_st ?_ ?_ ?_
      | refine ls_c ?_ ?_
      | refine vi_c ?_
      | refine re_c ?_
      | refine vz_c ?_
      | refine rz_c ?_
      | exact trivial
      | (split <;> omega)
      | with_reducible refine ev_ci (m_X11_of hok (by assumption) ?_ ?_) ?_
      | (refine And.intro (fun q => ?_) (fun q => ?_) <;> (try simp (disch := first | omega | assumption) only [no_0, no_1, no_lt, no_le, no_eq, no_lt0, no_ge0, no_gt0, no_le0, no_eq0, no_0eq, no_eqm, no_meq, no_m0, no_mlt, no_mge, no_mgt, no_mm, no_i01, no_i10, no_in, no_or, no_ifm, no_mul, nI_add, no_sub, pk_div, iI_if, nI_clamp, oI_n, oI_s, not_true_eq_false, not_false_eq_true, forall_const, true_implies, false_and, and_false, or_false, false_or, Classical.not_not, true_or, or_true, no_b, no_eq1, eq_self, and_self] at q))
      | refine And.intro ?_ ?_
      | simp (disch := first | omega | assumption) only [ev_run_c, ev_run_n, ev_fj, ev_stp, ev_lk, ev_fv, ev_as, ev_sz, ev_st1, ev_st2, ev_rm, ev_pk, ev_Jof, ev_go, lv_args, List.map_cons, List.map_nil, List.zip_cons_cons, List.zip_nil_left, List.zip_nil_right, List.nil_append, List.cons_append, ↓reduceIte, reduceCtorEq, Int.reduceToNat, Nat.reduceEqDiff, Nat.reduceAdd, Nat.reduceLT, Nat.reduceLeDiff, Nat.reduceMul, Value.category, false_implies, true_and, and_true, Bool.false_eq_true, Option.some.injEq, exists_eq_left', Option.toList_some, Option.toList_none, ev_km, ev_k2, ev_k3, ev_k4, ev_k5, ev_l0, ev_l1, sh_1, sh_2, sh_3, sh_4, sh_5, at_X11_sumBy_32, at_X11_sumBy_4, ca_X11_121, cd_X11_sumBy_0, cd_X11_sumBy_32, cd_X11_sumBy_4, fl_X11_9, ev_b_23, no_0, no_1, no_lt, no_le, no_eq, no_lt0, no_ge0, no_gt0, no_le0, no_eq0, no_0eq, no_eqm, no_meq, no_m0, no_mlt, no_mge, no_mgt, no_mm, no_i01, no_i10, no_in, no_or, no_ifm, no_mul, nI_add, no_sub, pk_div, iI_if, nI_clamp, oI_n, oI_s, not_true_eq_false, not_false_eq_true, forall_const, true_implies, false_and, and_false, or_false, false_or, Classical.not_not, true_or, or_true, no_b, no_eq1, eq_self, and_self])
theorem m_X11_allScores (hok : ev_ok sh_S G) (hN : MR N μ) (hI : INV N) : ev_T sh_S G mi_X11_allScores [.ref 301] μ (.inl (some (.int (nI (asc N (N 0)))), μ)) := by
  have hh := iv_h hI
  have hN' : ∀ k, k < 1042 → μ.1 302 k = nI (N k) := hN
  refine ev_tri1 hok (okM_X11_allScores 0) (Nat.le_of_ble_eq_true rfl) 4 [0, 1, 2] (N 0) 400 (fun k => [.ref 301, .int (nI (asc N k)), .int (nI k)]) (fun _ => μ) (fun _ => True) ?_ ?_
  · intro k hk _
    rw [at_X11_allScores_4]
    rcases Nat.lt_or_ge k (N 0) with hkn | hkn
    · repeat' (first
        | omega
        | assumption
        | exact rfl
        | refine lp_nx ?_ ?_ ?_ ?_
        | refine lp_st ?_ ?_ ?_
        | refine ls_c ?_ ?_
        | refine vi_c ?_
        | refine re_c ?_
        | refine vz_c ?_
        | refine rz_c ?_
        | exact trivial
        | (split <;> omega)
        | with_reducible refine ev_ci (m_X11_scoresBy hok (by assumption) (by assumption) ?_) ?_
        | (refine And.intro (fun q => ?_) (fun q => ?_) <;> (try simp (disch := first | omega | assumption) only [no_0, no_1, no_lt, no_le, no_eq, no_lt0, no_ge0, no_gt0, no_le0, no_eq0, no_0eq, no_eqm, no_meq, no_m0, no_mlt, no_mge, no_mgt, no_mm, no_i01, no_i10, no_in, no_or, no_ifm, no_mul, nI_add, no_sub, pk_div, iI_if, nI_clamp, oI_n, oI_s, not_true_eq_false, not_false_eq_true, forall_const, true_implies, false_and, and_false, or_false, false_or, Classical.not_not, true_or, or_true, no_b, no_eq1, eq_self, and_self, sk_301, sk_302, sl_302, sp_301, hN'] at q))
        | refine And.intro ?_ ?_
        | simp (disch := first | omega | assumption) only [ev_run_c, ev_run_n, ev_fj, ev_stp, ev_lk, ev_fv, ev_as, ev_sz, ev_st1, ev_st2, ev_rm, ev_pk, ev_Jof, ev_go, lv_args, List.map_cons, List.map_nil, List.zip_cons_cons, List.zip_nil_left, List.zip_nil_right, List.nil_append, List.cons_append, ↓reduceIte, reduceCtorEq, Int.reduceToNat, Nat.reduceEqDiff, Nat.reduceAdd, Nat.reduceLT, Nat.reduceLeDiff, Nat.reduceMul, Value.category, false_implies, true_and, and_true, Bool.false_eq_true, Option.some.injEq, exists_eq_left', Option.toList_some, Option.toList_none, ev_km, ev_k2, ev_k3, ev_k4, ev_k5, ev_l0, ev_l1, sh_1, sh_2, sh_3, sh_4, sh_5, at_X11_allScores_28, at_X11_allScores_4, ca_X11_356, cd_X11_allScores_0, cd_X11_allScores_28, cd_X11_allScores_4, fl_X11_9, no_0, no_1, no_lt, no_le, no_eq, no_lt0, no_ge0, no_gt0, no_le0, no_eq0, no_0eq, no_eqm, no_meq, no_m0, no_mlt, no_mge, no_mgt, no_mm, no_i01, no_i10, no_in, no_or, no_ifm, no_mul, nI_add, no_sub, pk_div, iI_if, nI_clamp, oI_n, oI_s, not_true_eq_false, not_false_eq_true, forall_const, true_implies, false_and, and_false, or_false, false_or, Classical.not_not, true_or, or_true, no_b, no_eq1, eq_self, and_self, sk_301, sk_302, sl_302, sp_301, hN'])
    · have hkn : N 0 = k := by omega
      subst hkn
      repeat' (first
        | omega
        | assumption
        | exact rfl
        | refine lp_nx ?_ ?_ ?_ ?_
        | refine lp_st ?_ ?_ ?_
        | refine ls_c ?_ ?_
        | refine vi_c ?_
        | refine re_c ?_
        | refine vz_c ?_
        | refine rz_c ?_
        | exact trivial
        | (split <;> omega)
        | with_reducible refine ev_ci (m_X11_scoresBy hok (by assumption) (by assumption) ?_) ?_
        | (refine And.intro (fun q => ?_) (fun q => ?_) <;> (try simp (disch := first | omega | assumption) only [no_0, no_1, no_lt, no_le, no_eq, no_lt0, no_ge0, no_gt0, no_le0, no_eq0, no_0eq, no_eqm, no_meq, no_m0, no_mlt, no_mge, no_mgt, no_mm, no_i01, no_i10, no_in, no_or, no_ifm, no_mul, nI_add, no_sub, pk_div, iI_if, nI_clamp, oI_n, oI_s, not_true_eq_false, not_false_eq_true, forall_const, true_implies, false_and, and_false, or_false, false_or, Classical.not_not, true_or, or_true, no_b, no_eq1, eq_self, and_self, sk_301, sk_302, sl_302, sp_301, hN'] at q))
        | refine And.intro ?_ ?_
        | simp (disch := first | omega | assumption) only [ev_run_c, ev_run_n, ev_fj, ev_stp, ev_lk, ev_fv, ev_as, ev_sz, ev_st1, ev_st2, ev_rm, ev_pk, ev_Jof, ev_go, lv_args, List.map_cons, List.map_nil, List.zip_cons_cons, List.zip_nil_left, List.zip_nil_right, List.nil_append, List.cons_append, ↓reduceIte, reduceCtorEq, Int.reduceToNat, Nat.reduceEqDiff, Nat.reduceAdd, Nat.reduceLT, Nat.reduceLeDiff, Nat.reduceMul, Value.category, false_implies, true_and, and_true, Bool.false_eq_true, Option.some.injEq, exists_eq_left', Option.toList_some, Option.toList_none, ev_km, ev_k2, ev_k3, ev_k4, ev_k5, ev_l0, ev_l1, sh_1, sh_2, sh_3, sh_4, sh_5, at_X11_allScores_28, at_X11_allScores_4, ca_X11_356, cd_X11_allScores_0, cd_X11_allScores_28, cd_X11_allScores_4, fl_X11_9, no_0, no_1, no_lt, no_le, no_eq, no_lt0, no_ge0, no_gt0, no_le0, no_eq0, no_0eq, no_eqm, no_meq, no_m0, no_mlt, no_mge, no_mgt, no_mm, no_i01, no_i10, no_in, no_or, no_ifm, no_mul, nI_add, no_sub, pk_div, iI_if, nI_clamp, oI_n, oI_s, not_true_eq_false, not_false_eq_true, forall_const, true_implies, false_and, and_false, or_false, false_or, Classical.not_not, true_or, or_true, no_b, no_eq1, eq_self, and_self, sk_301, sk_302, sl_302, sp_301, hN'])
  · rw [at_X11_allScores_0]
    repeat' (first
      | omega
      | assumption
      | exact rfl
      | refine lp_nx ?_ ?_ ?_ ?_
      | refine lp_st ?_ ?_ ?_
      | refine ls_c ?_ ?_
      | refine vi_c ?_
      | refine re_c ?_
      | refine vz_c ?_
      | refine rz_c ?_
      | exact trivial
      | (split <;> omega)
      | with_reducible refine ev_ci (m_X11_scoresBy hok (by assumption) (by assumption) ?_) ?_
      | (refine And.intro (fun q => ?_) (fun q => ?_) <;> (try simp (disch := first | omega | assumption) only [no_0, no_1, no_lt, no_le, no_eq, no_lt0, no_ge0, no_gt0, no_le0, no_eq0, no_0eq, no_eqm, no_meq, no_m0, no_mlt, no_mge, no_mgt, no_mm, no_i01, no_i10, no_in, no_or, no_ifm, no_mul, nI_add, no_sub, pk_div, iI_if, nI_clamp, oI_n, oI_s, not_true_eq_false, not_false_eq_true, forall_const, true_implies, false_and, and_false, or_false, false_or, Classical.not_not, true_or, or_true, no_b, no_eq1, eq_self, and_self] at q))
      | refine And.intro ?_ ?_
      | simp (disch := first | omega | assumption) only [ev_run_c, ev_run_n, ev_fj, ev_stp, ev_lk, ev_fv, ev_as, ev_sz, ev_st1, ev_st2, ev_rm, ev_pk, ev_Jof, ev_go, lv_args, List.map_cons, List.map_nil, List.zip_cons_cons, List.zip_nil_left, List.zip_nil_right, List.nil_append, List.cons_append, ↓reduceIte, reduceCtorEq, Int.reduceToNat, Nat.reduceEqDiff, Nat.reduceAdd, Nat.reduceLT, Nat.reduceLeDiff, Nat.reduceMul, Value.category, false_implies, true_and, and_true, Bool.false_eq_true, Option.some.injEq, exists_eq_left', Option.toList_some, Option.toList_none, ev_km, ev_k2, ev_k3, ev_k4, ev_k5, ev_l0, ev_l1, sh_1, sh_2, sh_3, sh_4, sh_5, at_X11_allScores_28, at_X11_allScores_4, ca_X11_356, cd_X11_allScores_0, cd_X11_allScores_28, cd_X11_allScores_4, fl_X11_9, no_0, no_1, no_lt, no_le, no_eq, no_lt0, no_ge0, no_gt0, no_le0, no_eq0, no_0eq, no_eqm, no_meq, no_m0, no_mlt, no_mge, no_mgt, no_mm, no_i01, no_i10, no_in, no_or, no_ifm, no_mul, nI_add, no_sub, pk_div, iI_if, nI_clamp, oI_n, oI_s, not_true_eq_false, not_false_eq_true, forall_const, true_implies, false_and, and_false, or_false, false_or, Classical.not_not, true_or, or_true, no_b, no_eq1, eq_self, and_self])
theorem m_X11_allSum (hok : ev_ok sh_S G) (hN : MR N μ) (hI : INV N) : ev_T sh_S G mi_X11_allSum [.ref 301] μ (.inl (some (.int (nI (asm N (N 0)))), μ)) := by
  have hh := iv_h hI
  have hN' : ∀ k, k < 1042 → μ.1 302 k = nI (N k) := hN
  refine ev_tri1 hok (okM_X11_allSum 0) (Nat.le_of_ble_eq_true rfl) 4 [0, 1, 2] (N 0) 400 (fun k => [.ref 301, .int (nI (asm N k)), .int (nI k)]) (fun _ => μ) (fun _ => True) ?_ ?_
  · intro k hk _
    rw [at_X11_allSum_4]
    rcases Nat.lt_or_ge k (N 0) with hkn | hkn
    · repeat' (first
        | omega
        | assumption
        | exact rfl
        | refine lp_nx ?_ ?_ ?_ ?_
        | refine lp_st ?_ ?_ ?_
        | refine ls_c ?_ ?_
        | refine vi_c ?_
        | refine re_c ?_
        | refine vz_c ?_
        | refine rz_c ?_
        | exact trivial
        | (split <;> omega)
        | with_reducible refine ev_ci (m_X11_sumBy hok (by assumption) (by assumption) ?_) ?_
        | (refine And.intro (fun q => ?_) (fun q => ?_) <;> (try simp (disch := first | omega | assumption) only [no_0, no_1, no_lt, no_le, no_eq, no_lt0, no_ge0, no_gt0, no_le0, no_eq0, no_0eq, no_eqm, no_meq, no_m0, no_mlt, no_mge, no_mgt, no_mm, no_i01, no_i10, no_in, no_or, no_ifm, no_mul, nI_add, no_sub, pk_div, iI_if, nI_clamp, oI_n, oI_s, not_true_eq_false, not_false_eq_true, forall_const, true_implies, false_and, and_false, or_false, false_or, Classical.not_not, true_or, or_true, no_b, no_eq1, eq_self, and_self, sk_301, sk_302, sl_302, sp_301, hN'] at q))
        | refine And.intro ?_ ?_
        | simp (disch := first | omega | assumption) only [ev_run_c, ev_run_n, ev_fj, ev_stp, ev_lk, ev_fv, ev_as, ev_sz, ev_st1, ev_st2, ev_rm, ev_pk, ev_Jof, ev_go, lv_args, List.map_cons, List.map_nil, List.zip_cons_cons, List.zip_nil_left, List.zip_nil_right, List.nil_append, List.cons_append, ↓reduceIte, reduceCtorEq, Int.reduceToNat, Nat.reduceEqDiff, Nat.reduceAdd, Nat.reduceLT, Nat.reduceLeDiff, Nat.reduceMul, Value.category, false_implies, true_and, and_true, Bool.false_eq_true, Option.some.injEq, exists_eq_left', Option.toList_some, Option.toList_none, ev_km, ev_k2, ev_k3, ev_k4, ev_k5, ev_l0, ev_l1, sh_1, sh_2, sh_3, sh_4, sh_5, at_X11_allSum_28, at_X11_allSum_4, ca_X11_359, cd_X11_allSum_0, cd_X11_allSum_28, cd_X11_allSum_4, fl_X11_9, no_0, no_1, no_lt, no_le, no_eq, no_lt0, no_ge0, no_gt0, no_le0, no_eq0, no_0eq, no_eqm, no_meq, no_m0, no_mlt, no_mge, no_mgt, no_mm, no_i01, no_i10, no_in, no_or, no_ifm, no_mul, nI_add, no_sub, pk_div, iI_if, nI_clamp, oI_n, oI_s, not_true_eq_false, not_false_eq_true, forall_const, true_implies, false_and, and_false, or_false, false_or, Classical.not_not, true_or, or_true, no_b, no_eq1, eq_self, and_self, sk_301, sk_302, sl_302, sp_301, hN'])
    · have hkn : N 0 = k := by omega
      subst hkn
      repeat' (first
        | omega
        | assumption
        | exact rfl
        | refine lp_nx ?_ ?_ ?_ ?_
        | refine lp_st ?_ ?_ ?_
        | refine ls_c ?_ ?_
        | refine vi_c ?_
        | refine re_c ?_
        | refine vz_c ?_
        | refine rz_c ?_
        | exact trivial
        | (split <;> omega)
        | with_reducible refine ev_ci (m_X11_sumBy hok (by assumption) (by assumption) ?_) ?_
        | (refine And.intro (fun q => ?_) (fun q => ?_) <;> (try simp (disch := first | omega | assumption) only [no_0, no_1, no_lt, no_le, no_eq, no_lt0, no_ge0, no_gt0, no_le0, no_eq0, no_0eq, no_eqm, no_meq, no_m0, no_mlt, no_mge, no_mgt, no_mm, no_i01, no_i10, no_in, no_or, no_ifm, no_mul, nI_add, no_sub, pk_div, iI_if, nI_clamp, oI_n, oI_s, not_true_eq_false, not_false_eq_true, forall_const, true_implies, false_and, and_false, or_false, false_or, Classical.not_not, true_or, or_true, no_b, no_eq1, eq_self, and_self, sk_301, sk_302, sl_302, sp_301, hN'] at q))
        | refine And.intro ?_ ?_
        | simp (disch := first | omega | assumption) only [ev_run_c, ev_run_n, ev_fj, ev_stp, ev_lk, ev_fv, ev_as, ev_sz, ev_st1, ev_st2, ev_rm, ev_pk, ev_Jof, ev_go, lv_args, List.map_cons, List.map_nil, List.zip_cons_cons, List.zip_nil_left, List.zip_nil_right, List.nil_append, List.cons_append, ↓reduceIte, reduceCtorEq, Int.reduceToNat, Nat.reduceEqDiff, Nat.reduceAdd, Nat.reduceLT, Nat.reduceLeDiff, Nat.reduceMul, Value.category, false_implies, true_and, and_true, Bool.false_eq_true, Option.some.injEq, exists_eq_left', Option.toList_some, Option.toList_none, ev_km, ev_k2, ev_k3, ev_k4, ev_k5, ev_l0, ev_l1, sh_1, sh_2, sh_3, sh_4, sh_5, at_X11_allSum_28, at_X11_allSum_4, ca_X11_359, cd_X11_allSum_0, cd_X11_allSum_28, cd_X11_allSum_4, fl_X11_9, no_0, no_1, no_lt, no_le, no_eq, no_lt0, no_ge0, no_gt0, no_le0, no_eq0, no_0eq, no_eqm, no_meq, no_m0, no_mlt, no_mge, no_mgt, no_mm, no_i01, no_i10, no_in, no_or, no_ifm, no_mul, nI_add, no_sub, pk_div, iI_if, nI_clamp, oI_n, oI_s, not_true_eq_false, not_false_eq_true, forall_const, true_implies, false_and, and_false, or_false, false_or, Classical.not_not, true_or, or_true, no_b, no_eq1, eq_self, and_self, sk_301, sk_302, sl_302, sp_301, hN'])
  · rw [at_X11_allSum_0]
    repeat' (first
      | omega
      | assumption
      | exact rfl
      | refine lp_nx ?_ ?_ ?_ ?_
      | refine lp_st ?_ ?_ ?_
      | refine ls_c ?_ ?_
      | refine vi_c ?_
      | refine re_c ?_
      | refine vz_c ?_
      | refine rz_c ?_
      | exact trivial
      | (split <;> omega)
      | with_reducible refine ev_ci (m_X11_sumBy hok (by assumption) (by assumption) ?_) ?_
      | (refine And.intro (fun q => ?_) (fun q => ?_) <;> (try simp (disch := first | omega | assumption) only [no_0, no_1, no_lt, no_le, no_eq, no_lt0, no_ge0, no_gt0, no_le0, no_eq0, no_0eq, no_eqm, no_meq, no_m0, no_mlt, no_mge, no_mgt, no_mm, no_i01, no_i10, no_in, no_or, no_ifm, no_mul, nI_add, no_sub, pk_div, iI_if, nI_clamp, oI_n, oI_s, not_true_eq_false, not_false_eq_true, forall_const, true_implies, false_and, and_false, or_false, false_or, Classical.not_not, true_or, or_true, no_b, no_eq1, eq_self, and_self] at q))
      | refine And.intro ?_ ?_
      | simp (disch := first | omega | assumption) only [ev_run_c, ev_run_n, ev_fj, ev_stp, ev_lk, ev_fv, ev_as, ev_sz, ev_st1, ev_st2, ev_rm, ev_pk, ev_Jof, ev_go, lv_args, List.map_cons, List.map_nil, List.zip_cons_cons, List.zip_nil_left, List.zip_nil_right, List.nil_append, List.cons_append, ↓reduceIte, reduceCtorEq, Int.reduceToNat, Nat.reduceEqDiff, Nat.reduceAdd, Nat.reduceLT, Nat.reduceLeDiff, Nat.reduceMul, Value.category, false_implies, true_and, and_true, Bool.false_eq_true, Option.some.injEq, exists_eq_left', Option.toList_some, Option.toList_none, ev_km, ev_k2, ev_k3, ev_k4, ev_k5, ev_l0, ev_l1, sh_1, sh_2, sh_3, sh_4, sh_5, at_X11_allSum_28, at_X11_allSum_4, ca_X11_359, cd_X11_allSum_0, cd_X11_allSum_28, cd_X11_allSum_4, fl_X11_9, no_0, no_1, no_lt, no_le, no_eq, no_lt0, no_ge0, no_gt0, no_le0, no_eq0, no_0eq, no_eqm, no_meq, no_m0, no_mlt, no_mge, no_mgt, no_mm, no_i01, no_i10, no_in, no_or, no_ifm, no_mul, nI_add, no_sub, pk_div, iI_if, nI_clamp, oI_n, oI_s, not_true_eq_false, not_false_eq_true, forall_const, true_implies, false_and, and_false, or_false, false_or, Classical.not_not, true_or, or_true, no_b, no_eq1, eq_self, and_self])
def mea (N : Nat → Nat) (i : Nat) : Nat := 100 * smb N i (N 1) / scb N i (N 1)
theorem mea_le (hI : INV N) {i : Nat} (hi : i < 16) : mea N i ≤ 9000 := by
  have h1 := smb_le hI hi (iv_h hI).2.1
  have h2 := Nat.div_le_self (100 * smb N i (N 1)) (scb N i (N 1))
  unfold mea
  omega
theorem m_X11_mean (hok : ev_ok sh_S G) (hN : MR N μ) (hI : INV N) {i : Nat} (hi : i < 16) (h0 : 0 < scb N i (N 1)) : ev_T sh_S G mi_X11_mean [.ref 301, .int (nI i)] μ (.inl (some (.int (nI (mea N i))), μ)) := by
  have hh := iv_h hI
  have h1 := smb_le hI hi hh.2.1
  have h2 := scb_le N i (N 1)
  refine ev_tri hok (okM_X11_mean 0) (Nat.le_of_ble_eq_true rfl) 400 ?_
  rw [at_X11_mean_0]
  repeat' (first
    | omega
    | assumption
    | exact rfl
    | refine lp_nx ?_ ?_ ?_ ?_
    | refine lp_st ?_ ?_ ?_
    | refine ls_c ?_ ?_
    | refine vi_c ?_
    | refine re_c ?_
    | refine vz_c ?_
    | refine rz_c ?_
    | exact trivial
    | (split <;> omega)
    | with_reducible refine ev_ci (m_X11_sumBy hok (by assumption) (by assumption) ?_) ?_
    | with_reducible refine ev_ci (m_X11_scoresBy hok (by assumption) (by assumption) ?_) ?_
    | (refine And.intro (fun q => ?_) (fun q => ?_) <;> (try simp (disch := first | omega | assumption) only [no_0, no_1, no_lt, no_le, no_eq, no_lt0, no_ge0, no_gt0, no_le0, no_eq0, no_0eq, no_eqm, no_meq, no_m0, no_mlt, no_mge, no_mgt, no_mm, no_i01, no_i10, no_in, no_or, no_ifm, no_mul, nI_add, no_sub, pk_div, iI_if, nI_clamp, oI_n, oI_s, not_true_eq_false, not_false_eq_true, forall_const, true_implies, false_and, and_false, or_false, false_or, Classical.not_not, true_or, or_true, no_b, no_eq1, eq_self, and_self] at q))
    | refine And.intro ?_ ?_
    | simp (disch := first | omega | assumption) only [ev_run_c, ev_run_n, ev_fj, ev_stp, ev_lk, ev_fv, ev_as, ev_sz, ev_st1, ev_st2, ev_rm, ev_pk, ev_Jof, ev_go, lv_args, List.map_cons, List.map_nil, List.zip_cons_cons, List.zip_nil_left, List.zip_nil_right, List.nil_append, List.cons_append, ↓reduceIte, reduceCtorEq, Int.reduceToNat, Nat.reduceEqDiff, Nat.reduceAdd, Nat.reduceLT, Nat.reduceLeDiff, Nat.reduceMul, Value.category, false_implies, true_and, and_true, Bool.false_eq_true, Option.some.injEq, exists_eq_left', Option.toList_some, Option.toList_none, ev_km, ev_k2, ev_k3, ev_k4, ev_k5, ev_l0, ev_l1, sh_1, sh_2, sh_3, sh_4, sh_5, ca_X11_356, ca_X11_359, cd_X11_mean_0, ev_b_100, no_0, no_1, no_lt, no_le, no_eq, no_lt0, no_ge0, no_gt0, no_le0, no_eq0, no_0eq, no_eqm, no_meq, no_m0, no_mlt, no_mge, no_mgt, no_mm, no_i01, no_i10, no_in, no_or, no_ifm, no_mul, nI_add, no_sub, pk_div, iI_if, nI_clamp, oI_n, oI_s, not_true_eq_false, not_false_eq_true, forall_const, true_implies, false_and, and_false, or_false, false_or, Classical.not_not, true_or, or_true, no_b, no_eq1, eq_self, and_self])
def adj (N : Nat → Nat) (i q : Nat) : Int := ((100 * N (8 + 59 * i + (23 + q)) : Nat) : Int) - (mea N i : Nat) + ((100 * asm N (N 0) / asc N (N 0) : Nat) : Int)
theorem adj_le (hI : INV N) {i q : Nat} (hi : i < 16) (hq : q < 10) : -200000 ≤ adj N i q ∧ adj N i q ≤ 200000 := by
  have h1 := mea_le hI hi
  have h2 := iv_pq hI i q hi hq
  have h3 := asm_le hI (iv_h hI).1
  have h4 := Nat.div_le_self (100 * asm N (N 0)) (asc N (N 0))
  unfold adj
  generalize 100 * asm N (N 0) / asc N (N 0) = z at h4 ⊢
  omega
theorem m_X11_adjusted (hok : ev_ok sh_S G) (hN : MR N μ) (hI : INV N) {i q : Nat} (hi : i < 16) (hq : q < 10) (h0 : 0 < scb N i (N 1)) (h00 : 0 < asc N (N 0)) : ev_T sh_S G mi_X11_adjusted [.ref 301, .int (nI i), .int (nI q)] μ (.inl (some (.int (iI (adj N i q))), μ)) := by
  have hh := iv_h hI
  have h1 := iv_pq hI i q hi hq
  have h2 := asm_le hI hh.1
  have h3 := asc_le hI hh.1
  unfold adj
  refine ev_tri hok (okM_X11_adjusted 0) (Nat.le_of_ble_eq_true rfl) 400 ?_
  rw [at_X11_adjusted_0]
  repeat' (first
    | omega
    | assumption
    | exact rfl
    | refine lp_nx ?_ ?_ ?_ ?_
    | refine lp_st ?_ ?_ ?_
    | refine ls_c ?_ ?_
    | refine vi_c ?_
    | refine re_c ?_
    | refine vz_c ?_
    | refine rz_c ?_
    | exact trivial
    | (split <;> omega)
    | with_reducible refine ev_ci (m_X11_of hok (by assumption) ?_ ?_) ?_
    | with_reducible refine ev_ci (m_X11_mean hok (by assumption) (by assumption) ?_ ?_) ?_
    | with_reducible refine ev_ci (m_X11_allSum hok (by assumption) (by assumption)) ?_
    | with_reducible refine ev_ci (m_X11_allScores hok (by assumption) (by assumption)) ?_
    | (refine And.intro (fun q => ?_) (fun q => ?_) <;> (try simp (disch := first | omega | assumption) only [no_0, no_1, no_lt, no_le, no_eq, no_lt0, no_ge0, no_gt0, no_le0, no_eq0, no_0eq, no_eqm, no_meq, no_m0, no_mlt, no_mge, no_mgt, no_mm, no_i01, no_i10, no_in, no_or, no_ifm, no_mul, nI_add, no_sub, pk_div, iI_if, nI_clamp, oI_n, oI_s, not_true_eq_false, not_false_eq_true, forall_const, true_implies, false_and, and_false, or_false, false_or, Classical.not_not, true_or, or_true, no_b, no_eq1, eq_self, and_self, iI_dif, iI_na] at q))
    | refine And.intro ?_ ?_
    | simp (disch := first | omega | assumption) only [ev_run_c, ev_run_n, ev_fj, ev_stp, ev_lk, ev_fv, ev_as, ev_sz, ev_st1, ev_st2, ev_rm, ev_pk, ev_Jof, ev_go, lv_args, List.map_cons, List.map_nil, List.zip_cons_cons, List.zip_nil_left, List.zip_nil_right, List.nil_append, List.cons_append, ↓reduceIte, reduceCtorEq, Int.reduceToNat, Nat.reduceEqDiff, Nat.reduceAdd, Nat.reduceLT, Nat.reduceLeDiff, Nat.reduceMul, Value.category, false_implies, true_and, and_true, Bool.false_eq_true, Option.some.injEq, exists_eq_left', Option.toList_some, Option.toList_none, ev_km, ev_k2, ev_k3, ev_k4, ev_k5, ev_l0, ev_l1, sh_1, sh_2, sh_3, sh_4, sh_5, ca_X11_121, ca_X11_362, ca_X11_365, ca_X11_368, cd_X11_adjusted_0, ev_b_100, ev_b_23, no_0, no_1, no_lt, no_le, no_eq, no_lt0, no_ge0, no_gt0, no_le0, no_eq0, no_0eq, no_eqm, no_meq, no_m0, no_mlt, no_mge, no_mgt, no_mm, no_i01, no_i10, no_in, no_or, no_ifm, no_mul, nI_add, no_sub, pk_div, iI_if, nI_clamp, oI_n, oI_s, not_true_eq_false, not_false_eq_true, forall_const, true_implies, false_and, and_false, or_false, false_or, Classical.not_not, true_or, or_true, no_b, no_eq1, eq_self, and_self, iI_dif, iI_na])
theorem m_X11_isScored (hok : ev_ok sh_S G) (hN : MR N μ) (hI : INV N) {i q : Nat} (hi : i < 16) (hq : q < 10) : ev_T sh_S G mi_X11_isScored [.ref 301, .int (nI i), .int (nI q)] μ (.inl (some (.int (nI (if N (8 + 59 * i + (23 + q)) = 0 then 0 else 1))), μ)) := by
  have h1 := iv_pq hI i q hi hq
  refine ev_tri hok (okM_X11_isScored 0) (Nat.le_of_ble_eq_true rfl) 400 ?_
  rw [at_X11_isScored_0]
  repeat' (first
    | omega
    | assumption
    | exact rfl
    | refine lp_nx ?_ ?_ ?_ ?_
    | refine lp_st ?_ ?_ ?_
    | refine ls_c ?_ ?_
    | refine vi_c ?_
    | refine re_c ?_
    | refine vz_c ?_
    | refine rz_c ?_
    | exact trivial
    | (split <;> omega)
    | with_reducible refine ev_ci (m_X11_of hok (by assumption) ?_ ?_) ?_
    | (refine And.intro (fun q => ?_) (fun q => ?_) <;> (try simp (disch := first | omega | assumption) only [no_0, no_1, no_lt, no_le, no_eq, no_lt0, no_ge0, no_gt0, no_le0, no_eq0, no_0eq, no_eqm, no_meq, no_m0, no_mlt, no_mge, no_mgt, no_mm, no_i01, no_i10, no_in, no_or, no_ifm, no_mul, nI_add, no_sub, pk_div, iI_if, nI_clamp, oI_n, oI_s, not_true_eq_false, not_false_eq_true, forall_const, true_implies, false_and, and_false, or_false, false_or, Classical.not_not, true_or, or_true, no_b, no_eq1, eq_self, and_self] at q))
    | refine And.intro ?_ ?_
    | simp (disch := first | omega | assumption) only [ev_run_c, ev_run_n, ev_fj, ev_stp, ev_lk, ev_fv, ev_as, ev_sz, ev_st1, ev_st2, ev_rm, ev_pk, ev_Jof, ev_go, lv_args, List.map_cons, List.map_nil, List.zip_cons_cons, List.zip_nil_left, List.zip_nil_right, List.nil_append, List.cons_append, ↓reduceIte, reduceCtorEq, Int.reduceToNat, Nat.reduceEqDiff, Nat.reduceAdd, Nat.reduceLT, Nat.reduceLeDiff, Nat.reduceMul, Value.category, false_implies, true_and, and_true, Bool.false_eq_true, Option.some.injEq, exists_eq_left', Option.toList_some, Option.toList_none, ev_km, ev_k2, ev_k3, ev_k4, ev_k5, ev_l0, ev_l1, sh_1, sh_2, sh_3, sh_4, sh_5, at_X11_isScored_16, at_X11_isScored_17, ca_X11_121, cd_X11_isScored_0, cd_X11_isScored_16, cd_X11_isScored_17, ev_b_23, no_0, no_1, no_lt, no_le, no_eq, no_lt0, no_ge0, no_gt0, no_le0, no_eq0, no_0eq, no_eqm, no_meq, no_m0, no_mlt, no_mge, no_mgt, no_mm, no_i01, no_i10, no_in, no_or, no_ifm, no_mul, nI_add, no_sub, pk_div, iI_if, nI_clamp, oI_n, oI_s, not_true_eq_false, not_false_eq_true, forall_const, true_implies, false_and, and_false, or_false, false_or, Classical.not_not, true_or, or_true, no_b, no_eq1, eq_self, and_self])
end MScore
