/-! ===== the reference: parseSetup ===== -/
section MSetup
variable {G : ev_G} {N : Nat → Nat} {B : Nat → Nat} {n : Nat} {μ μ' : ev_M} {σ : ev_A}
/-- the row cleared up to k -/
def zz (μ : ev_M) (k : Nat) : ev_M := (fun a y => if a = 302 ∧ y < k then nI 0 else μ.1 a y, μ.2)
theorem zz_0 : zz μ 0 = μ := Prod.ext (funext fun a => funext fun y => if_neg (fun q => absurd q.2 (Nat.not_lt_zero y))) rfl
theorem zz_s {k : Nat} : w1 (zz μ k) 302 k (nI 0) = zz μ (k + 1) := by
  refine Prod.ext (funext fun a => funext fun y => ?_) rfl
  show (if a = 302 ∧ y = k then nI 0 else if a = 302 ∧ y < k then nI 0 else μ.1 a y) = if a = 302 ∧ y < k + 1 then nI 0 else μ.1 a y
  by_cases h : a = 302 ∧ y = k
  · rw [if_pos h, if_pos ⟨h.1, by omega⟩]
  · rw [if_neg h]
    by_cases h2 : a = 302 ∧ y < k
    · rw [if_pos h2, if_pos ⟨h2.1, by omega⟩]
    · rw [if_neg h2, if_neg (by omega)]
theorem zz_n {k a y : Nat} (h : a ≠ 302) : (zz μ k).1 a y = μ.1 a y := if_neg (fun q => h q.1)
theorem zz_R : MR (fun _ => 0) (zz μ 1042) := fun k hk => if_pos ⟨rfl, hk⟩
/-- what parseSetup sets ahead -/
def pst (j : Nat) (μ : ev_M) : ev_M := w1 (w1 (w1 (w1 (w1 (w1 (th μ 0) 301 12 (nI j)) 301 13 (nI 0)) 301 9 (nI 0)) 301 10 (nI 0)) 301 11 (-1)) 301 17 (nI 0)
theorem pst_n {j a y : Nat} (h : ¬ (a = 301 ∧ (y = 0 ∨ y = 9 ∨ y = 10 ∨ y = 11 ∨ y = 12 ∨ y = 13 ∨ y = 17))) : (pst j μ).1 a y = μ.1 a y := by
  unfold pst
  rw [w1_n (by omega), w1_n (by omega), w1_n (by omega), w1_n (by omega), w1_n (by omega), w1_n (by omega), th_1 (by omega)]
theorem pst_0 {j : Nat} : (pst j μ).1 301 0 = nI 0 := by
  unfold pst
  rw [w1_n (by omega), w1_n (by omega), w1_n (by omega), w1_n (by omega), w1_n (by omega), w1_n (by omega)]
  exact th_0
theorem pst_9 {j : Nat} : (pst j μ).1 301 9 = nI 0 := by unfold pst; rw [w1_n (by omega), w1_n (by omega), w1_n (by omega), w1_s]
theorem pst_10 {j : Nat} : (pst j μ).1 301 10 = nI 0 := by unfold pst; rw [w1_n (by omega), w1_n (by omega), w1_s]
theorem pst_11 {j : Nat} : (pst j μ).1 301 11 = -1 := by unfold pst; rw [w1_n (by omega), w1_s]
theorem pst_12 {j : Nat} : (pst j μ).1 301 12 = nI j := by unfold pst; rw [w1_n (by omega), w1_n (by omega), w1_n (by omega), w1_n (by omega), w1_n (by omega), w1_s]
theorem pst_13 {j : Nat} : (pst j μ).1 301 13 = nI 0 := by unfold pst; rw [w1_n (by omega), w1_n (by omega), w1_n (by omega), w1_n (by omega), w1_s]
theorem pst_17 {j : Nat} : (pst j μ).1 301 17 = nI 0 := by unfold pst; rw [w1_s]
theorem q6_same {e : Nat × Int32} {c : Int32} (h10 : μ.1 301 10 = nI e.1) (h11 : μ.1 301 11 = e.2) (h13 : μ.1 301 13 = c) : q6 e c (μ.1 301 14) (μ.1 301 15) (μ.1 301 16) μ = μ := by
  refine Prod.ext (funext fun a => funext fun y => ?_) rfl
  rw [q6_at]
  by_cases g1 : a = 301 ∧ y = 10
  · rw [if_pos g1, g1.1, g1.2, h10]
  · rw [if_neg g1]
    by_cases g2 : a = 301 ∧ y = 11
    · rw [if_pos g2, g2.1, g2.2, h11]
    · rw [if_neg g2]
      by_cases g3 : a = 301 ∧ y = 13
      · rw [if_pos g3, g3.1, g3.2, h13]
      · rw [if_neg g3]
        by_cases g4 : a = 301 ∧ y = 14
        · rw [if_pos g4, g4.1, g4.2]
        · rw [if_neg g4]
          by_cases g5 : a = 301 ∧ y = 15
          · rw [if_pos g5, g5.1, g5.2]
          · rw [if_neg g5]
            by_cases g6 : a = 301 ∧ y = 16
            · rw [if_pos g6, g6.1, g6.2]
            · rw [if_neg g6]
theorem m_in_none (hok : ev_ok sh_S G) {b : Nat} (hb : b < 1000) {x : Int32} (h : rx (b + 1) x = none) : ev_T sh_S G mi_X11_in [.int x, .int (nI 0), .int (nI b)] μ (.inl (some (.int (nI 0)), μ)) := by
  rcases rx_or h with g | g
  · have e1 : (x < nI 0) = True := eq_true g
    refine ev_tri hok (okM_X11_in 0) (Nat.le_of_ble_eq_true rfl) 400 ?_
    rw [at_X11_in_0]
    repeat' (first
      | (with_reducible refine ev_rid ?_; simp (disch := first | omega | assumption) only [ev_run_c, ev_run_n, ev_fj, ev_stp, ev_lk, ev_fv, ev_as, ev_sz, ev_st1, ev_st2, ev_rm, ev_pk, ev_Jof, ev_go, lv_args, List.map_cons, List.map_nil, List.zip_cons_cons, List.zip_nil_left, List.zip_nil_right, List.nil_append, List.cons_append, ↓reduceIte, reduceCtorEq, Int.reduceToNat, Nat.reduceEqDiff, Nat.reduceAdd, Nat.reduceLT, Nat.reduceLeDiff, Nat.reduceMul, Nat.reduceSub, Value.category, false_implies, true_and, and_true, Bool.false_eq_true, Option.some.injEq, exists_eq_left', Option.toList_some, Option.toList_none, ev_km, ev_k2, ev_k3, ev_k4, ev_k5, ev_l0, ev_l1, sh_1, sh_2, sh_3, sh_4, sh_5, at_X11_in_14, at_X11_in_15, cd_X11_in_0, cd_X11_in_14, cd_X11_in_15, no_0, no_1, no_lt, no_le, no_eq, no_lt0, no_ge0, no_gt0, no_le0, no_eq0, no_0eq, no_eqm, no_meq, no_m0, no_mlt, no_mge, no_mgt, no_mm, no_i01, no_i10, no_in, no_or, no_ifm, no_mul, nI_add, no_sub, pk_div, iI_if, nI_clamp, oI_n, oI_s, not_true_eq_false, not_false_eq_true, forall_const, true_implies, false_and, and_false, or_false, false_or, Classical.not_not, true_or, or_true, no_b, no_eq1, eq_self, and_self, e1])
      | (with_reducible refine ev_gid ?_; simp (disch := first | omega | assumption) only [ev_run_c, ev_run_n, ev_fj, ev_stp, ev_lk, ev_fv, ev_as, ev_sz, ev_st1, ev_st2, ev_rm, ev_pk, ev_Jof, ev_go, lv_args, List.map_cons, List.map_nil, List.zip_cons_cons, List.zip_nil_left, List.zip_nil_right, List.nil_append, List.cons_append, ↓reduceIte, reduceCtorEq, Int.reduceToNat, Nat.reduceEqDiff, Nat.reduceAdd, Nat.reduceLT, Nat.reduceLeDiff, Nat.reduceMul, Nat.reduceSub, Value.category, false_implies, true_and, and_true, Bool.false_eq_true, Option.some.injEq, exists_eq_left', Option.toList_some, Option.toList_none, ev_km, ev_k2, ev_k3, ev_k4, ev_k5, ev_l0, ev_l1, sh_1, sh_2, sh_3, sh_4, sh_5, at_X11_in_14, at_X11_in_15, cd_X11_in_0, cd_X11_in_14, cd_X11_in_15, no_0, no_1, no_lt, no_le, no_eq, no_lt0, no_ge0, no_gt0, no_le0, no_eq0, no_0eq, no_eqm, no_meq, no_m0, no_mlt, no_mge, no_mgt, no_mm, no_i01, no_i10, no_in, no_or, no_ifm, no_mul, nI_add, no_sub, pk_div, iI_if, nI_clamp, oI_n, oI_s, not_true_eq_false, not_false_eq_true, forall_const, true_implies, false_and, and_false, or_false, false_or, Classical.not_not, true_or, or_true, no_b, no_eq1, eq_self, and_self, e1])
      | (with_reducible refine And.intro (fun q => ?_) (fun q => ?_) <;> (try simp (disch := first | omega | assumption) only [no_0, no_1, no_lt, no_le, no_eq, no_lt0, no_ge0, no_gt0, no_le0, no_eq0, no_0eq, no_eqm, no_meq, no_m0, no_mlt, no_mge, no_mgt, no_mm, no_i01, no_i10, no_in, no_or, no_ifm, no_mul, nI_add, no_sub, pk_div, iI_if, nI_clamp, oI_n, oI_s, not_true_eq_false, not_false_eq_true, forall_const, true_implies, false_and, and_false, or_false, false_or, Classical.not_not, true_or, or_true, no_b, no_eq1, eq_self, and_self, e1] at q))
      | omega
      | with_reducible assumption
      | with_reducible rfl
      | with_reducible refine lp_nx ?_ ?_ ?_ ?_
      | with_reducible refine lp_st ?_ ?_ ?_
      | with_reducible refine ls_c ?_ ?_
      | with_reducible refine vi_c ?_
      | with_reducible refine re_c ?_
      | with_reducible refine vz_c ?_
      | with_reducible refine rz_c ?_
      | exact trivial
      | with_reducible refine And.intro ?_ ?_
      | simp (disch := first | omega | assumption) only [ev_run_c, ev_run_n, ev_fj, ev_stp, ev_lk, ev_fv, ev_as, ev_sz, ev_st1, ev_st2, ev_rm, ev_pk, ev_Jof, ev_go, lv_args, List.map_cons, List.map_nil, List.zip_cons_cons, List.zip_nil_left, List.zip_nil_right, List.nil_append, List.cons_append, ↓reduceIte, reduceCtorEq, Int.reduceToNat, Nat.reduceEqDiff, Nat.reduceAdd, Nat.reduceLT, Nat.reduceLeDiff, Nat.reduceMul, Nat.reduceSub, Value.category, false_implies, true_and, and_true, Bool.false_eq_true, Option.some.injEq, exists_eq_left', Option.toList_some, Option.toList_none, ev_km, ev_k2, ev_k3, ev_k4, ev_k5, ev_l0, ev_l1, sh_1, sh_2, sh_3, sh_4, sh_5, at_X11_in_14, at_X11_in_15, cd_X11_in_0, cd_X11_in_14, cd_X11_in_15, no_0, no_1, no_lt, no_le, no_eq, no_lt0, no_ge0, no_gt0, no_le0, no_eq0, no_0eq, no_eqm, no_meq, no_m0, no_mlt, no_mge, no_mgt, no_mm, no_i01, no_i10, no_in, no_or, no_ifm, no_mul, nI_add, no_sub, pk_div, iI_if, nI_clamp, oI_n, oI_s, not_true_eq_false, not_false_eq_true, forall_const, true_implies, false_and, and_false, or_false, false_or, Classical.not_not, true_or, or_true, no_b, no_eq1, eq_self, and_self, e1]
      | exact rfl
      | (split <;> omega))
  · have e1 : (x < nI 0) = False := eq_false (fun q => by
      have q3 := Int32.le_iff_toInt_le.mp g
      have q4 := Int32.lt_iff_toInt_lt.mp q
      rw [nI_toInt (by omega)] at q3 q4
      omega)
    have e2 : (nI b < x) = True := eq_true (by
      have q3 := Int32.le_iff_toInt_le.mp g
      rw [nI_toInt (by omega)] at q3
      rw [Int32.lt_iff_toInt_lt, nI_toInt (by omega)]
      omega)
    refine ev_tri hok (okM_X11_in 0) (Nat.le_of_ble_eq_true rfl) 400 ?_
    rw [at_X11_in_0]
    repeat' (first
      | (with_reducible refine ev_rid ?_; simp (disch := first | omega | assumption) only [ev_run_c, ev_run_n, ev_fj, ev_stp, ev_lk, ev_fv, ev_as, ev_sz, ev_st1, ev_st2, ev_rm, ev_pk, ev_Jof, ev_go, lv_args, List.map_cons, List.map_nil, List.zip_cons_cons, List.zip_nil_left, List.zip_nil_right, List.nil_append, List.cons_append, ↓reduceIte, reduceCtorEq, Int.reduceToNat, Nat.reduceEqDiff, Nat.reduceAdd, Nat.reduceLT, Nat.reduceLeDiff, Nat.reduceMul, Nat.reduceSub, Value.category, false_implies, true_and, and_true, Bool.false_eq_true, Option.some.injEq, exists_eq_left', Option.toList_some, Option.toList_none, ev_km, ev_k2, ev_k3, ev_k4, ev_k5, ev_l0, ev_l1, sh_1, sh_2, sh_3, sh_4, sh_5, at_X11_in_14, at_X11_in_15, cd_X11_in_0, cd_X11_in_14, cd_X11_in_15, no_0, no_1, no_lt, no_le, no_eq, no_lt0, no_ge0, no_gt0, no_le0, no_eq0, no_0eq, no_eqm, no_meq, no_m0, no_mlt, no_mge, no_mgt, no_mm, no_i01, no_i10, no_in, no_or, no_ifm, no_mul, nI_add, no_sub, pk_div, iI_if, nI_clamp, oI_n, oI_s, not_true_eq_false, not_false_eq_true, forall_const, true_implies, false_and, and_false, or_false, false_or, Classical.not_not, true_or, or_true, no_b, no_eq1, eq_self, and_self, e1, e2])
      | (with_reducible refine ev_gid ?_; simp (disch := first | omega | assumption) only [ev_run_c, ev_run_n, ev_fj, ev_stp, ev_lk, ev_fv, ev_as, ev_sz, ev_st1, ev_st2, ev_rm, ev_pk, ev_Jof, ev_go, lv_args, List.map_cons, List.map_nil, List.zip_cons_cons, List.zip_nil_left, List.zip_nil_right, List.nil_append, List.cons_append, ↓reduceIte, reduceCtorEq, Int.reduceToNat, Nat.reduceEqDiff, Nat.reduceAdd, Nat.reduceLT, Nat.reduceLeDiff, Nat.reduceMul, Nat.reduceSub, Value.category, false_implies, true_and, and_true, Bool.false_eq_true, Option.some.injEq, exists_eq_left', Option.toList_some, Option.toList_none, ev_km, ev_k2, ev_k3, ev_k4, ev_k5, ev_l0, ev_l1, sh_1, sh_2, sh_3, sh_4, sh_5, at_X11_in_14, at_X11_in_15, cd_X11_in_0, cd_X11_in_14, cd_X11_in_15, no_0, no_1, no_lt, no_le, no_eq, no_lt0, no_ge0, no_gt0, no_le0, no_eq0, no_0eq, no_eqm, no_meq, no_m0, no_mlt, no_mge, no_mgt, no_mm, no_i01, no_i10, no_in, no_or, no_ifm, no_mul, nI_add, no_sub, pk_div, iI_if, nI_clamp, oI_n, oI_s, not_true_eq_false, not_false_eq_true, forall_const, true_implies, false_and, and_false, or_false, false_or, Classical.not_not, true_or, or_true, no_b, no_eq1, eq_self, and_self, e1, e2])
      | (with_reducible refine And.intro (fun q => ?_) (fun q => ?_) <;> (try simp (disch := first | omega | assumption) only [no_0, no_1, no_lt, no_le, no_eq, no_lt0, no_ge0, no_gt0, no_le0, no_eq0, no_0eq, no_eqm, no_meq, no_m0, no_mlt, no_mge, no_mgt, no_mm, no_i01, no_i10, no_in, no_or, no_ifm, no_mul, nI_add, no_sub, pk_div, iI_if, nI_clamp, oI_n, oI_s, not_true_eq_false, not_false_eq_true, forall_const, true_implies, false_and, and_false, or_false, false_or, Classical.not_not, true_or, or_true, no_b, no_eq1, eq_self, and_self, e1, e2] at q))
      | omega
      | with_reducible assumption
      | with_reducible rfl
      | with_reducible refine lp_nx ?_ ?_ ?_ ?_
      | with_reducible refine lp_st ?_ ?_ ?_
      | with_reducible refine ls_c ?_ ?_
      | with_reducible refine vi_c ?_
      | with_reducible refine re_c ?_
      | with_reducible refine vz_c ?_
      | with_reducible refine rz_c ?_
      | exact trivial
      | with_reducible refine And.intro ?_ ?_
      | simp (disch := first | omega | assumption) only [ev_run_c, ev_run_n, ev_fj, ev_stp, ev_lk, ev_fv, ev_as, ev_sz, ev_st1, ev_st2, ev_rm, ev_pk, ev_Jof, ev_go, lv_args, List.map_cons, List.map_nil, List.zip_cons_cons, List.zip_nil_left, List.zip_nil_right, List.nil_append, List.cons_append, ↓reduceIte, reduceCtorEq, Int.reduceToNat, Nat.reduceEqDiff, Nat.reduceAdd, Nat.reduceLT, Nat.reduceLeDiff, Nat.reduceMul, Nat.reduceSub, Value.category, false_implies, true_and, and_true, Bool.false_eq_true, Option.some.injEq, exists_eq_left', Option.toList_some, Option.toList_none, ev_km, ev_k2, ev_k3, ev_k4, ev_k5, ev_l0, ev_l1, sh_1, sh_2, sh_3, sh_4, sh_5, at_X11_in_14, at_X11_in_15, cd_X11_in_0, cd_X11_in_14, cd_X11_in_15, no_0, no_1, no_lt, no_le, no_eq, no_lt0, no_ge0, no_gt0, no_le0, no_eq0, no_0eq, no_eqm, no_meq, no_m0, no_mlt, no_mge, no_mgt, no_mm, no_i01, no_i10, no_in, no_or, no_ifm, no_mul, nI_add, no_sub, pk_div, iI_if, nI_clamp, oI_n, oI_s, not_true_eq_false, not_false_eq_true, forall_const, true_implies, false_and, and_false, or_false, false_or, Classical.not_not, true_or, or_true, no_b, no_eq1, eq_self, and_self, e1, e2]
      | exact rfl
      | (split <;> omega))
set_option maxRecDepth 20000 in
set_option maxHeartbeats 4000000 in
theorem M_parseSetup (hok : ev_ok sh_S G) (hks : KS G) (h : MS σ μ) (hA : OKA σ) (x : Int32) {k : Nat} {t : PS} (hP : ∀ j, rx (aBn σ + 1) x = some j → PE (aB σ) j k t) : s_res mi_X11_parseSetup [.ref 301, .int x] μ G (s_parse σ t x) := by
  obtain ⟨h1, h2, h3, h4, h5, h6, h7, h8, h9, h10, h11, h12⟩ := id h
  have hb5 : aBn σ ≤ 500 := hA.2.2.2.2.2.2.1
  unfold s_parse
  cases hr : rx (aBn σ + 1) x with
  | none =>
    have hin := m_in_none (μ := μ) hok (b := aBn σ) (by omega) hr
    have hmay := m_X11_may (μ := μ) hok 0 1 1 (by omega) (by omega) (by omega)
    rw [thc_1, if_neg (by decide)] at hmay
    refine ⟨th μ 1, ?_, MS_th h, Fq_m Fm_th, th_0⟩
    refine ev_tri hok (okM_X11_parseSetup 0) (Nat.le_of_ble_eq_true rfl) 400 ?_
    rw [at_X11_parseSetup_0]
    repeat' (first
      | (with_reducible refine ev_rid ?_; simp (disch := first | omega | assumption) only [ev_run_c, ev_run_n, ev_fj, ev_stp, ev_lk, ev_fv, ev_as, ev_sz, ev_st1, ev_st2, ev_rm, ev_pk, ev_Jof, ev_go, lv_args, List.map_cons, List.map_nil, List.zip_cons_cons, List.zip_nil_left, List.zip_nil_right, List.nil_append, List.cons_append, ↓reduceIte, reduceCtorEq, Int.reduceToNat, Nat.reduceEqDiff, Nat.reduceAdd, Nat.reduceLT, Nat.reduceLeDiff, Nat.reduceMul, Nat.reduceSub, Value.category, false_implies, true_and, and_true, Bool.false_eq_true, Option.some.injEq, exists_eq_left', Option.toList_some, Option.toList_none, ev_km, ev_k2, ev_k3, ev_k4, ev_k5, ev_l0, ev_l1, sh_1, sh_2, sh_3, sh_4, sh_5, at_X11_parseSetup_20, at_X11_parseSetup_56, at_X11_parseSetup_76, at_X11_parseSetup_98, ca_X11_313, ca_X11_316, ca_X11_319, ca_X11_43, ca_X11_72, cd_X11_parseSetup_0, cd_X11_parseSetup_20, cd_X11_parseSetup_56, cd_X11_parseSetup_76, cd_X11_parseSetup_98, fl_X11_208, fl_X11_22, fl_X11_30, fl_X11_322, fl_X11_40, fl_X11_47, fl_X11_55, fl_X11_62, fl_X11_69, fl_X11_76, fl_X11_9, ev_h_1042, no_0, no_1, no_lt, no_le, no_eq, no_lt0, no_ge0, no_gt0, no_le0, no_eq0, no_0eq, no_eqm, no_meq, no_m0, no_mlt, no_mge, no_mgt, no_mm, no_i01, no_i10, no_in, no_or, no_ifm, no_mul, nI_add, no_sub, pk_div, iI_if, nI_clamp, oI_n, oI_s, not_true_eq_false, not_false_eq_true, forall_const, true_implies, false_and, and_false, or_false, false_or, Classical.not_not, true_or, or_true, no_b, no_eq1, eq_self, and_self, sk_301, sk_302, sl_302, sp_301, h7])
      | (with_reducible refine ev_gid ?_; simp (disch := first | omega | assumption) only [ev_run_c, ev_run_n, ev_fj, ev_stp, ev_lk, ev_fv, ev_as, ev_sz, ev_st1, ev_st2, ev_rm, ev_pk, ev_Jof, ev_go, lv_args, List.map_cons, List.map_nil, List.zip_cons_cons, List.zip_nil_left, List.zip_nil_right, List.nil_append, List.cons_append, ↓reduceIte, reduceCtorEq, Int.reduceToNat, Nat.reduceEqDiff, Nat.reduceAdd, Nat.reduceLT, Nat.reduceLeDiff, Nat.reduceMul, Nat.reduceSub, Value.category, false_implies, true_and, and_true, Bool.false_eq_true, Option.some.injEq, exists_eq_left', Option.toList_some, Option.toList_none, ev_km, ev_k2, ev_k3, ev_k4, ev_k5, ev_l0, ev_l1, sh_1, sh_2, sh_3, sh_4, sh_5, at_X11_parseSetup_20, at_X11_parseSetup_56, at_X11_parseSetup_76, at_X11_parseSetup_98, ca_X11_313, ca_X11_316, ca_X11_319, ca_X11_43, ca_X11_72, cd_X11_parseSetup_0, cd_X11_parseSetup_20, cd_X11_parseSetup_56, cd_X11_parseSetup_76, cd_X11_parseSetup_98, fl_X11_208, fl_X11_22, fl_X11_30, fl_X11_322, fl_X11_40, fl_X11_47, fl_X11_55, fl_X11_62, fl_X11_69, fl_X11_76, fl_X11_9, ev_h_1042, no_0, no_1, no_lt, no_le, no_eq, no_lt0, no_ge0, no_gt0, no_le0, no_eq0, no_0eq, no_eqm, no_meq, no_m0, no_mlt, no_mge, no_mgt, no_mm, no_i01, no_i10, no_in, no_or, no_ifm, no_mul, nI_add, no_sub, pk_div, iI_if, nI_clamp, oI_n, oI_s, not_true_eq_false, not_false_eq_true, forall_const, true_implies, false_and, and_false, or_false, false_or, Classical.not_not, true_or, or_true, no_b, no_eq1, eq_self, and_self, sk_301, sk_302, sl_302, sp_301, h7])
      | (with_reducible refine And.intro (fun q => ?_) (fun q => ?_) <;> (try simp (disch := first | omega | assumption) only [no_0, no_1, no_lt, no_le, no_eq, no_lt0, no_ge0, no_gt0, no_le0, no_eq0, no_0eq, no_eqm, no_meq, no_m0, no_mlt, no_mge, no_mgt, no_mm, no_i01, no_i10, no_in, no_or, no_ifm, no_mul, nI_add, no_sub, pk_div, iI_if, nI_clamp, oI_n, oI_s, not_true_eq_false, not_false_eq_true, forall_const, true_implies, false_and, and_false, or_false, false_or, Classical.not_not, true_or, or_true, no_b, no_eq1, eq_self, and_self, sk_301, sk_302, sl_302, sp_301, h7] at q))
      | (with_reducible refine ev_ci hin ?_)
      | (with_reducible refine ev_ci hmay ?_)
      | with_reducible refine ev_ci (m_X11_inI hok _ _ _) ?_
      | with_reducible refine ev_ci (m_X11_in hok _ _ _ ?_ ?_ ?_) ?_
      | with_reducible refine ev_ci (m_X11_may hok _ _ _ ?_ ?_ ?_) ?_
      | with_reducible refine ev_ci (m_X11_thinks hok) ?_
      | with_reducible refine ev_ci (m_X11_back hok _) ?_
      | omega
      | with_reducible assumption
      | with_reducible rfl
      | with_reducible refine lp_nx ?_ ?_ ?_ ?_
      | with_reducible refine lp_st ?_ ?_ ?_
      | with_reducible refine ls_c ?_ ?_
      | with_reducible refine vi_c ?_
      | with_reducible refine re_c ?_
      | with_reducible refine vz_c ?_
      | with_reducible refine rz_c ?_
      | exact trivial
      | with_reducible refine And.intro ?_ ?_
      | simp (disch := first | omega | assumption) only [ev_run_c, ev_run_n, ev_fj, ev_stp, ev_lk, ev_fv, ev_as, ev_sz, ev_st1, ev_st2, ev_rm, ev_pk, ev_Jof, ev_go, lv_args, List.map_cons, List.map_nil, List.zip_cons_cons, List.zip_nil_left, List.zip_nil_right, List.nil_append, List.cons_append, ↓reduceIte, reduceCtorEq, Int.reduceToNat, Nat.reduceEqDiff, Nat.reduceAdd, Nat.reduceLT, Nat.reduceLeDiff, Nat.reduceMul, Nat.reduceSub, Value.category, false_implies, true_and, and_true, Bool.false_eq_true, Option.some.injEq, exists_eq_left', Option.toList_some, Option.toList_none, ev_km, ev_k2, ev_k3, ev_k4, ev_k5, ev_l0, ev_l1, sh_1, sh_2, sh_3, sh_4, sh_5, at_X11_parseSetup_20, at_X11_parseSetup_56, at_X11_parseSetup_76, at_X11_parseSetup_98, ca_X11_313, ca_X11_316, ca_X11_319, ca_X11_43, ca_X11_72, cd_X11_parseSetup_0, cd_X11_parseSetup_20, cd_X11_parseSetup_56, cd_X11_parseSetup_76, cd_X11_parseSetup_98, fl_X11_208, fl_X11_22, fl_X11_30, fl_X11_322, fl_X11_40, fl_X11_47, fl_X11_55, fl_X11_62, fl_X11_69, fl_X11_76, fl_X11_9, ev_h_1042, no_0, no_1, no_lt, no_le, no_eq, no_lt0, no_ge0, no_gt0, no_le0, no_eq0, no_0eq, no_eqm, no_meq, no_m0, no_mlt, no_mge, no_mgt, no_mm, no_i01, no_i10, no_in, no_or, no_ifm, no_mul, nI_add, no_sub, pk_div, iI_if, nI_clamp, oI_n, oI_s, not_true_eq_false, not_false_eq_true, forall_const, true_implies, false_and, and_false, or_false, false_or, Classical.not_not, true_or, or_true, no_b, no_eq1, eq_self, and_self, sk_301, sk_302, sl_302, sp_301, h7]
      | exact rfl
      | (split <;> omega))
  | some j =>
    obtain ⟨hj, e6⟩ := rx_s (by omega) hr
    subst e6
    have hPj := hP j hr
    have hin := m_X11_in (μ := μ) hok j 0 (aBn σ) (by omega) (by omega) (by omega)
    rw [if_pos (show 0 ≤ j ∧ j ≤ aBn σ by omega)] at hin
    have hmay := m_X11_may (μ := μ) hok 1 1 1 (by omega) (by omega) (by omega)
    rw [thc_0, if_pos rfl] at hmay
    have hth := m_X11_thinks (μ := pst j μ) hok
    -- the text is read
    generalize hM1 : cpy (pst j μ) 302 0 303 0 1042 = M1 at hth
    have f1 : ∀ a y, a ≠ 303 → M1.1 a y = (pst j μ).1 a y := fun a y ha => by rw [← hM1, cpy_1 ha]
    have f3 : ∀ y, y < 1042 → M1.1 303 y = nI (aN σ y) := fun y hy => by
      rw [← hM1]
      have e := cpy_in (μ := pst j μ) (a := 302) (i := 0) (b := 303) (j := 0) hy
      rw [Nat.zero_add] at e
      rw [e, pst_n (by omega)]
      exact h1 y hy
    have f2 : M1.2 = μ.2 := by rw [← hM1]; rfl
    have g1 : ∀ a y, a ≠ 302 → (zz M1 1042).1 a y = M1.1 a y := fun a y ha => zz_n ha
    have hR : RB (aB σ) j (zz M1 1042) := ⟨by omega, hA.2.2.2.2.2.2.2.1, by rw [g1 _ _ (by omega), f1 _ _ (by omega)]; exact pst_12, fun i hi => by rw [g1 _ _ (by omega), f1 _ _ (by omega), pst_n (by omega)]; exact h8 i (by omega)⟩
    have h17 : (zz M1 1042).1 301 17 = nI 0 := by rw [g1 _ _ (by omega), f1 _ _ (by omega)]; exact pst_17
    obtain ⟨af, vf, μ2, r1, r2, r3⟩ := m_readsTextE (μ := zz M1 1042) hok hks hR zz_R h17 hPj ((zz M1 1042).1 301 14) ((zz M1 1042).1 301 15) ((zz M1 1042).1 301 16)
    rw [q6_same (e := (0, -1)) (c := nI 0) (by rw [g1 _ _ (by omega), f1 _ _ (by omega)]; exact pst_10) (by rw [g1 _ _ (by omega), f1 _ _ (by omega)]; exact pst_11) (by rw [g1 _ _ (by omega), f1 _ _ (by omega)]; exact pst_13)] at r1
    have c5 := hPj.2.1
    have u1 : ∀ a y, a ≠ 301 → a ≠ 302 → a ≠ 303 → a ≠ 308 → (re (aB σ) j t.e af vf μ2).1 a y = μ.1 a y := fun a y ha hb hc hd => by
      rw [re_n ha, r2.1 a y hb hd, g1 _ _ hb, f1 _ _ hc, pst_n (by omega)]
    have u2 : ∀ y, (y = 6 ∨ y = 7 ∨ y = 20) → (re (aB σ) j t.e af vf μ2).1 301 y = μ.1 301 y := fun y hy => by
      have e : (re (aB σ) j t.e af vf μ2).1 301 y = μ2.1 301 y := by
        show (q6 _ _ _ _ _ μ2).1 301 y = _
        rw [q6_at]
        rw [if_neg (by omega), if_neg (by omega), if_neg (by omega), if_neg (by omega), if_neg (by omega), if_neg (by omega)]
      rw [e, r2.1 301 y (by omega) (by omega), g1 _ _ (by omega), f1 _ _ (by omega), pst_n (by omega)]
    have u9 : (re (aB σ) j t.e af vf μ2).1 301 9 = nI 0 := by
      show μ2.1 301 9 = nI 0
      rw [r2.1 301 9 (by omega) (by omega), g1 _ _ (by omega), f1 _ _ (by omega)]
      exact pst_9
    have u0 : (re (aB σ) j t.e af vf μ2).1 301 0 = nI 0 := by
      show μ2.1 301 0 = nI 0
      rw [r2.1 301 0 (by omega) (by omega), g1 _ _ (by omega), f1 _ _ (by omega)]
      exact pst_0
    have u3 : ∀ y, y < 1042 → (re (aB σ) j t.e af vf μ2).1 303 y = nI (aN σ y) := fun y hy => by
      rw [re_n (by omega), r2.1 303 y (by omega) (by omega), g1 _ _ (by omega)]
      exact f3 y hy
    have u4 : (re (aB σ) j t.e af vf μ2).2 = μ.2 := r2.2.trans f2
    have u10 : (re (aB σ) j t.e af vf μ2).1 301 10 = nI t.e.1 := re_10
    have u11 : (re (aB σ) j t.e af vf μ2).1 301 11 = t.e.2 := re_11
    have u12 : t.e.1 = 0 → MR t.Q (re (aB σ) j t.e af vf μ2) := fun z => MR_re (r3 z)
    have hep : w1 (w1 (w1 (w1 (w1 (w1 (th μ 0) 301 12 (nI j)) 301 13 (nI 0)) 301 9 (nI 0)) 301 10 (nI 0)) 301 11 (-1)) 301 17 (nI 0) = pst j μ := rfl
    generalize re (aB σ) j t.e af vf μ2 = M3 at r1 u1 u2 u9 u0 u3 u4 u10 u11 u12
    by_cases z : t.e.1 = 0
    · have hN3 := u12 z
      have e31 : M3.1 302 1 = nI (t.Q 1) := hN3 1 (by omega)
      have he : t.e = (0, -1) := (hPj.2.2.1 z).2.2
      have k9 : ∀ a y, ¬ (a = 301 ∧ (y = 6 ∨ y = 7)) → ¬ (a = 306 ∧ y < 2) → (w1 (w1 (w1 (w1 M3 301 6 (nI 1)) 301 7 (nI 0)) 306 0 (nI 0)) 306 1 (nI 0)).1 a y = M3.1 a y := fun a y ha hb => by
        rw [w1_n (by omega), w1_n (by omega), w1_n (by omega), w1_n (by omega)]
      have e31' : (w1 (w1 (w1 (w1 M3 301 6 (nI 1)) 301 7 (nI 0)) 306 0 (nI 0)) 306 1 (nI 0)).1 302 1 = nI (t.Q 1) := by rw [k9 _ _ (by omega) (by omega)]; exact e31
      refine ⟨w1 (w1 (w1 (w1 M3 301 6 (nI 1)) 301 7 (nI 0)) 306 0 (nI 0)) 306 1 (nI 0), ?_, ?_, ⟨fun a y ha => ?_, u4⟩, ?_⟩
      · show ev_T _ _ _ _ _ (.inl (some (.int (if t.e.1 = 0 then nI (t.Q 1) else nI 0)), _))
        rw [if_pos z]
        refine ev_tri1 hok (okM_X11_parseSetup 0) (Nat.le_of_ble_eq_true rfl) 56 [0, 1, 2] 1042 400 (fun k => [.ref 301, .int (nI j), .int (nI k)]) (fun k => zz M1 k) (fun _ => True) ?_ ?_
        · intro k hk _
          rw [at_X11_parseSetup_56]
          rcases Nat.lt_or_ge k 1042 with hkn | hkn
          · have e9 := zz_s (μ := M1) (k := k)
            repeat' (first
              | (with_reducible refine ev_rid ?_; simp (disch := first | omega | assumption) only [ev_run_c, ev_run_n, ev_fj, ev_stp, ev_lk, ev_fv, ev_as, ev_sz, ev_st1, ev_st2, ev_rm, ev_pk, ev_Jof, ev_go, lv_args, List.map_cons, List.map_nil, List.zip_cons_cons, List.zip_nil_left, List.zip_nil_right, List.nil_append, List.cons_append, ↓reduceIte, reduceCtorEq, Int.reduceToNat, Nat.reduceEqDiff, Nat.reduceAdd, Nat.reduceLT, Nat.reduceLeDiff, Nat.reduceMul, Nat.reduceSub, Value.category, false_implies, true_and, and_true, Bool.false_eq_true, Option.some.injEq, exists_eq_left', Option.toList_some, Option.toList_none, ev_km, ev_k2, ev_k3, ev_k4, ev_k5, ev_l0, ev_l1, sh_1, sh_2, sh_3, sh_4, sh_5, at_X11_parseSetup_20, at_X11_parseSetup_56, at_X11_parseSetup_76, at_X11_parseSetup_98, ca_X11_313, ca_X11_316, ca_X11_319, ca_X11_43, ca_X11_72, cd_X11_parseSetup_0, cd_X11_parseSetup_20, cd_X11_parseSetup_56, cd_X11_parseSetup_76, cd_X11_parseSetup_98, fl_X11_208, fl_X11_22, fl_X11_30, fl_X11_322, fl_X11_40, fl_X11_47, fl_X11_55, fl_X11_62, fl_X11_69, fl_X11_76, fl_X11_9, ev_h_1042, no_0, no_1, no_lt, no_le, no_eq, no_lt0, no_ge0, no_gt0, no_le0, no_eq0, no_0eq, no_eqm, no_meq, no_m0, no_mlt, no_mge, no_mgt, no_mm, no_i01, no_i10, no_in, no_or, no_ifm, no_mul, nI_add, no_sub, pk_div, iI_if, nI_clamp, oI_n, oI_s, not_true_eq_false, not_false_eq_true, forall_const, true_implies, false_and, and_false, or_false, false_or, Classical.not_not, true_or, or_true, no_b, no_eq1, eq_self, and_self, sk_301, sk_302, sl_302, sp_301, w1_d, e9])
              | (with_reducible refine ev_gid ?_; simp (disch := first | omega | assumption) only [ev_run_c, ev_run_n, ev_fj, ev_stp, ev_lk, ev_fv, ev_as, ev_sz, ev_st1, ev_st2, ev_rm, ev_pk, ev_Jof, ev_go, lv_args, List.map_cons, List.map_nil, List.zip_cons_cons, List.zip_nil_left, List.zip_nil_right, List.nil_append, List.cons_append, ↓reduceIte, reduceCtorEq, Int.reduceToNat, Nat.reduceEqDiff, Nat.reduceAdd, Nat.reduceLT, Nat.reduceLeDiff, Nat.reduceMul, Nat.reduceSub, Value.category, false_implies, true_and, and_true, Bool.false_eq_true, Option.some.injEq, exists_eq_left', Option.toList_some, Option.toList_none, ev_km, ev_k2, ev_k3, ev_k4, ev_k5, ev_l0, ev_l1, sh_1, sh_2, sh_3, sh_4, sh_5, at_X11_parseSetup_20, at_X11_parseSetup_56, at_X11_parseSetup_76, at_X11_parseSetup_98, ca_X11_313, ca_X11_316, ca_X11_319, ca_X11_43, ca_X11_72, cd_X11_parseSetup_0, cd_X11_parseSetup_20, cd_X11_parseSetup_56, cd_X11_parseSetup_76, cd_X11_parseSetup_98, fl_X11_208, fl_X11_22, fl_X11_30, fl_X11_322, fl_X11_40, fl_X11_47, fl_X11_55, fl_X11_62, fl_X11_69, fl_X11_76, fl_X11_9, ev_h_1042, no_0, no_1, no_lt, no_le, no_eq, no_lt0, no_ge0, no_gt0, no_le0, no_eq0, no_0eq, no_eqm, no_meq, no_m0, no_mlt, no_mge, no_mgt, no_mm, no_i01, no_i10, no_in, no_or, no_ifm, no_mul, nI_add, no_sub, pk_div, iI_if, nI_clamp, oI_n, oI_s, not_true_eq_false, not_false_eq_true, forall_const, true_implies, false_and, and_false, or_false, false_or, Classical.not_not, true_or, or_true, no_b, no_eq1, eq_self, and_self, sk_301, sk_302, sl_302, sp_301, w1_d, e9])
              | (with_reducible refine And.intro (fun q => ?_) (fun q => ?_) <;> (try simp (disch := first | omega | assumption) only [no_0, no_1, no_lt, no_le, no_eq, no_lt0, no_ge0, no_gt0, no_le0, no_eq0, no_0eq, no_eqm, no_meq, no_m0, no_mlt, no_mge, no_mgt, no_mm, no_i01, no_i10, no_in, no_or, no_ifm, no_mul, nI_add, no_sub, pk_div, iI_if, nI_clamp, oI_n, oI_s, not_true_eq_false, not_false_eq_true, forall_const, true_implies, false_and, and_false, or_false, false_or, Classical.not_not, true_or, or_true, no_b, no_eq1, eq_self, and_self, sk_301, sk_302, sl_302, sp_301, w1_d, e9] at q))
              | with_reducible refine ev_ci (m_X11_inI hok _ _ _) ?_
              | with_reducible refine ev_ci (m_X11_in hok _ _ _ ?_ ?_ ?_) ?_
              | with_reducible refine ev_ci (m_X11_may hok _ _ _ ?_ ?_ ?_) ?_
              | with_reducible refine ev_ci (m_X11_thinks hok) ?_
              | with_reducible refine ev_ci (m_X11_back hok _) ?_
              | omega
              | with_reducible assumption
              | with_reducible rfl
              | with_reducible refine lp_nx ?_ ?_ ?_ ?_
              | with_reducible refine lp_st ?_ ?_ ?_
              | with_reducible refine ls_c ?_ ?_
              | with_reducible refine vi_c ?_
              | with_reducible refine re_c ?_
              | with_reducible refine vz_c ?_
              | with_reducible refine rz_c ?_
              | exact trivial
              | with_reducible refine And.intro ?_ ?_
              | simp (disch := first | omega | assumption) only [ev_run_c, ev_run_n, ev_fj, ev_stp, ev_lk, ev_fv, ev_as, ev_sz, ev_st1, ev_st2, ev_rm, ev_pk, ev_Jof, ev_go, lv_args, List.map_cons, List.map_nil, List.zip_cons_cons, List.zip_nil_left, List.zip_nil_right, List.nil_append, List.cons_append, ↓reduceIte, reduceCtorEq, Int.reduceToNat, Nat.reduceEqDiff, Nat.reduceAdd, Nat.reduceLT, Nat.reduceLeDiff, Nat.reduceMul, Nat.reduceSub, Value.category, false_implies, true_and, and_true, Bool.false_eq_true, Option.some.injEq, exists_eq_left', Option.toList_some, Option.toList_none, ev_km, ev_k2, ev_k3, ev_k4, ev_k5, ev_l0, ev_l1, sh_1, sh_2, sh_3, sh_4, sh_5, at_X11_parseSetup_20, at_X11_parseSetup_56, at_X11_parseSetup_76, at_X11_parseSetup_98, ca_X11_313, ca_X11_316, ca_X11_319, ca_X11_43, ca_X11_72, cd_X11_parseSetup_0, cd_X11_parseSetup_20, cd_X11_parseSetup_56, cd_X11_parseSetup_76, cd_X11_parseSetup_98, fl_X11_208, fl_X11_22, fl_X11_30, fl_X11_322, fl_X11_40, fl_X11_47, fl_X11_55, fl_X11_62, fl_X11_69, fl_X11_76, fl_X11_9, ev_h_1042, no_0, no_1, no_lt, no_le, no_eq, no_lt0, no_ge0, no_gt0, no_le0, no_eq0, no_0eq, no_eqm, no_meq, no_m0, no_mlt, no_mge, no_mgt, no_mm, no_i01, no_i10, no_in, no_or, no_ifm, no_mul, nI_add, no_sub, pk_div, iI_if, nI_clamp, oI_n, oI_s, not_true_eq_false, not_false_eq_true, forall_const, true_implies, false_and, and_false, or_false, false_or, Classical.not_not, true_or, or_true, no_b, no_eq1, eq_self, and_self, sk_301, sk_302, sl_302, sp_301, w1_d, e9]
              | exact rfl
              | (split <;> omega))
          · have hkn : k = 1042 := by omega
            subst hkn
            repeat' (first
              | (with_reducible refine ev_rid ?_; simp (disch := first | omega | assumption) only [ev_run_c, ev_run_n, ev_fj, ev_stp, ev_lk, ev_fv, ev_as, ev_sz, ev_st1, ev_st2, ev_rm, ev_pk, ev_Jof, ev_go, lv_args, List.map_cons, List.map_nil, List.zip_cons_cons, List.zip_nil_left, List.zip_nil_right, List.nil_append, List.cons_append, ↓reduceIte, reduceCtorEq, Int.reduceToNat, Nat.reduceEqDiff, Nat.reduceAdd, Nat.reduceLT, Nat.reduceLeDiff, Nat.reduceMul, Nat.reduceSub, Value.category, false_implies, true_and, and_true, Bool.false_eq_true, Option.some.injEq, exists_eq_left', Option.toList_some, Option.toList_none, ev_km, ev_k2, ev_k3, ev_k4, ev_k5, ev_l0, ev_l1, sh_1, sh_2, sh_3, sh_4, sh_5, at_X11_parseSetup_20, at_X11_parseSetup_56, at_X11_parseSetup_76, at_X11_parseSetup_98, ca_X11_313, ca_X11_316, ca_X11_319, ca_X11_43, ca_X11_72, cd_X11_parseSetup_0, cd_X11_parseSetup_20, cd_X11_parseSetup_56, cd_X11_parseSetup_76, cd_X11_parseSetup_98, fl_X11_208, fl_X11_22, fl_X11_30, fl_X11_322, fl_X11_40, fl_X11_47, fl_X11_55, fl_X11_62, fl_X11_69, fl_X11_76, fl_X11_9, ev_h_1042, no_0, no_1, no_lt, no_le, no_eq, no_lt0, no_ge0, no_gt0, no_le0, no_eq0, no_0eq, no_eqm, no_meq, no_m0, no_mlt, no_mge, no_mgt, no_mm, no_i01, no_i10, no_in, no_or, no_ifm, no_mul, nI_add, no_sub, pk_div, iI_if, nI_clamp, oI_n, oI_s, not_true_eq_false, not_false_eq_true, forall_const, true_implies, false_and, and_false, or_false, false_or, Classical.not_not, true_or, or_true, no_b, no_eq1, eq_self, and_self, sk_301, sk_302, sl_302, sp_301, u10, z, w1_d, e31', sk_306, sl_306, sp_306, nar_0])
              | (with_reducible refine ev_gid ?_; simp (disch := first | omega | assumption) only [ev_run_c, ev_run_n, ev_fj, ev_stp, ev_lk, ev_fv, ev_as, ev_sz, ev_st1, ev_st2, ev_rm, ev_pk, ev_Jof, ev_go, lv_args, List.map_cons, List.map_nil, List.zip_cons_cons, List.zip_nil_left, List.zip_nil_right, List.nil_append, List.cons_append, ↓reduceIte, reduceCtorEq, Int.reduceToNat, Nat.reduceEqDiff, Nat.reduceAdd, Nat.reduceLT, Nat.reduceLeDiff, Nat.reduceMul, Nat.reduceSub, Value.category, false_implies, true_and, and_true, Bool.false_eq_true, Option.some.injEq, exists_eq_left', Option.toList_some, Option.toList_none, ev_km, ev_k2, ev_k3, ev_k4, ev_k5, ev_l0, ev_l1, sh_1, sh_2, sh_3, sh_4, sh_5, at_X11_parseSetup_20, at_X11_parseSetup_56, at_X11_parseSetup_76, at_X11_parseSetup_98, ca_X11_313, ca_X11_316, ca_X11_319, ca_X11_43, ca_X11_72, cd_X11_parseSetup_0, cd_X11_parseSetup_20, cd_X11_parseSetup_56, cd_X11_parseSetup_76, cd_X11_parseSetup_98, fl_X11_208, fl_X11_22, fl_X11_30, fl_X11_322, fl_X11_40, fl_X11_47, fl_X11_55, fl_X11_62, fl_X11_69, fl_X11_76, fl_X11_9, ev_h_1042, no_0, no_1, no_lt, no_le, no_eq, no_lt0, no_ge0, no_gt0, no_le0, no_eq0, no_0eq, no_eqm, no_meq, no_m0, no_mlt, no_mge, no_mgt, no_mm, no_i01, no_i10, no_in, no_or, no_ifm, no_mul, nI_add, no_sub, pk_div, iI_if, nI_clamp, oI_n, oI_s, not_true_eq_false, not_false_eq_true, forall_const, true_implies, false_and, and_false, or_false, false_or, Classical.not_not, true_or, or_true, no_b, no_eq1, eq_self, and_self, sk_301, sk_302, sl_302, sp_301, u10, z, w1_d, e31', sk_306, sl_306, sp_306, nar_0])
              | (with_reducible refine And.intro (fun q => ?_) (fun q => ?_) <;> (try simp (disch := first | omega | assumption) only [no_0, no_1, no_lt, no_le, no_eq, no_lt0, no_ge0, no_gt0, no_le0, no_eq0, no_0eq, no_eqm, no_meq, no_m0, no_mlt, no_mge, no_mgt, no_mm, no_i01, no_i10, no_in, no_or, no_ifm, no_mul, nI_add, no_sub, pk_div, iI_if, nI_clamp, oI_n, oI_s, not_true_eq_false, not_false_eq_true, forall_const, true_implies, false_and, and_false, or_false, false_or, Classical.not_not, true_or, or_true, no_b, no_eq1, eq_self, and_self, sk_301, sk_302, sl_302, sp_301, u10, z, w1_d, e31', sk_306, sl_306, sp_306, nar_0] at q))
              | (with_reducible refine ev_ci r1 ?_)
              | with_reducible refine ev_ci (m_X11_inI hok _ _ _) ?_
              | with_reducible refine ev_ci (m_X11_in hok _ _ _ ?_ ?_ ?_) ?_
              | with_reducible refine ev_ci (m_X11_may hok _ _ _ ?_ ?_ ?_) ?_
              | with_reducible refine ev_ci (m_X11_thinks hok) ?_
              | with_reducible refine ev_ci (m_X11_back hok _) ?_
              | omega
              | with_reducible assumption
              | with_reducible rfl
              | with_reducible refine lp_nx ?_ ?_ ?_ ?_
              | with_reducible refine lp_st ?_ ?_ ?_
              | with_reducible refine ls_c ?_ ?_
              | with_reducible refine vi_c ?_
              | with_reducible refine re_c ?_
              | with_reducible refine vz_c ?_
              | with_reducible refine rz_c ?_
              | exact trivial
              | with_reducible refine And.intro ?_ ?_
              | simp (disch := first | omega | assumption) only [ev_run_c, ev_run_n, ev_fj, ev_stp, ev_lk, ev_fv, ev_as, ev_sz, ev_st1, ev_st2, ev_rm, ev_pk, ev_Jof, ev_go, lv_args, List.map_cons, List.map_nil, List.zip_cons_cons, List.zip_nil_left, List.zip_nil_right, List.nil_append, List.cons_append, ↓reduceIte, reduceCtorEq, Int.reduceToNat, Nat.reduceEqDiff, Nat.reduceAdd, Nat.reduceLT, Nat.reduceLeDiff, Nat.reduceMul, Nat.reduceSub, Value.category, false_implies, true_and, and_true, Bool.false_eq_true, Option.some.injEq, exists_eq_left', Option.toList_some, Option.toList_none, ev_km, ev_k2, ev_k3, ev_k4, ev_k5, ev_l0, ev_l1, sh_1, sh_2, sh_3, sh_4, sh_5, at_X11_parseSetup_20, at_X11_parseSetup_56, at_X11_parseSetup_76, at_X11_parseSetup_98, ca_X11_313, ca_X11_316, ca_X11_319, ca_X11_43, ca_X11_72, cd_X11_parseSetup_0, cd_X11_parseSetup_20, cd_X11_parseSetup_56, cd_X11_parseSetup_76, cd_X11_parseSetup_98, fl_X11_208, fl_X11_22, fl_X11_30, fl_X11_322, fl_X11_40, fl_X11_47, fl_X11_55, fl_X11_62, fl_X11_69, fl_X11_76, fl_X11_9, ev_h_1042, no_0, no_1, no_lt, no_le, no_eq, no_lt0, no_ge0, no_gt0, no_le0, no_eq0, no_0eq, no_eqm, no_meq, no_m0, no_mlt, no_mge, no_mgt, no_mm, no_i01, no_i10, no_in, no_or, no_ifm, no_mul, nI_add, no_sub, pk_div, iI_if, nI_clamp, oI_n, oI_s, not_true_eq_false, not_false_eq_true, forall_const, true_implies, false_and, and_false, or_false, false_or, Classical.not_not, true_or, or_true, no_b, no_eq1, eq_self, and_self, sk_301, sk_302, sl_302, sp_301, u10, z, w1_d, e31', sk_306, sl_306, sp_306, nar_0]
              | exact rfl
              | (split <;> omega))
        · rw [at_X11_parseSetup_0]
          have e9 : M1 = zz M1 0 := zz_0.symm
          repeat' (first
            | (with_reducible refine ev_rid ?_; simp (disch := first | omega | assumption) only [ev_run_c, ev_run_n, ev_fj, ev_stp, ev_lk, ev_fv, ev_as, ev_sz, ev_st1, ev_st2, ev_rm, ev_pk, ev_Jof, ev_go, lv_args, List.map_cons, List.map_nil, List.zip_cons_cons, List.zip_nil_left, List.zip_nil_right, List.nil_append, List.cons_append, ↓reduceIte, reduceCtorEq, Int.reduceToNat, Nat.reduceEqDiff, Nat.reduceAdd, Nat.reduceLT, Nat.reduceLeDiff, Nat.reduceMul, Nat.reduceSub, Value.category, false_implies, true_and, and_true, Bool.false_eq_true, Option.some.injEq, exists_eq_left', Option.toList_some, Option.toList_none, ev_km, ev_k2, ev_k3, ev_k4, ev_k5, ev_l0, ev_l1, sh_1, sh_2, sh_3, sh_4, sh_5, at_X11_parseSetup_20, at_X11_parseSetup_56, at_X11_parseSetup_76, at_X11_parseSetup_98, ca_X11_313, ca_X11_316, ca_X11_319, ca_X11_43, ca_X11_72, cd_X11_parseSetup_0, cd_X11_parseSetup_20, cd_X11_parseSetup_56, cd_X11_parseSetup_76, cd_X11_parseSetup_98, fl_X11_208, fl_X11_22, fl_X11_30, fl_X11_322, fl_X11_40, fl_X11_47, fl_X11_55, fl_X11_62, fl_X11_69, fl_X11_76, fl_X11_9, ev_h_1042, no_0, no_1, no_lt, no_le, no_eq, no_lt0, no_ge0, no_gt0, no_le0, no_eq0, no_0eq, no_eqm, no_meq, no_m0, no_mlt, no_mge, no_mgt, no_mm, no_i01, no_i10, no_in, no_or, no_ifm, no_mul, nI_add, no_sub, pk_div, iI_if, nI_clamp, oI_n, oI_s, not_true_eq_false, not_false_eq_true, forall_const, true_implies, false_and, and_false, or_false, false_or, Classical.not_not, true_or, or_true, no_b, no_eq1, eq_self, and_self, sk_301, sk_302, sl_302, sp_301, h7, w1_d, hep])
            | (with_reducible refine ev_gid ?_; simp (disch := first | omega | assumption) only [ev_run_c, ev_run_n, ev_fj, ev_stp, ev_lk, ev_fv, ev_as, ev_sz, ev_st1, ev_st2, ev_rm, ev_pk, ev_Jof, ev_go, lv_args, List.map_cons, List.map_nil, List.zip_cons_cons, List.zip_nil_left, List.zip_nil_right, List.nil_append, List.cons_append, ↓reduceIte, reduceCtorEq, Int.reduceToNat, Nat.reduceEqDiff, Nat.reduceAdd, Nat.reduceLT, Nat.reduceLeDiff, Nat.reduceMul, Nat.reduceSub, Value.category, false_implies, true_and, and_true, Bool.false_eq_true, Option.some.injEq, exists_eq_left', Option.toList_some, Option.toList_none, ev_km, ev_k2, ev_k3, ev_k4, ev_k5, ev_l0, ev_l1, sh_1, sh_2, sh_3, sh_4, sh_5, at_X11_parseSetup_20, at_X11_parseSetup_56, at_X11_parseSetup_76, at_X11_parseSetup_98, ca_X11_313, ca_X11_316, ca_X11_319, ca_X11_43, ca_X11_72, cd_X11_parseSetup_0, cd_X11_parseSetup_20, cd_X11_parseSetup_56, cd_X11_parseSetup_76, cd_X11_parseSetup_98, fl_X11_208, fl_X11_22, fl_X11_30, fl_X11_322, fl_X11_40, fl_X11_47, fl_X11_55, fl_X11_62, fl_X11_69, fl_X11_76, fl_X11_9, ev_h_1042, no_0, no_1, no_lt, no_le, no_eq, no_lt0, no_ge0, no_gt0, no_le0, no_eq0, no_0eq, no_eqm, no_meq, no_m0, no_mlt, no_mge, no_mgt, no_mm, no_i01, no_i10, no_in, no_or, no_ifm, no_mul, nI_add, no_sub, pk_div, iI_if, nI_clamp, oI_n, oI_s, not_true_eq_false, not_false_eq_true, forall_const, true_implies, false_and, and_false, or_false, false_or, Classical.not_not, true_or, or_true, no_b, no_eq1, eq_self, and_self, sk_301, sk_302, sl_302, sp_301, h7, w1_d, hep])
            | (with_reducible refine And.intro (fun q => ?_) (fun q => ?_) <;> (try simp (disch := first | omega | assumption) only [no_0, no_1, no_lt, no_le, no_eq, no_lt0, no_ge0, no_gt0, no_le0, no_eq0, no_0eq, no_eqm, no_meq, no_m0, no_mlt, no_mge, no_mgt, no_mm, no_i01, no_i10, no_in, no_or, no_ifm, no_mul, nI_add, no_sub, pk_div, iI_if, nI_clamp, oI_n, oI_s, not_true_eq_false, not_false_eq_true, forall_const, true_implies, false_and, and_false, or_false, false_or, Classical.not_not, true_or, or_true, no_b, no_eq1, eq_self, and_self, sk_301, sk_302, sl_302, sp_301, h7, w1_d, hep] at q))
            | (with_reducible refine ev_ci hin ?_)
            | (with_reducible refine ev_ci hmay ?_)
            | (with_reducible refine ev_ci hth ?_)
            | with_reducible refine ev_ci (m_X11_inI hok _ _ _) ?_
            | with_reducible refine ev_ci (m_X11_in hok _ _ _ ?_ ?_ ?_) ?_
            | with_reducible refine ev_ci (m_X11_may hok _ _ _ ?_ ?_ ?_) ?_
            | with_reducible refine ev_ci (m_X11_thinks hok) ?_
            | with_reducible refine ev_ci (m_X11_back hok _) ?_
            | omega
            | with_reducible assumption
            | with_reducible rfl
            | exact e9
            | with_reducible refine lp_nx ?_ ?_ ?_ ?_
            | with_reducible refine lp_st ?_ ?_ ?_
            | with_reducible refine ls_c ?_ ?_
            | with_reducible refine vi_c ?_
            | with_reducible refine re_c ?_
            | with_reducible refine vz_c ?_
            | with_reducible refine rz_c ?_
            | exact trivial
            | with_reducible refine And.intro ?_ ?_
            | simp (disch := first | omega | assumption) only [ev_run_c, ev_run_n, ev_fj, ev_stp, ev_lk, ev_fv, ev_as, ev_sz, ev_st1, ev_st2, ev_rm, ev_pk, ev_Jof, ev_go, lv_args, List.map_cons, List.map_nil, List.zip_cons_cons, List.zip_nil_left, List.zip_nil_right, List.nil_append, List.cons_append, ↓reduceIte, reduceCtorEq, Int.reduceToNat, Nat.reduceEqDiff, Nat.reduceAdd, Nat.reduceLT, Nat.reduceLeDiff, Nat.reduceMul, Nat.reduceSub, Value.category, false_implies, true_and, and_true, Bool.false_eq_true, Option.some.injEq, exists_eq_left', Option.toList_some, Option.toList_none, ev_km, ev_k2, ev_k3, ev_k4, ev_k5, ev_l0, ev_l1, sh_1, sh_2, sh_3, sh_4, sh_5, at_X11_parseSetup_20, at_X11_parseSetup_56, at_X11_parseSetup_76, at_X11_parseSetup_98, ca_X11_313, ca_X11_316, ca_X11_319, ca_X11_43, ca_X11_72, cd_X11_parseSetup_0, cd_X11_parseSetup_20, cd_X11_parseSetup_56, cd_X11_parseSetup_76, cd_X11_parseSetup_98, fl_X11_208, fl_X11_22, fl_X11_30, fl_X11_322, fl_X11_40, fl_X11_47, fl_X11_55, fl_X11_62, fl_X11_69, fl_X11_76, fl_X11_9, ev_h_1042, no_0, no_1, no_lt, no_le, no_eq, no_lt0, no_ge0, no_gt0, no_le0, no_eq0, no_0eq, no_eqm, no_meq, no_m0, no_mlt, no_mge, no_mgt, no_mm, no_i01, no_i10, no_in, no_or, no_ifm, no_mul, nI_add, no_sub, pk_div, iI_if, nI_clamp, oI_n, oI_s, not_true_eq_false, not_false_eq_true, forall_const, true_implies, false_and, and_false, or_false, false_or, Classical.not_not, true_or, or_true, no_b, no_eq1, eq_self, and_self, sk_301, sk_302, sl_302, sp_301, h7, w1_d, hep]
            | exact rfl
            | (split <;> omega))
      · show MS (stE σ t) _
        unfold stE
        rw [if_pos z]
        refine ⟨fun y hy => ?_, ?_, ?_, fun i hi => absurd hi (Nat.not_lt_zero i), fun s hs => ?_, fun s hs hv => absurd (show (0 : Nat) = 1 from hv) (by decide), ?_, fun i hi => absurd hi (Nat.not_lt_zero i), ?_, ?_, ?_, fun i hi => ?_⟩
        · rw [k9 _ _ (by omega) (by omega)]; exact hN3 y hy
        · rw [w1_n (by omega), w1_n (by omega), w1_n (by omega), w1_s]
        · rw [w1_n (by omega), w1_n (by omega), w1_s]
        · rcases (show s = 0 ∨ s = 1 by omega) with rfl | rfl
          · rw [w1_n (by omega), w1_s]
          · rw [w1_s]
        · rw [k9 _ _ (by omega) (by omega)]; exact u9
        · rw [k9 _ _ (by omega) (by omega), u10, z]
        · rw [k9 _ _ (by omega) (by omega), u11, he]
        · rw [k9 _ _ (by omega) (by omega), u2 20 (by omega)]; exact h11
        · rw [k9 _ _ (by omega) (by omega), u1 _ _ (by omega) (by omega) (by omega) (by omega)]; exact h12 i hi
      · rw [k9 _ _ (by omega) (by omega)]; exact u1 a y (by omega) (by omega) (by omega) (by omega)
      · show _ = nI (if t.e.1 = 0 then 0 else 2)
        rw [if_pos z, k9 _ _ (by omega) (by omega)]
        exact u0
    · have hbk := m_X11_back (μ := w1 M3 301 0 (nI 2)) hok (nI 0)
      have k9 : ∀ a y, a ≠ 302 → ¬ (a = 301 ∧ y = 0) → (cpy (w1 M3 301 0 (nI 2)) 303 0 302 0 1042).1 a y = M3.1 a y := fun a y ha hb => by rw [cpy_1 ha, w1_n hb]
      have k0 : (cpy (w1 M3 301 0 (nI 2)) 303 0 302 0 1042).1 301 0 = nI 2 := by rw [cpy_1 (by omega), w1_s]
      refine ⟨cpy (w1 M3 301 0 (nI 2)) 303 0 302 0 1042, ?_, ?_, ⟨fun a y ha => ?_, u4⟩, ?_⟩
      · show ev_T _ _ _ _ _ (.inl (some (.int (if t.e.1 = 0 then nI (t.Q 1) else nI 0)), _))
        rw [if_neg z]
        refine ev_tri1 hok (okM_X11_parseSetup 0) (Nat.le_of_ble_eq_true rfl) 56 [0, 1, 2] 1042 400 (fun k => [.ref 301, .int (nI j), .int (nI k)]) (fun k => zz M1 k) (fun _ => True) ?_ ?_
        · intro k hk _
          rw [at_X11_parseSetup_56]
          rcases Nat.lt_or_ge k 1042 with hkn | hkn
          · have e9 := zz_s (μ := M1) (k := k)
            repeat' (first
              | (with_reducible refine ev_rid ?_; simp (disch := first | omega | assumption) only [ev_run_c, ev_run_n, ev_fj, ev_stp, ev_lk, ev_fv, ev_as, ev_sz, ev_st1, ev_st2, ev_rm, ev_pk, ev_Jof, ev_go, lv_args, List.map_cons, List.map_nil, List.zip_cons_cons, List.zip_nil_left, List.zip_nil_right, List.nil_append, List.cons_append, ↓reduceIte, reduceCtorEq, Int.reduceToNat, Nat.reduceEqDiff, Nat.reduceAdd, Nat.reduceLT, Nat.reduceLeDiff, Nat.reduceMul, Nat.reduceSub, Value.category, false_implies, true_and, and_true, Bool.false_eq_true, Option.some.injEq, exists_eq_left', Option.toList_some, Option.toList_none, ev_km, ev_k2, ev_k3, ev_k4, ev_k5, ev_l0, ev_l1, sh_1, sh_2, sh_3, sh_4, sh_5, at_X11_parseSetup_20, at_X11_parseSetup_56, at_X11_parseSetup_76, at_X11_parseSetup_98, ca_X11_313, ca_X11_316, ca_X11_319, ca_X11_43, ca_X11_72, cd_X11_parseSetup_0, cd_X11_parseSetup_20, cd_X11_parseSetup_56, cd_X11_parseSetup_76, cd_X11_parseSetup_98, fl_X11_208, fl_X11_22, fl_X11_30, fl_X11_322, fl_X11_40, fl_X11_47, fl_X11_55, fl_X11_62, fl_X11_69, fl_X11_76, fl_X11_9, ev_h_1042, no_0, no_1, no_lt, no_le, no_eq, no_lt0, no_ge0, no_gt0, no_le0, no_eq0, no_0eq, no_eqm, no_meq, no_m0, no_mlt, no_mge, no_mgt, no_mm, no_i01, no_i10, no_in, no_or, no_ifm, no_mul, nI_add, no_sub, pk_div, iI_if, nI_clamp, oI_n, oI_s, not_true_eq_false, not_false_eq_true, forall_const, true_implies, false_and, and_false, or_false, false_or, Classical.not_not, true_or, or_true, no_b, no_eq1, eq_self, and_self, sk_301, sk_302, sl_302, sp_301, w1_d, e9])
              | (with_reducible refine ev_gid ?_; simp (disch := first | omega | assumption) only [ev_run_c, ev_run_n, ev_fj, ev_stp, ev_lk, ev_fv, ev_as, ev_sz, ev_st1, ev_st2, ev_rm, ev_pk, ev_Jof, ev_go, lv_args, List.map_cons, List.map_nil, List.zip_cons_cons, List.zip_nil_left, List.zip_nil_right, List.nil_append, List.cons_append, ↓reduceIte, reduceCtorEq, Int.reduceToNat, Nat.reduceEqDiff, Nat.reduceAdd, Nat.reduceLT, Nat.reduceLeDiff, Nat.reduceMul, Nat.reduceSub, Value.category, false_implies, true_and, and_true, Bool.false_eq_true, Option.some.injEq, exists_eq_left', Option.toList_some, Option.toList_none, ev_km, ev_k2, ev_k3, ev_k4, ev_k5, ev_l0, ev_l1, sh_1, sh_2, sh_3, sh_4, sh_5, at_X11_parseSetup_20, at_X11_parseSetup_56, at_X11_parseSetup_76, at_X11_parseSetup_98, ca_X11_313, ca_X11_316, ca_X11_319, ca_X11_43, ca_X11_72, cd_X11_parseSetup_0, cd_X11_parseSetup_20, cd_X11_parseSetup_56, cd_X11_parseSetup_76, cd_X11_parseSetup_98, fl_X11_208, fl_X11_22, fl_X11_30, fl_X11_322, fl_X11_40, fl_X11_47, fl_X11_55, fl_X11_62, fl_X11_69, fl_X11_76, fl_X11_9, ev_h_1042, no_0, no_1, no_lt, no_le, no_eq, no_lt0, no_ge0, no_gt0, no_le0, no_eq0, no_0eq, no_eqm, no_meq, no_m0, no_mlt, no_mge, no_mgt, no_mm, no_i01, no_i10, no_in, no_or, no_ifm, no_mul, nI_add, no_sub, pk_div, iI_if, nI_clamp, oI_n, oI_s, not_true_eq_false, not_false_eq_true, forall_const, true_implies, false_and, and_false, or_false, false_or, Classical.not_not, true_or, or_true, no_b, no_eq1, eq_self, and_self, sk_301, sk_302, sl_302, sp_301, w1_d, e9])
              | (with_reducible refine And.intro (fun q => ?_) (fun q => ?_) <;> (try simp (disch := first | omega | assumption) only [no_0, no_1, no_lt, no_le, no_eq, no_lt0, no_ge0, no_gt0, no_le0, no_eq0, no_0eq, no_eqm, no_meq, no_m0, no_mlt, no_mge, no_mgt, no_mm, no_i01, no_i10, no_in, no_or, no_ifm, no_mul, nI_add, no_sub, pk_div, iI_if, nI_clamp, oI_n, oI_s, not_true_eq_false, not_false_eq_true, forall_const, true_implies, false_and, and_false, or_false, false_or, Classical.not_not, true_or, or_true, no_b, no_eq1, eq_self, and_self, sk_301, sk_302, sl_302, sp_301, w1_d, e9] at q))
              | with_reducible refine ev_ci (m_X11_inI hok _ _ _) ?_
              | with_reducible refine ev_ci (m_X11_in hok _ _ _ ?_ ?_ ?_) ?_
              | with_reducible refine ev_ci (m_X11_may hok _ _ _ ?_ ?_ ?_) ?_
              | with_reducible refine ev_ci (m_X11_thinks hok) ?_
              | with_reducible refine ev_ci (m_X11_back hok _) ?_
              | omega
              | with_reducible assumption
              | with_reducible rfl
              | with_reducible refine lp_nx ?_ ?_ ?_ ?_
              | with_reducible refine lp_st ?_ ?_ ?_
              | with_reducible refine ls_c ?_ ?_
              | with_reducible refine vi_c ?_
              | with_reducible refine re_c ?_
              | with_reducible refine vz_c ?_
              | with_reducible refine rz_c ?_
              | exact trivial
              | with_reducible refine And.intro ?_ ?_
              | simp (disch := first | omega | assumption) only [ev_run_c, ev_run_n, ev_fj, ev_stp, ev_lk, ev_fv, ev_as, ev_sz, ev_st1, ev_st2, ev_rm, ev_pk, ev_Jof, ev_go, lv_args, List.map_cons, List.map_nil, List.zip_cons_cons, List.zip_nil_left, List.zip_nil_right, List.nil_append, List.cons_append, ↓reduceIte, reduceCtorEq, Int.reduceToNat, Nat.reduceEqDiff, Nat.reduceAdd, Nat.reduceLT, Nat.reduceLeDiff, Nat.reduceMul, Nat.reduceSub, Value.category, false_implies, true_and, and_true, Bool.false_eq_true, Option.some.injEq, exists_eq_left', Option.toList_some, Option.toList_none, ev_km, ev_k2, ev_k3, ev_k4, ev_k5, ev_l0, ev_l1, sh_1, sh_2, sh_3, sh_4, sh_5, at_X11_parseSetup_20, at_X11_parseSetup_56, at_X11_parseSetup_76, at_X11_parseSetup_98, ca_X11_313, ca_X11_316, ca_X11_319, ca_X11_43, ca_X11_72, cd_X11_parseSetup_0, cd_X11_parseSetup_20, cd_X11_parseSetup_56, cd_X11_parseSetup_76, cd_X11_parseSetup_98, fl_X11_208, fl_X11_22, fl_X11_30, fl_X11_322, fl_X11_40, fl_X11_47, fl_X11_55, fl_X11_62, fl_X11_69, fl_X11_76, fl_X11_9, ev_h_1042, no_0, no_1, no_lt, no_le, no_eq, no_lt0, no_ge0, no_gt0, no_le0, no_eq0, no_0eq, no_eqm, no_meq, no_m0, no_mlt, no_mge, no_mgt, no_mm, no_i01, no_i10, no_in, no_or, no_ifm, no_mul, nI_add, no_sub, pk_div, iI_if, nI_clamp, oI_n, oI_s, not_true_eq_false, not_false_eq_true, forall_const, true_implies, false_and, and_false, or_false, false_or, Classical.not_not, true_or, or_true, no_b, no_eq1, eq_self, and_self, sk_301, sk_302, sl_302, sp_301, w1_d, e9]
              | exact rfl
              | (split <;> omega))
          · have hkn : k = 1042 := by omega
            subst hkn
            repeat' (first
              | (with_reducible refine ev_rid ?_; simp (disch := first | omega | assumption) only [ev_run_c, ev_run_n, ev_fj, ev_stp, ev_lk, ev_fv, ev_as, ev_sz, ev_st1, ev_st2, ev_rm, ev_pk, ev_Jof, ev_go, lv_args, List.map_cons, List.map_nil, List.zip_cons_cons, List.zip_nil_left, List.zip_nil_right, List.nil_append, List.cons_append, ↓reduceIte, reduceCtorEq, Int.reduceToNat, Nat.reduceEqDiff, Nat.reduceAdd, Nat.reduceLT, Nat.reduceLeDiff, Nat.reduceMul, Nat.reduceSub, Value.category, false_implies, true_and, and_true, Bool.false_eq_true, Option.some.injEq, exists_eq_left', Option.toList_some, Option.toList_none, ev_km, ev_k2, ev_k3, ev_k4, ev_k5, ev_l0, ev_l1, sh_1, sh_2, sh_3, sh_4, sh_5, at_X11_parseSetup_20, at_X11_parseSetup_56, at_X11_parseSetup_76, at_X11_parseSetup_98, ca_X11_313, ca_X11_316, ca_X11_319, ca_X11_43, ca_X11_72, cd_X11_parseSetup_0, cd_X11_parseSetup_20, cd_X11_parseSetup_56, cd_X11_parseSetup_76, cd_X11_parseSetup_98, fl_X11_208, fl_X11_22, fl_X11_30, fl_X11_322, fl_X11_40, fl_X11_47, fl_X11_55, fl_X11_62, fl_X11_69, fl_X11_76, fl_X11_9, ev_h_1042, no_0, no_1, no_lt, no_le, no_eq, no_lt0, no_ge0, no_gt0, no_le0, no_eq0, no_0eq, no_eqm, no_meq, no_m0, no_mlt, no_mge, no_mgt, no_mm, no_i01, no_i10, no_in, no_or, no_ifm, no_mul, nI_add, no_sub, pk_div, iI_if, nI_clamp, oI_n, oI_s, not_true_eq_false, not_false_eq_true, forall_const, true_implies, false_and, and_false, or_false, false_or, Classical.not_not, true_or, or_true, no_b, no_eq1, eq_self, and_self, sk_301, sk_302, sl_302, sp_301, u10, w1_d])
              | (with_reducible refine ev_gid ?_; simp (disch := first | omega | assumption) only [ev_run_c, ev_run_n, ev_fj, ev_stp, ev_lk, ev_fv, ev_as, ev_sz, ev_st1, ev_st2, ev_rm, ev_pk, ev_Jof, ev_go, lv_args, List.map_cons, List.map_nil, List.zip_cons_cons, List.zip_nil_left, List.zip_nil_right, List.nil_append, List.cons_append, ↓reduceIte, reduceCtorEq, Int.reduceToNat, Nat.reduceEqDiff, Nat.reduceAdd, Nat.reduceLT, Nat.reduceLeDiff, Nat.reduceMul, Nat.reduceSub, Value.category, false_implies, true_and, and_true, Bool.false_eq_true, Option.some.injEq, exists_eq_left', Option.toList_some, Option.toList_none, ev_km, ev_k2, ev_k3, ev_k4, ev_k5, ev_l0, ev_l1, sh_1, sh_2, sh_3, sh_4, sh_5, at_X11_parseSetup_20, at_X11_parseSetup_56, at_X11_parseSetup_76, at_X11_parseSetup_98, ca_X11_313, ca_X11_316, ca_X11_319, ca_X11_43, ca_X11_72, cd_X11_parseSetup_0, cd_X11_parseSetup_20, cd_X11_parseSetup_56, cd_X11_parseSetup_76, cd_X11_parseSetup_98, fl_X11_208, fl_X11_22, fl_X11_30, fl_X11_322, fl_X11_40, fl_X11_47, fl_X11_55, fl_X11_62, fl_X11_69, fl_X11_76, fl_X11_9, ev_h_1042, no_0, no_1, no_lt, no_le, no_eq, no_lt0, no_ge0, no_gt0, no_le0, no_eq0, no_0eq, no_eqm, no_meq, no_m0, no_mlt, no_mge, no_mgt, no_mm, no_i01, no_i10, no_in, no_or, no_ifm, no_mul, nI_add, no_sub, pk_div, iI_if, nI_clamp, oI_n, oI_s, not_true_eq_false, not_false_eq_true, forall_const, true_implies, false_and, and_false, or_false, false_or, Classical.not_not, true_or, or_true, no_b, no_eq1, eq_self, and_self, sk_301, sk_302, sl_302, sp_301, u10, w1_d])
              | (with_reducible refine And.intro (fun q => ?_) (fun q => ?_) <;> (try simp (disch := first | omega | assumption) only [no_0, no_1, no_lt, no_le, no_eq, no_lt0, no_ge0, no_gt0, no_le0, no_eq0, no_0eq, no_eqm, no_meq, no_m0, no_mlt, no_mge, no_mgt, no_mm, no_i01, no_i10, no_in, no_or, no_ifm, no_mul, nI_add, no_sub, pk_div, iI_if, nI_clamp, oI_n, oI_s, not_true_eq_false, not_false_eq_true, forall_const, true_implies, false_and, and_false, or_false, false_or, Classical.not_not, true_or, or_true, no_b, no_eq1, eq_self, and_self, sk_301, sk_302, sl_302, sp_301, u10, w1_d] at q))
              | (with_reducible refine ev_ci r1 ?_)
              | (with_reducible refine ev_ci hbk ?_)
              | with_reducible refine ev_ci (m_X11_inI hok _ _ _) ?_
              | with_reducible refine ev_ci (m_X11_in hok _ _ _ ?_ ?_ ?_) ?_
              | with_reducible refine ev_ci (m_X11_may hok _ _ _ ?_ ?_ ?_) ?_
              | with_reducible refine ev_ci (m_X11_thinks hok) ?_
              | with_reducible refine ev_ci (m_X11_back hok _) ?_
              | omega
              | with_reducible assumption
              | with_reducible rfl
              | with_reducible refine lp_nx ?_ ?_ ?_ ?_
              | with_reducible refine lp_st ?_ ?_ ?_
              | with_reducible refine ls_c ?_ ?_
              | with_reducible refine vi_c ?_
              | with_reducible refine re_c ?_
              | with_reducible refine vz_c ?_
              | with_reducible refine rz_c ?_
              | exact trivial
              | with_reducible refine And.intro ?_ ?_
              | simp (disch := first | omega | assumption) only [ev_run_c, ev_run_n, ev_fj, ev_stp, ev_lk, ev_fv, ev_as, ev_sz, ev_st1, ev_st2, ev_rm, ev_pk, ev_Jof, ev_go, lv_args, List.map_cons, List.map_nil, List.zip_cons_cons, List.zip_nil_left, List.zip_nil_right, List.nil_append, List.cons_append, ↓reduceIte, reduceCtorEq, Int.reduceToNat, Nat.reduceEqDiff, Nat.reduceAdd, Nat.reduceLT, Nat.reduceLeDiff, Nat.reduceMul, Nat.reduceSub, Value.category, false_implies, true_and, and_true, Bool.false_eq_true, Option.some.injEq, exists_eq_left', Option.toList_some, Option.toList_none, ev_km, ev_k2, ev_k3, ev_k4, ev_k5, ev_l0, ev_l1, sh_1, sh_2, sh_3, sh_4, sh_5, at_X11_parseSetup_20, at_X11_parseSetup_56, at_X11_parseSetup_76, at_X11_parseSetup_98, ca_X11_313, ca_X11_316, ca_X11_319, ca_X11_43, ca_X11_72, cd_X11_parseSetup_0, cd_X11_parseSetup_20, cd_X11_parseSetup_56, cd_X11_parseSetup_76, cd_X11_parseSetup_98, fl_X11_208, fl_X11_22, fl_X11_30, fl_X11_322, fl_X11_40, fl_X11_47, fl_X11_55, fl_X11_62, fl_X11_69, fl_X11_76, fl_X11_9, ev_h_1042, no_0, no_1, no_lt, no_le, no_eq, no_lt0, no_ge0, no_gt0, no_le0, no_eq0, no_0eq, no_eqm, no_meq, no_m0, no_mlt, no_mge, no_mgt, no_mm, no_i01, no_i10, no_in, no_or, no_ifm, no_mul, nI_add, no_sub, pk_div, iI_if, nI_clamp, oI_n, oI_s, not_true_eq_false, not_false_eq_true, forall_const, true_implies, false_and, and_false, or_false, false_or, Classical.not_not, true_or, or_true, no_b, no_eq1, eq_self, and_self, sk_301, sk_302, sl_302, sp_301, u10, w1_d]
              | exact rfl
              | (split <;> omega))
        · rw [at_X11_parseSetup_0]
          have e9 : M1 = zz M1 0 := zz_0.symm
          repeat' (first
            | (with_reducible refine ev_rid ?_; simp (disch := first | omega | assumption) only [ev_run_c, ev_run_n, ev_fj, ev_stp, ev_lk, ev_fv, ev_as, ev_sz, ev_st1, ev_st2, ev_rm, ev_pk, ev_Jof, ev_go, lv_args, List.map_cons, List.map_nil, List.zip_cons_cons, List.zip_nil_left, List.zip_nil_right, List.nil_append, List.cons_append, ↓reduceIte, reduceCtorEq, Int.reduceToNat, Nat.reduceEqDiff, Nat.reduceAdd, Nat.reduceLT, Nat.reduceLeDiff, Nat.reduceMul, Nat.reduceSub, Value.category, false_implies, true_and, and_true, Bool.false_eq_true, Option.some.injEq, exists_eq_left', Option.toList_some, Option.toList_none, ev_km, ev_k2, ev_k3, ev_k4, ev_k5, ev_l0, ev_l1, sh_1, sh_2, sh_3, sh_4, sh_5, at_X11_parseSetup_20, at_X11_parseSetup_56, at_X11_parseSetup_76, at_X11_parseSetup_98, ca_X11_313, ca_X11_316, ca_X11_319, ca_X11_43, ca_X11_72, cd_X11_parseSetup_0, cd_X11_parseSetup_20, cd_X11_parseSetup_56, cd_X11_parseSetup_76, cd_X11_parseSetup_98, fl_X11_208, fl_X11_22, fl_X11_30, fl_X11_322, fl_X11_40, fl_X11_47, fl_X11_55, fl_X11_62, fl_X11_69, fl_X11_76, fl_X11_9, ev_h_1042, no_0, no_1, no_lt, no_le, no_eq, no_lt0, no_ge0, no_gt0, no_le0, no_eq0, no_0eq, no_eqm, no_meq, no_m0, no_mlt, no_mge, no_mgt, no_mm, no_i01, no_i10, no_in, no_or, no_ifm, no_mul, nI_add, no_sub, pk_div, iI_if, nI_clamp, oI_n, oI_s, not_true_eq_false, not_false_eq_true, forall_const, true_implies, false_and, and_false, or_false, false_or, Classical.not_not, true_or, or_true, no_b, no_eq1, eq_self, and_self, sk_301, sk_302, sl_302, sp_301, h7, w1_d, hep])
            | (with_reducible refine ev_gid ?_; simp (disch := first | omega | assumption) only [ev_run_c, ev_run_n, ev_fj, ev_stp, ev_lk, ev_fv, ev_as, ev_sz, ev_st1, ev_st2, ev_rm, ev_pk, ev_Jof, ev_go, lv_args, List.map_cons, List.map_nil, List.zip_cons_cons, List.zip_nil_left, List.zip_nil_right, List.nil_append, List.cons_append, ↓reduceIte, reduceCtorEq, Int.reduceToNat, Nat.reduceEqDiff, Nat.reduceAdd, Nat.reduceLT, Nat.reduceLeDiff, Nat.reduceMul, Nat.reduceSub, Value.category, false_implies, true_and, and_true, Bool.false_eq_true, Option.some.injEq, exists_eq_left', Option.toList_some, Option.toList_none, ev_km, ev_k2, ev_k3, ev_k4, ev_k5, ev_l0, ev_l1, sh_1, sh_2, sh_3, sh_4, sh_5, at_X11_parseSetup_20, at_X11_parseSetup_56, at_X11_parseSetup_76, at_X11_parseSetup_98, ca_X11_313, ca_X11_316, ca_X11_319, ca_X11_43, ca_X11_72, cd_X11_parseSetup_0, cd_X11_parseSetup_20, cd_X11_parseSetup_56, cd_X11_parseSetup_76, cd_X11_parseSetup_98, fl_X11_208, fl_X11_22, fl_X11_30, fl_X11_322, fl_X11_40, fl_X11_47, fl_X11_55, fl_X11_62, fl_X11_69, fl_X11_76, fl_X11_9, ev_h_1042, no_0, no_1, no_lt, no_le, no_eq, no_lt0, no_ge0, no_gt0, no_le0, no_eq0, no_0eq, no_eqm, no_meq, no_m0, no_mlt, no_mge, no_mgt, no_mm, no_i01, no_i10, no_in, no_or, no_ifm, no_mul, nI_add, no_sub, pk_div, iI_if, nI_clamp, oI_n, oI_s, not_true_eq_false, not_false_eq_true, forall_const, true_implies, false_and, and_false, or_false, false_or, Classical.not_not, true_or, or_true, no_b, no_eq1, eq_self, and_self, sk_301, sk_302, sl_302, sp_301, h7, w1_d, hep])
            | (with_reducible refine And.intro (fun q => ?_) (fun q => ?_) <;> (try simp (disch := first | omega | assumption) only [no_0, no_1, no_lt, no_le, no_eq, no_lt0, no_ge0, no_gt0, no_le0, no_eq0, no_0eq, no_eqm, no_meq, no_m0, no_mlt, no_mge, no_mgt, no_mm, no_i01, no_i10, no_in, no_or, no_ifm, no_mul, nI_add, no_sub, pk_div, iI_if, nI_clamp, oI_n, oI_s, not_true_eq_false, not_false_eq_true, forall_const, true_implies, false_and, and_false, or_false, false_or, Classical.not_not, true_or, or_true, no_b, no_eq1, eq_self, and_self, sk_301, sk_302, sl_302, sp_301, h7, w1_d, hep] at q))
            | (with_reducible refine ev_ci hin ?_)
            | (with_reducible refine ev_ci hmay ?_)
            | (with_reducible refine ev_ci hth ?_)
            | with_reducible refine ev_ci (m_X11_inI hok _ _ _) ?_
            | with_reducible refine ev_ci (m_X11_in hok _ _ _ ?_ ?_ ?_) ?_
            | with_reducible refine ev_ci (m_X11_may hok _ _ _ ?_ ?_ ?_) ?_
            | with_reducible refine ev_ci (m_X11_thinks hok) ?_
            | with_reducible refine ev_ci (m_X11_back hok _) ?_
            | omega
            | with_reducible assumption
            | with_reducible rfl
            | exact e9
            | with_reducible refine lp_nx ?_ ?_ ?_ ?_
            | with_reducible refine lp_st ?_ ?_ ?_
            | with_reducible refine ls_c ?_ ?_
            | with_reducible refine vi_c ?_
            | with_reducible refine re_c ?_
            | with_reducible refine vz_c ?_
            | with_reducible refine rz_c ?_
            | exact trivial
            | with_reducible refine And.intro ?_ ?_
            | simp (disch := first | omega | assumption) only [ev_run_c, ev_run_n, ev_fj, ev_stp, ev_lk, ev_fv, ev_as, ev_sz, ev_st1, ev_st2, ev_rm, ev_pk, ev_Jof, ev_go, lv_args, List.map_cons, List.map_nil, List.zip_cons_cons, List.zip_nil_left, List.zip_nil_right, List.nil_append, List.cons_append, ↓reduceIte, reduceCtorEq, Int.reduceToNat, Nat.reduceEqDiff, Nat.reduceAdd, Nat.reduceLT, Nat.reduceLeDiff, Nat.reduceMul, Nat.reduceSub, Value.category, false_implies, true_and, and_true, Bool.false_eq_true, Option.some.injEq, exists_eq_left', Option.toList_some, Option.toList_none, ev_km, ev_k2, ev_k3, ev_k4, ev_k5, ev_l0, ev_l1, sh_1, sh_2, sh_3, sh_4, sh_5, at_X11_parseSetup_20, at_X11_parseSetup_56, at_X11_parseSetup_76, at_X11_parseSetup_98, ca_X11_313, ca_X11_316, ca_X11_319, ca_X11_43, ca_X11_72, cd_X11_parseSetup_0, cd_X11_parseSetup_20, cd_X11_parseSetup_56, cd_X11_parseSetup_76, cd_X11_parseSetup_98, fl_X11_208, fl_X11_22, fl_X11_30, fl_X11_322, fl_X11_40, fl_X11_47, fl_X11_55, fl_X11_62, fl_X11_69, fl_X11_76, fl_X11_9, ev_h_1042, no_0, no_1, no_lt, no_le, no_eq, no_lt0, no_ge0, no_gt0, no_le0, no_eq0, no_0eq, no_eqm, no_meq, no_m0, no_mlt, no_mge, no_mgt, no_mm, no_i01, no_i10, no_in, no_or, no_ifm, no_mul, nI_add, no_sub, pk_div, iI_if, nI_clamp, oI_n, oI_s, not_true_eq_false, not_false_eq_true, forall_const, true_implies, false_and, and_false, or_false, false_or, Classical.not_not, true_or, or_true, no_b, no_eq1, eq_self, and_self, sk_301, sk_302, sl_302, sp_301, h7, w1_d, hep]
            | exact rfl
            | (split <;> omega))
      · show MS (stE σ t) _
        unfold stE
        rw [if_neg z]
        refine ⟨fun y hy => ?_, ?_, ?_, fun i hi y hy => ?_, fun s hs => ?_, fun s hs hv y hy => ?_, ?_, fun i hi => absurd hi (Nat.not_lt_zero i), ?_, ?_, ?_, fun i hi => ?_⟩
        · have e := cpy_in (μ := w1 M3 301 0 (nI 2)) (a := 303) (i := 0) (b := 302) (j := 0) hy
          rw [Nat.zero_add] at e
          rw [e, w1_n (by omega)]
          exact u3 y hy
        · rw [k9 _ _ (by omega) (by omega), u2 6 (by omega)]; exact h2
        · rw [k9 _ _ (by omega) (by omega), u2 7 (by omega)]; exact h3
        · rw [k9 _ _ (by omega) (by omega), u1 _ _ (by omega) (by omega) (by omega) (by omega)]; exact h4 i hi y hy
        · rw [k9 _ _ (by omega) (by omega), u1 _ _ (by omega) (by omega) (by omega) (by omega)]; exact h5 s hs
        · rw [k9 _ _ (by omega) (by omega), u1 _ _ (by omega) (by omega) (by omega) (by omega)]; exact h6 s hs hv y hy
        · rw [k9 _ _ (by omega) (by omega)]; exact u9
        · rw [k9 _ _ (by omega) (by omega)]; exact u10
        · rw [k9 _ _ (by omega) (by omega)]; exact u11
        · rw [k9 _ _ (by omega) (by omega), u2 20 (by omega)]; exact h11
        · rw [k9 _ _ (by omega) (by omega), u1 _ _ (by omega) (by omega) (by omega) (by omega)]; exact h12 i hi
      · rw [k9 _ _ (by omega) (by omega)]; exact u1 a y (by omega) (by omega) (by omega) (by omega)
      · show _ = nI (if t.e.1 = 0 then 0 else 2)
        rw [if_neg z]
        exact k0
end MSetup
