/-! ===== the reference: a pancake's text, a person's bids, a byte ===== -/
section MPage2
variable {G : ev_G} {N : Nat → Nat} {μ μ' : ev_M} {σ : ev_A}
set_option maxHeartbeats 2000000 in
theorem m_pageP (hok : ev_ok sh_S G) (hN : MR N μ) (hI : INV N) {e : Nat} (he : μ.1 301 6 = nI e) (he2 : e < 2) {q : Nat} (hq : q < N 1) (hc : c1 e (N 1) (nI q) = 0) (T : Nat → List Nat) (U : Nat → Nat → List Nat) (t1 : ∀ k, k ≤ N (952 + 9 * q + 5) → (T k).length ≤ 100) (t2 : ∀ k j, k < N (952 + 9 * q + 5) → j ≤ N (8 + 59 * N (952 + 9 * q + (6 + k)) + 6) → (U k j).length ≤ 100) (t3 : ∀ k, 0 < k → T k ++ [44] = U k 0) (t4 : T 0 = U 0 0) (t5 : ∀ k j, U k j ++ [N (8 + 59 * N (952 + 9 * q + (6 + k)) + (7 + j))] = U k (j + 1)) (t6 : ∀ k, U k (N (8 + 59 * N (952 + 9 * q + (6 + k)) + 6)) ++ [61] ++ (if N (8 + 59 * N (952 + 9 * q + (6 + k)) + (23 + q)) = 0 then [63] else [48 + N (8 + 59 * N (952 + 9 * q + (6 + k)) + (23 + q))]) = T (k + 1)) (t7 : T 0 = if N (952 + 9 * q + 5) = 0 then [45] else []) {R : List Nat} (t8 : T (N (952 + 9 * q + 5)) ++ [47] ++ dgZ (tot N q) = R) : ev_T sh_S G mi_X11_writePancake [.ref 301, .int (nI q)] μ (.inl (some (.int (nI R.length)), pgr R (th μ 0))) := by
  have hh := iv_h hI
  have h3 := (iv_q hI q (by omega)).2.2
  have hR : ∀ l, MR N (pgr l (th μ 0)) := fun l => pgr_R (th_R hN)
  have oc : ∀ l w, w < 9 → ev_T sh_S G mi_X11_ofCake [.ref 301, .int (nI q), .int (nI w)] (pgr l (th μ 0)) (.inl (some (.int (nI (N (952 + 9 * q + w)))), pgr l (th μ 0))) := fun l w hw => m_X11_ofCake hok (hR l) (by omega) hw
  refine ev_triG hok (okM_X11_writePancake 0) (Nat.le_of_ble_eq_true rfl) [(32, [0, 1, 2]), (65, [0, 1, 2, 3, 4])] 400 (fun pc a b _ => if pc = 32 then a ≤ N (952 + 9 * q + 5) else a < N (952 + 9 * q + 5) ∧ b ≤ N (8 + 59 * N (952 + 9 * q + (6 + a)) + 6)) (fun pc a b _ => if pc = 32 then [.ref 301, .int (nI q), .int (nI a)] else [.ref 301, .int (nI q), .int (nI a), .int (nI (N (952 + 9 * q + (6 + a)))), .int (nI b)]) (fun pc a b _ => if pc = 32 then pgr (T a) (th μ 0) else pgr (U a b) (th μ 0)) (fun pc a b _ => if pc = 32 then (3 - a) * 100 + 50 else (3 - a) * 100 + (10 - b)) ?_ ?_
  · intro x hx a b c hP
    simp only [List.mem_cons, List.not_mem_nil, or_false] at hx
    rcases hx with rfl | rfl
    · have hP : a ≤ N (952 + 9 * q + 5) := hP
      dsimp only
      rw [at_X11_writePancake_32]
      have hl := t1 a hP
      have k1 := oc (T a) 5 (by omega)
      rcases Nat.lt_or_ge a (N (952 + 9 * q + 5)) with hkn | hkn
      · have hi := iv_st hI q a (by omega) hkn
        have k2 := oc (T a) (6 + a) (by omega)
        have hq2 : a < N (952 + 9 * q + 5) ∧ 0 ≤ N (8 + 59 * N (952 + 9 * q + (6 + a)) + 6) := ⟨hkn, Nat.zero_le _⟩
        rcases Nat.eq_zero_or_pos a with c | c
        · subst c
          rw [t4] at k1 k2
          rw [t4]
          repeat' (first
            | (with_reducible refine ev_rid ?_; simp (disch := first | omega | assumption) only [ev_run_c, ev_run_n, ev_fj, ev_stp, ev_lk, ev_fv, ev_as, ev_sz, ev_st1, ev_st2, ev_rm, ev_pk, ev_Jof, ev_go, lv_args, List.map_cons, List.map_nil, List.zip_cons_cons, List.zip_nil_left, List.zip_nil_right, List.nil_append, List.cons_append, ↓reduceIte, reduceCtorEq, Int.reduceToNat, Nat.reduceEqDiff, Nat.reduceAdd, Nat.reduceLT, Nat.reduceLeDiff, Nat.reduceMul, Nat.reduceSub, Value.category, false_implies, true_and, and_true, Bool.false_eq_true, Option.some.injEq, exists_eq_left', Option.toList_some, Option.toList_none, ev_km, ev_k2, ev_k3, ev_k4, ev_k5, ev_l0, ev_l1, sh_1, sh_2, sh_3, sh_4, sh_5, at_X11_writePancake_10, at_X11_writePancake_128, at_X11_writePancake_130, at_X11_writePancake_139, at_X11_writePancake_30, at_X11_writePancake_32, at_X11_writePancake_62, at_X11_writePancake_65, at_X11_writePancake_97, ca_X11_121, ca_X11_195, ca_X11_201, ca_X11_388, ca_X11_411, ca_X11_448, ca_X11_451, cd_X11_writePancake_0, cd_X11_writePancake_10, cd_X11_writePancake_128, cd_X11_writePancake_130, cd_X11_writePancake_139, cd_X11_writePancake_30, cd_X11_writePancake_32, cd_X11_writePancake_62, cd_X11_writePancake_65, cd_X11_writePancake_97, fl_X11_445, ev_b_23, ev_b_44, ev_b_45, ev_b_47, ev_b_48, ev_b_6, ev_b_61, ev_b_63, ev_b_7, no_0, no_1, no_lt, no_le, no_eq, no_lt0, no_ge0, no_gt0, no_le0, no_eq0, no_0eq, no_eqm, no_meq, no_m0, no_mlt, no_mge, no_mgt, no_mm, no_i01, no_i10, no_in, no_or, no_ifm, no_mul, nI_add, no_sub, pk_div, iI_if, nI_clamp, oI_n, oI_s, not_true_eq_false, not_false_eq_true, forall_const, true_implies, false_and, and_false, or_false, false_or, Classical.not_not, true_or, or_true, no_b, no_eq1, eq_self, and_self, sk_301, sk_302, sl_302, sp_301])
            | (with_reducible refine ev_gid ?_; simp (disch := first | omega | assumption) only [ev_run_c, ev_run_n, ev_fj, ev_stp, ev_lk, ev_fv, ev_as, ev_sz, ev_st1, ev_st2, ev_rm, ev_pk, ev_Jof, ev_go, lv_args, List.map_cons, List.map_nil, List.zip_cons_cons, List.zip_nil_left, List.zip_nil_right, List.nil_append, List.cons_append, ↓reduceIte, reduceCtorEq, Int.reduceToNat, Nat.reduceEqDiff, Nat.reduceAdd, Nat.reduceLT, Nat.reduceLeDiff, Nat.reduceMul, Nat.reduceSub, Value.category, false_implies, true_and, and_true, Bool.false_eq_true, Option.some.injEq, exists_eq_left', Option.toList_some, Option.toList_none, ev_km, ev_k2, ev_k3, ev_k4, ev_k5, ev_l0, ev_l1, sh_1, sh_2, sh_3, sh_4, sh_5, at_X11_writePancake_10, at_X11_writePancake_128, at_X11_writePancake_130, at_X11_writePancake_139, at_X11_writePancake_30, at_X11_writePancake_32, at_X11_writePancake_62, at_X11_writePancake_65, at_X11_writePancake_97, ca_X11_121, ca_X11_195, ca_X11_201, ca_X11_388, ca_X11_411, ca_X11_448, ca_X11_451, cd_X11_writePancake_0, cd_X11_writePancake_10, cd_X11_writePancake_128, cd_X11_writePancake_130, cd_X11_writePancake_139, cd_X11_writePancake_30, cd_X11_writePancake_32, cd_X11_writePancake_62, cd_X11_writePancake_65, cd_X11_writePancake_97, fl_X11_445, ev_b_23, ev_b_44, ev_b_45, ev_b_47, ev_b_48, ev_b_6, ev_b_61, ev_b_63, ev_b_7, no_0, no_1, no_lt, no_le, no_eq, no_lt0, no_ge0, no_gt0, no_le0, no_eq0, no_0eq, no_eqm, no_meq, no_m0, no_mlt, no_mge, no_mgt, no_mm, no_i01, no_i10, no_in, no_or, no_ifm, no_mul, nI_add, no_sub, pk_div, iI_if, nI_clamp, oI_n, oI_s, not_true_eq_false, not_false_eq_true, forall_const, true_implies, false_and, and_false, or_false, false_or, Classical.not_not, true_or, or_true, no_b, no_eq1, eq_self, and_self, sk_301, sk_302, sl_302, sp_301])
            | (with_reducible refine And.intro (fun q => ?_) (fun q => ?_) <;> (try simp (disch := first | omega | assumption) only [no_0, no_1, no_lt, no_le, no_eq, no_lt0, no_ge0, no_gt0, no_le0, no_eq0, no_0eq, no_eqm, no_meq, no_m0, no_mlt, no_mge, no_mgt, no_mm, no_i01, no_i10, no_in, no_or, no_ifm, no_mul, nI_add, no_sub, pk_div, iI_if, nI_clamp, oI_n, oI_s, not_true_eq_false, not_false_eq_true, forall_const, true_implies, false_and, and_false, or_false, false_or, Classical.not_not, true_or, or_true, no_b, no_eq1, eq_self, and_self, sk_301, sk_302, sl_302, sp_301] at q))
            | (with_reducible refine ev_ci k1 ?_)
            | (with_reducible refine ev_ci k2 ?_)
            | with_reducible refine ev_ci (m_X11_mayPancake hok (by first | with_reducible assumption | exact th_R (by with_reducible assumption) | exact mw_R | exact ms_R) (by with_reducible assumption) ?_ ?_ _) ?_
            | with_reducible refine ev_ci (m_X11_ofCake hok (by first | exact MR_re (by with_reducible assumption) | exact MR_re mw_R) ?_ ?_) ?_
            | with_reducible refine ev_ci (m_X11_of hok (by first | exact MR_re (by with_reducible assumption) | exact MR_re mw_R) ?_ ?_) ?_
            | with_reducible refine ev_ci (m_X11_isScored hok (by first | exact MR_re (by with_reducible assumption) | exact MR_re mw_R) (by with_reducible assumption) ?_ ?_) ?_
            | with_reducible refine ev_ci (m_X11_total hok (by first | with_reducible assumption | exact th_R (by with_reducible assumption) | exact mw_R | exact ms_R) (by with_reducible assumption) ?_) ?_
            | omega
            | with_reducible assumption
            | with_reducible rfl
            | refine lpG_nx 0 0 0 ?_ ?_ ?_ ?_
            | exact hq2
            | with_reducible refine lp_nx ?_ ?_ ?_ ?_
            | with_reducible refine lp_st ?_ ?_ ?_
            | with_reducible refine ls_c ?_ ?_
            | with_reducible refine vi_c ?_
            | with_reducible refine re_c ?_
            | with_reducible refine vz_c ?_
            | with_reducible refine rz_c ?_
            | exact trivial
            | with_reducible refine And.intro ?_ ?_
            | simp (disch := first | omega | assumption) only [ev_run_c, ev_run_n, ev_fj, ev_stp, ev_lk, ev_fv, ev_as, ev_sz, ev_st1, ev_st2, ev_rm, ev_pk, ev_Jof, ev_go, lv_args, List.map_cons, List.map_nil, List.zip_cons_cons, List.zip_nil_left, List.zip_nil_right, List.nil_append, List.cons_append, ↓reduceIte, reduceCtorEq, Int.reduceToNat, Nat.reduceEqDiff, Nat.reduceAdd, Nat.reduceLT, Nat.reduceLeDiff, Nat.reduceMul, Nat.reduceSub, Value.category, false_implies, true_and, and_true, Bool.false_eq_true, Option.some.injEq, exists_eq_left', Option.toList_some, Option.toList_none, ev_km, ev_k2, ev_k3, ev_k4, ev_k5, ev_l0, ev_l1, sh_1, sh_2, sh_3, sh_4, sh_5, at_X11_writePancake_10, at_X11_writePancake_128, at_X11_writePancake_130, at_X11_writePancake_139, at_X11_writePancake_30, at_X11_writePancake_32, at_X11_writePancake_62, at_X11_writePancake_65, at_X11_writePancake_97, ca_X11_121, ca_X11_195, ca_X11_201, ca_X11_388, ca_X11_411, ca_X11_448, ca_X11_451, cd_X11_writePancake_0, cd_X11_writePancake_10, cd_X11_writePancake_128, cd_X11_writePancake_130, cd_X11_writePancake_139, cd_X11_writePancake_30, cd_X11_writePancake_32, cd_X11_writePancake_62, cd_X11_writePancake_65, cd_X11_writePancake_97, fl_X11_445, ev_b_23, ev_b_44, ev_b_45, ev_b_47, ev_b_48, ev_b_6, ev_b_61, ev_b_63, ev_b_7, no_0, no_1, no_lt, no_le, no_eq, no_lt0, no_ge0, no_gt0, no_le0, no_eq0, no_0eq, no_eqm, no_meq, no_m0, no_mlt, no_mge, no_mgt, no_mm, no_i01, no_i10, no_in, no_or, no_ifm, no_mul, nI_add, no_sub, pk_div, iI_if, nI_clamp, oI_n, oI_s, not_true_eq_false, not_false_eq_true, forall_const, true_implies, false_and, and_false, or_false, false_or, Classical.not_not, true_or, or_true, no_b, no_eq1, eq_self, and_self, sk_301, sk_302, sl_302, sp_301]
            | exact rfl
            | (split <;> omega))
        · have k3 := m_writesByte (μ := th μ 0) (l := T a) (x := 44) hok (by omega) (by omega)
          rw [t3 a c] at k3
          repeat' (first
            | (with_reducible refine ev_rid ?_; simp (disch := first | omega | assumption) only [ev_run_c, ev_run_n, ev_fj, ev_stp, ev_lk, ev_fv, ev_as, ev_sz, ev_st1, ev_st2, ev_rm, ev_pk, ev_Jof, ev_go, lv_args, List.map_cons, List.map_nil, List.zip_cons_cons, List.zip_nil_left, List.zip_nil_right, List.nil_append, List.cons_append, ↓reduceIte, reduceCtorEq, Int.reduceToNat, Nat.reduceEqDiff, Nat.reduceAdd, Nat.reduceLT, Nat.reduceLeDiff, Nat.reduceMul, Nat.reduceSub, Value.category, false_implies, true_and, and_true, Bool.false_eq_true, Option.some.injEq, exists_eq_left', Option.toList_some, Option.toList_none, ev_km, ev_k2, ev_k3, ev_k4, ev_k5, ev_l0, ev_l1, sh_1, sh_2, sh_3, sh_4, sh_5, at_X11_writePancake_10, at_X11_writePancake_128, at_X11_writePancake_130, at_X11_writePancake_139, at_X11_writePancake_30, at_X11_writePancake_32, at_X11_writePancake_62, at_X11_writePancake_65, at_X11_writePancake_97, ca_X11_121, ca_X11_195, ca_X11_201, ca_X11_388, ca_X11_411, ca_X11_448, ca_X11_451, cd_X11_writePancake_0, cd_X11_writePancake_10, cd_X11_writePancake_128, cd_X11_writePancake_130, cd_X11_writePancake_139, cd_X11_writePancake_30, cd_X11_writePancake_32, cd_X11_writePancake_62, cd_X11_writePancake_65, cd_X11_writePancake_97, fl_X11_445, ev_b_23, ev_b_44, ev_b_45, ev_b_47, ev_b_48, ev_b_6, ev_b_61, ev_b_63, ev_b_7, no_0, no_1, no_lt, no_le, no_eq, no_lt0, no_ge0, no_gt0, no_le0, no_eq0, no_0eq, no_eqm, no_meq, no_m0, no_mlt, no_mge, no_mgt, no_mm, no_i01, no_i10, no_in, no_or, no_ifm, no_mul, nI_add, no_sub, pk_div, iI_if, nI_clamp, oI_n, oI_s, not_true_eq_false, not_false_eq_true, forall_const, true_implies, false_and, and_false, or_false, false_or, Classical.not_not, true_or, or_true, no_b, no_eq1, eq_self, and_self, sk_301, sk_302, sl_302, sp_301])
            | (with_reducible refine ev_gid ?_; simp (disch := first | omega | assumption) only [ev_run_c, ev_run_n, ev_fj, ev_stp, ev_lk, ev_fv, ev_as, ev_sz, ev_st1, ev_st2, ev_rm, ev_pk, ev_Jof, ev_go, lv_args, List.map_cons, List.map_nil, List.zip_cons_cons, List.zip_nil_left, List.zip_nil_right, List.nil_append, List.cons_append, ↓reduceIte, reduceCtorEq, Int.reduceToNat, Nat.reduceEqDiff, Nat.reduceAdd, Nat.reduceLT, Nat.reduceLeDiff, Nat.reduceMul, Nat.reduceSub, Value.category, false_implies, true_and, and_true, Bool.false_eq_true, Option.some.injEq, exists_eq_left', Option.toList_some, Option.toList_none, ev_km, ev_k2, ev_k3, ev_k4, ev_k5, ev_l0, ev_l1, sh_1, sh_2, sh_3, sh_4, sh_5, at_X11_writePancake_10, at_X11_writePancake_128, at_X11_writePancake_130, at_X11_writePancake_139, at_X11_writePancake_30, at_X11_writePancake_32, at_X11_writePancake_62, at_X11_writePancake_65, at_X11_writePancake_97, ca_X11_121, ca_X11_195, ca_X11_201, ca_X11_388, ca_X11_411, ca_X11_448, ca_X11_451, cd_X11_writePancake_0, cd_X11_writePancake_10, cd_X11_writePancake_128, cd_X11_writePancake_130, cd_X11_writePancake_139, cd_X11_writePancake_30, cd_X11_writePancake_32, cd_X11_writePancake_62, cd_X11_writePancake_65, cd_X11_writePancake_97, fl_X11_445, ev_b_23, ev_b_44, ev_b_45, ev_b_47, ev_b_48, ev_b_6, ev_b_61, ev_b_63, ev_b_7, no_0, no_1, no_lt, no_le, no_eq, no_lt0, no_ge0, no_gt0, no_le0, no_eq0, no_0eq, no_eqm, no_meq, no_m0, no_mlt, no_mge, no_mgt, no_mm, no_i01, no_i10, no_in, no_or, no_ifm, no_mul, nI_add, no_sub, pk_div, iI_if, nI_clamp, oI_n, oI_s, not_true_eq_false, not_false_eq_true, forall_const, true_implies, false_and, and_false, or_false, false_or, Classical.not_not, true_or, or_true, no_b, no_eq1, eq_self, and_self, sk_301, sk_302, sl_302, sp_301])
            | (with_reducible refine And.intro (fun q => ?_) (fun q => ?_) <;> (try simp (disch := first | omega | assumption) only [no_0, no_1, no_lt, no_le, no_eq, no_lt0, no_ge0, no_gt0, no_le0, no_eq0, no_0eq, no_eqm, no_meq, no_m0, no_mlt, no_mge, no_mgt, no_mm, no_i01, no_i10, no_in, no_or, no_ifm, no_mul, nI_add, no_sub, pk_div, iI_if, nI_clamp, oI_n, oI_s, not_true_eq_false, not_false_eq_true, forall_const, true_implies, false_and, and_false, or_false, false_or, Classical.not_not, true_or, or_true, no_b, no_eq1, eq_self, and_self, sk_301, sk_302, sl_302, sp_301] at q))
            | (with_reducible refine ev_ci k1 ?_)
            | (with_reducible refine ev_ci k2 ?_)
            | (with_reducible refine ev_ci k3 ?_)
            | with_reducible refine ev_ci (m_X11_mayPancake hok (by first | with_reducible assumption | exact th_R (by with_reducible assumption) | exact mw_R | exact ms_R) (by with_reducible assumption) ?_ ?_ _) ?_
            | with_reducible refine ev_ci (m_X11_ofCake hok (by first | exact MR_re (by with_reducible assumption) | exact MR_re mw_R) ?_ ?_) ?_
            | with_reducible refine ev_ci (m_X11_of hok (by first | exact MR_re (by with_reducible assumption) | exact MR_re mw_R) ?_ ?_) ?_
            | with_reducible refine ev_ci (m_X11_isScored hok (by first | exact MR_re (by with_reducible assumption) | exact MR_re mw_R) (by with_reducible assumption) ?_ ?_) ?_
            | with_reducible refine ev_ci (m_X11_total hok (by first | with_reducible assumption | exact th_R (by with_reducible assumption) | exact mw_R | exact ms_R) (by with_reducible assumption) ?_) ?_
            | omega
            | with_reducible assumption
            | with_reducible rfl
            | refine lpG_nx a 0 0 ?_ ?_ ?_ ?_
            | exact hq2
            | with_reducible refine lp_nx ?_ ?_ ?_ ?_
            | with_reducible refine lp_st ?_ ?_ ?_
            | with_reducible refine ls_c ?_ ?_
            | with_reducible refine vi_c ?_
            | with_reducible refine re_c ?_
            | with_reducible refine vz_c ?_
            | with_reducible refine rz_c ?_
            | exact trivial
            | with_reducible refine And.intro ?_ ?_
            | simp (disch := first | omega | assumption) only [ev_run_c, ev_run_n, ev_fj, ev_stp, ev_lk, ev_fv, ev_as, ev_sz, ev_st1, ev_st2, ev_rm, ev_pk, ev_Jof, ev_go, lv_args, List.map_cons, List.map_nil, List.zip_cons_cons, List.zip_nil_left, List.zip_nil_right, List.nil_append, List.cons_append, ↓reduceIte, reduceCtorEq, Int.reduceToNat, Nat.reduceEqDiff, Nat.reduceAdd, Nat.reduceLT, Nat.reduceLeDiff, Nat.reduceMul, Nat.reduceSub, Value.category, false_implies, true_and, and_true, Bool.false_eq_true, Option.some.injEq, exists_eq_left', Option.toList_some, Option.toList_none, ev_km, ev_k2, ev_k3, ev_k4, ev_k5, ev_l0, ev_l1, sh_1, sh_2, sh_3, sh_4, sh_5, at_X11_writePancake_10, at_X11_writePancake_128, at_X11_writePancake_130, at_X11_writePancake_139, at_X11_writePancake_30, at_X11_writePancake_32, at_X11_writePancake_62, at_X11_writePancake_65, at_X11_writePancake_97, ca_X11_121, ca_X11_195, ca_X11_201, ca_X11_388, ca_X11_411, ca_X11_448, ca_X11_451, cd_X11_writePancake_0, cd_X11_writePancake_10, cd_X11_writePancake_128, cd_X11_writePancake_130, cd_X11_writePancake_139, cd_X11_writePancake_30, cd_X11_writePancake_32, cd_X11_writePancake_62, cd_X11_writePancake_65, cd_X11_writePancake_97, fl_X11_445, ev_b_23, ev_b_44, ev_b_45, ev_b_47, ev_b_48, ev_b_6, ev_b_61, ev_b_63, ev_b_7, no_0, no_1, no_lt, no_le, no_eq, no_lt0, no_ge0, no_gt0, no_le0, no_eq0, no_0eq, no_eqm, no_meq, no_m0, no_mlt, no_mge, no_mgt, no_mm, no_i01, no_i10, no_in, no_or, no_ifm, no_mul, nI_add, no_sub, pk_div, iI_if, nI_clamp, oI_n, oI_s, not_true_eq_false, not_false_eq_true, forall_const, true_implies, false_and, and_false, or_false, false_or, Classical.not_not, true_or, or_true, no_b, no_eq1, eq_self, and_self, sk_301, sk_302, sl_302, sp_301]
            | exact rfl
            | (split <;> omega))
      · have hkn : N (952 + 9 * q + 5) = a := by omega
        rw [hkn] at t8
        have k2 := m_writesByte (μ := th μ 0) (l := T a) (x := 47) hok (by omega) (by omega)
        have k3 := m_X11_total hok (hR (T a ++ [47])) hI (q := q) (by omega)
        have k4 := m_writesNumber (μ := th μ 0) (l := T a ++ [47]) (z := tot N q) hok (by rw [List.length_append, List.length_singleton]; omega) (tot_le hI (by omega))
        rw [t8] at k4
        have es : (pgr R (th μ 0)).1 301 20 = nI R.length := pgr_s
        rw [hkn] at k1
        repeat' (first
          | (with_reducible refine ev_rid ?_; simp (disch := first | omega | assumption) only [ev_run_c, ev_run_n, ev_fj, ev_stp, ev_lk, ev_fv, ev_as, ev_sz, ev_st1, ev_st2, ev_rm, ev_pk, ev_Jof, ev_go, lv_args, List.map_cons, List.map_nil, List.zip_cons_cons, List.zip_nil_left, List.zip_nil_right, List.nil_append, List.cons_append, ↓reduceIte, reduceCtorEq, Int.reduceToNat, Nat.reduceEqDiff, Nat.reduceAdd, Nat.reduceLT, Nat.reduceLeDiff, Nat.reduceMul, Nat.reduceSub, Value.category, false_implies, true_and, and_true, Bool.false_eq_true, Option.some.injEq, exists_eq_left', Option.toList_some, Option.toList_none, ev_km, ev_k2, ev_k3, ev_k4, ev_k5, ev_l0, ev_l1, sh_1, sh_2, sh_3, sh_4, sh_5, at_X11_writePancake_10, at_X11_writePancake_128, at_X11_writePancake_130, at_X11_writePancake_139, at_X11_writePancake_30, at_X11_writePancake_32, at_X11_writePancake_62, at_X11_writePancake_65, at_X11_writePancake_97, ca_X11_121, ca_X11_195, ca_X11_201, ca_X11_388, ca_X11_411, ca_X11_448, ca_X11_451, cd_X11_writePancake_0, cd_X11_writePancake_10, cd_X11_writePancake_128, cd_X11_writePancake_130, cd_X11_writePancake_139, cd_X11_writePancake_30, cd_X11_writePancake_32, cd_X11_writePancake_62, cd_X11_writePancake_65, cd_X11_writePancake_97, fl_X11_445, ev_b_23, ev_b_44, ev_b_45, ev_b_47, ev_b_48, ev_b_6, ev_b_61, ev_b_63, ev_b_7, no_0, no_1, no_lt, no_le, no_eq, no_lt0, no_ge0, no_gt0, no_le0, no_eq0, no_0eq, no_eqm, no_meq, no_m0, no_mlt, no_mge, no_mgt, no_mm, no_i01, no_i10, no_in, no_or, no_ifm, no_mul, nI_add, no_sub, pk_div, iI_if, nI_clamp, oI_n, oI_s, not_true_eq_false, not_false_eq_true, forall_const, true_implies, false_and, and_false, or_false, false_or, Classical.not_not, true_or, or_true, no_b, no_eq1, eq_self, and_self, sk_301, sk_302, sl_302, sp_301, es])
          | (with_reducible refine ev_gid ?_; simp (disch := first | omega | assumption) only [ev_run_c, ev_run_n, ev_fj, ev_stp, ev_lk, ev_fv, ev_as, ev_sz, ev_st1, ev_st2, ev_rm, ev_pk, ev_Jof, ev_go, lv_args, List.map_cons, List.map_nil, List.zip_cons_cons, List.zip_nil_left, List.zip_nil_right, List.nil_append, List.cons_append, ↓reduceIte, reduceCtorEq, Int.reduceToNat, Nat.reduceEqDiff, Nat.reduceAdd, Nat.reduceLT, Nat.reduceLeDiff, Nat.reduceMul, Nat.reduceSub, Value.category, false_implies, true_and, and_true, Bool.false_eq_true, Option.some.injEq, exists_eq_left', Option.toList_some, Option.toList_none, ev_km, ev_k2, ev_k3, ev_k4, ev_k5, ev_l0, ev_l1, sh_1, sh_2, sh_3, sh_4, sh_5, at_X11_writePancake_10, at_X11_writePancake_128, at_X11_writePancake_130, at_X11_writePancake_139, at_X11_writePancake_30, at_X11_writePancake_32, at_X11_writePancake_62, at_X11_writePancake_65, at_X11_writePancake_97, ca_X11_121, ca_X11_195, ca_X11_201, ca_X11_388, ca_X11_411, ca_X11_448, ca_X11_451, cd_X11_writePancake_0, cd_X11_writePancake_10, cd_X11_writePancake_128, cd_X11_writePancake_130, cd_X11_writePancake_139, cd_X11_writePancake_30, cd_X11_writePancake_32, cd_X11_writePancake_62, cd_X11_writePancake_65, cd_X11_writePancake_97, fl_X11_445, ev_b_23, ev_b_44, ev_b_45, ev_b_47, ev_b_48, ev_b_6, ev_b_61, ev_b_63, ev_b_7, no_0, no_1, no_lt, no_le, no_eq, no_lt0, no_ge0, no_gt0, no_le0, no_eq0, no_0eq, no_eqm, no_meq, no_m0, no_mlt, no_mge, no_mgt, no_mm, no_i01, no_i10, no_in, no_or, no_ifm, no_mul, nI_add, no_sub, pk_div, iI_if, nI_clamp, oI_n, oI_s, not_true_eq_false, not_false_eq_true, forall_const, true_implies, false_and, and_false, or_false, false_or, Classical.not_not, true_or, or_true, no_b, no_eq1, eq_self, and_self, sk_301, sk_302, sl_302, sp_301, es])
          | (with_reducible refine And.intro (fun q => ?_) (fun q => ?_) <;> (try simp (disch := first | omega | assumption) only [no_0, no_1, no_lt, no_le, no_eq, no_lt0, no_ge0, no_gt0, no_le0, no_eq0, no_0eq, no_eqm, no_meq, no_m0, no_mlt, no_mge, no_mgt, no_mm, no_i01, no_i10, no_in, no_or, no_ifm, no_mul, nI_add, no_sub, pk_div, iI_if, nI_clamp, oI_n, oI_s, not_true_eq_false, not_false_eq_true, forall_const, true_implies, false_and, and_false, or_false, false_or, Classical.not_not, true_or, or_true, no_b, no_eq1, eq_self, and_self, sk_301, sk_302, sl_302, sp_301, es] at q))
          | (with_reducible refine ev_ci k1 ?_)
          | (with_reducible refine ev_ci k2 ?_)
          | (with_reducible refine ev_ci k3 ?_)
          | (with_reducible refine ev_ci k4 ?_)
          | with_reducible refine ev_ci (m_X11_mayPancake hok (by first | with_reducible assumption | exact th_R (by with_reducible assumption) | exact mw_R | exact ms_R) (by with_reducible assumption) ?_ ?_ _) ?_
          | with_reducible refine ev_ci (m_X11_ofCake hok (by first | exact MR_re (by with_reducible assumption) | exact MR_re mw_R) ?_ ?_) ?_
          | with_reducible refine ev_ci (m_X11_of hok (by first | exact MR_re (by with_reducible assumption) | exact MR_re mw_R) ?_ ?_) ?_
          | with_reducible refine ev_ci (m_X11_isScored hok (by first | exact MR_re (by with_reducible assumption) | exact MR_re mw_R) (by with_reducible assumption) ?_ ?_) ?_
          | with_reducible refine ev_ci (m_X11_total hok (by first | with_reducible assumption | exact th_R (by with_reducible assumption) | exact mw_R | exact ms_R) (by with_reducible assumption) ?_) ?_
          | omega
          | with_reducible assumption
          | with_reducible rfl
          | with_reducible refine lp_nx ?_ ?_ ?_ ?_
          | with_reducible refine lp_st ?_ ?_ ?_
          | with_reducible refine ls_c ?_ ?_
          | with_reducible refine vi_c ?_
          | with_reducible refine re_c ?_
          | with_reducible refine vz_c ?_
          | with_reducible refine rz_c ?_
          | exact trivial
          | with_reducible refine And.intro ?_ ?_
          | simp (disch := first | omega | assumption) only [ev_run_c, ev_run_n, ev_fj, ev_stp, ev_lk, ev_fv, ev_as, ev_sz, ev_st1, ev_st2, ev_rm, ev_pk, ev_Jof, ev_go, lv_args, List.map_cons, List.map_nil, List.zip_cons_cons, List.zip_nil_left, List.zip_nil_right, List.nil_append, List.cons_append, ↓reduceIte, reduceCtorEq, Int.reduceToNat, Nat.reduceEqDiff, Nat.reduceAdd, Nat.reduceLT, Nat.reduceLeDiff, Nat.reduceMul, Nat.reduceSub, Value.category, false_implies, true_and, and_true, Bool.false_eq_true, Option.some.injEq, exists_eq_left', Option.toList_some, Option.toList_none, ev_km, ev_k2, ev_k3, ev_k4, ev_k5, ev_l0, ev_l1, sh_1, sh_2, sh_3, sh_4, sh_5, at_X11_writePancake_10, at_X11_writePancake_128, at_X11_writePancake_130, at_X11_writePancake_139, at_X11_writePancake_30, at_X11_writePancake_32, at_X11_writePancake_62, at_X11_writePancake_65, at_X11_writePancake_97, ca_X11_121, ca_X11_195, ca_X11_201, ca_X11_388, ca_X11_411, ca_X11_448, ca_X11_451, cd_X11_writePancake_0, cd_X11_writePancake_10, cd_X11_writePancake_128, cd_X11_writePancake_130, cd_X11_writePancake_139, cd_X11_writePancake_30, cd_X11_writePancake_32, cd_X11_writePancake_62, cd_X11_writePancake_65, cd_X11_writePancake_97, fl_X11_445, ev_b_23, ev_b_44, ev_b_45, ev_b_47, ev_b_48, ev_b_6, ev_b_61, ev_b_63, ev_b_7, no_0, no_1, no_lt, no_le, no_eq, no_lt0, no_ge0, no_gt0, no_le0, no_eq0, no_0eq, no_eqm, no_meq, no_m0, no_mlt, no_mge, no_mgt, no_mm, no_i01, no_i10, no_in, no_or, no_ifm, no_mul, nI_add, no_sub, pk_div, iI_if, nI_clamp, oI_n, oI_s, not_true_eq_false, not_false_eq_true, forall_const, true_implies, false_and, and_false, or_false, false_or, Classical.not_not, true_or, or_true, no_b, no_eq1, eq_self, and_self, sk_301, sk_302, sl_302, sp_301, es]
          | exact rfl
          | (split <;> omega))
    · have hP : a < N (952 + 9 * q + 5) ∧ b ≤ N (8 + 59 * N (952 + 9 * q + (6 + a)) + 6) := hP
      dsimp only
      rw [at_X11_writePancake_65]
      obtain ⟨hkn, hb⟩ := hP
      have hi := iv_st hI q a (by omega) hkn
      have hl := t2 a b hkn hb
      have s5 := t5 a b
      have s6 := t6 a
      have hpq := (iv_pq hI (N (952 + 9 * q + (6 + a))) q (by omega) (by omega)).2.1
      have hp6 := (iv_p hI (N (952 + 9 * q + (6 + a))) (by omega)).2
      have hnm := (iv_nm hI (N (952 + 9 * q + (6 + a))) b hi).2
      generalize hQ : N (952 + 9 * q + (6 + a)) = i at *
      have k1 := m_X11_of hok (hR (U a b)) (i := i) (w := 6) (by omega) (by omega)
      rcases Nat.lt_or_ge b (N (8 + 59 * i + 6)) with hbn | hbn
      · have hv := hnm hbn
        have k2 := m_X11_of hok (hR (U a b)) (i := i) (w := 7 + b) (by omega) (by omega)
        have k3 := m_writesByte (μ := th μ 0) (l := U a b) (x := N (8 + 59 * i + (7 + b))) hok (by omega) (by omega)
        rw [s5] at k3
        have hq2 : a < N (952 + 9 * q + 5) ∧ b + 1 ≤ N (8 + 59 * N (952 + 9 * q + (6 + a)) + 6) := ⟨hkn, by rw [hQ]; omega⟩
        repeat' (first
          | (with_reducible refine ev_rid ?_; simp (disch := first | omega | assumption) only [ev_run_c, ev_run_n, ev_fj, ev_stp, ev_lk, ev_fv, ev_as, ev_sz, ev_st1, ev_st2, ev_rm, ev_pk, ev_Jof, ev_go, lv_args, List.map_cons, List.map_nil, List.zip_cons_cons, List.zip_nil_left, List.zip_nil_right, List.nil_append, List.cons_append, ↓reduceIte, reduceCtorEq, Int.reduceToNat, Nat.reduceEqDiff, Nat.reduceAdd, Nat.reduceLT, Nat.reduceLeDiff, Nat.reduceMul, Nat.reduceSub, Value.category, false_implies, true_and, and_true, Bool.false_eq_true, Option.some.injEq, exists_eq_left', Option.toList_some, Option.toList_none, ev_km, ev_k2, ev_k3, ev_k4, ev_k5, ev_l0, ev_l1, sh_1, sh_2, sh_3, sh_4, sh_5, at_X11_writePancake_10, at_X11_writePancake_128, at_X11_writePancake_130, at_X11_writePancake_139, at_X11_writePancake_30, at_X11_writePancake_32, at_X11_writePancake_62, at_X11_writePancake_65, at_X11_writePancake_97, ca_X11_121, ca_X11_195, ca_X11_201, ca_X11_388, ca_X11_411, ca_X11_448, ca_X11_451, cd_X11_writePancake_0, cd_X11_writePancake_10, cd_X11_writePancake_128, cd_X11_writePancake_130, cd_X11_writePancake_139, cd_X11_writePancake_30, cd_X11_writePancake_32, cd_X11_writePancake_62, cd_X11_writePancake_65, cd_X11_writePancake_97, fl_X11_445, ev_b_23, ev_b_44, ev_b_45, ev_b_47, ev_b_48, ev_b_6, ev_b_61, ev_b_63, ev_b_7, no_0, no_1, no_lt, no_le, no_eq, no_lt0, no_ge0, no_gt0, no_le0, no_eq0, no_0eq, no_eqm, no_meq, no_m0, no_mlt, no_mge, no_mgt, no_mm, no_i01, no_i10, no_in, no_or, no_ifm, no_mul, nI_add, no_sub, pk_div, iI_if, nI_clamp, oI_n, oI_s, not_true_eq_false, not_false_eq_true, forall_const, true_implies, false_and, and_false, or_false, false_or, Classical.not_not, true_or, or_true, no_b, no_eq1, eq_self, and_self, sk_301, sk_302, sl_302, sp_301])
          | (with_reducible refine ev_gid ?_; simp (disch := first | omega | assumption) only [ev_run_c, ev_run_n, ev_fj, ev_stp, ev_lk, ev_fv, ev_as, ev_sz, ev_st1, ev_st2, ev_rm, ev_pk, ev_Jof, ev_go, lv_args, List.map_cons, List.map_nil, List.zip_cons_cons, List.zip_nil_left, List.zip_nil_right, List.nil_append, List.cons_append, ↓reduceIte, reduceCtorEq, Int.reduceToNat, Nat.reduceEqDiff, Nat.reduceAdd, Nat.reduceLT, Nat.reduceLeDiff, Nat.reduceMul, Nat.reduceSub, Value.category, false_implies, true_and, and_true, Bool.false_eq_true, Option.some.injEq, exists_eq_left', Option.toList_some, Option.toList_none, ev_km, ev_k2, ev_k3, ev_k4, ev_k5, ev_l0, ev_l1, sh_1, sh_2, sh_3, sh_4, sh_5, at_X11_writePancake_10, at_X11_writePancake_128, at_X11_writePancake_130, at_X11_writePancake_139, at_X11_writePancake_30, at_X11_writePancake_32, at_X11_writePancake_62, at_X11_writePancake_65, at_X11_writePancake_97, ca_X11_121, ca_X11_195, ca_X11_201, ca_X11_388, ca_X11_411, ca_X11_448, ca_X11_451, cd_X11_writePancake_0, cd_X11_writePancake_10, cd_X11_writePancake_128, cd_X11_writePancake_130, cd_X11_writePancake_139, cd_X11_writePancake_30, cd_X11_writePancake_32, cd_X11_writePancake_62, cd_X11_writePancake_65, cd_X11_writePancake_97, fl_X11_445, ev_b_23, ev_b_44, ev_b_45, ev_b_47, ev_b_48, ev_b_6, ev_b_61, ev_b_63, ev_b_7, no_0, no_1, no_lt, no_le, no_eq, no_lt0, no_ge0, no_gt0, no_le0, no_eq0, no_0eq, no_eqm, no_meq, no_m0, no_mlt, no_mge, no_mgt, no_mm, no_i01, no_i10, no_in, no_or, no_ifm, no_mul, nI_add, no_sub, pk_div, iI_if, nI_clamp, oI_n, oI_s, not_true_eq_false, not_false_eq_true, forall_const, true_implies, false_and, and_false, or_false, false_or, Classical.not_not, true_or, or_true, no_b, no_eq1, eq_self, and_self, sk_301, sk_302, sl_302, sp_301])
          | (with_reducible refine And.intro (fun q => ?_) (fun q => ?_) <;> (try simp (disch := first | omega | assumption) only [no_0, no_1, no_lt, no_le, no_eq, no_lt0, no_ge0, no_gt0, no_le0, no_eq0, no_0eq, no_eqm, no_meq, no_m0, no_mlt, no_mge, no_mgt, no_mm, no_i01, no_i10, no_in, no_or, no_ifm, no_mul, nI_add, no_sub, pk_div, iI_if, nI_clamp, oI_n, oI_s, not_true_eq_false, not_false_eq_true, forall_const, true_implies, false_and, and_false, or_false, false_or, Classical.not_not, true_or, or_true, no_b, no_eq1, eq_self, and_self, sk_301, sk_302, sl_302, sp_301] at q))
          | (with_reducible refine ev_ci k1 ?_)
          | (with_reducible refine ev_ci k2 ?_)
          | (with_reducible refine ev_ci k3 ?_)
          | with_reducible refine ev_ci (m_X11_mayPancake hok (by first | with_reducible assumption | exact th_R (by with_reducible assumption) | exact mw_R | exact ms_R) (by with_reducible assumption) ?_ ?_ _) ?_
          | with_reducible refine ev_ci (m_X11_ofCake hok (by first | exact MR_re (by with_reducible assumption) | exact MR_re mw_R) ?_ ?_) ?_
          | with_reducible refine ev_ci (m_X11_of hok (by first | exact MR_re (by with_reducible assumption) | exact MR_re mw_R) ?_ ?_) ?_
          | with_reducible refine ev_ci (m_X11_isScored hok (by first | exact MR_re (by with_reducible assumption) | exact MR_re mw_R) (by with_reducible assumption) ?_ ?_) ?_
          | with_reducible refine ev_ci (m_X11_total hok (by first | with_reducible assumption | exact th_R (by with_reducible assumption) | exact mw_R | exact ms_R) (by with_reducible assumption) ?_) ?_
          | omega
          | with_reducible assumption
          | with_reducible rfl
          | refine lpG_nx a (b + 1) 0 ?_ ?_ ?_ ?_
          | exact hq2
          | (rw [hQ])
          | with_reducible refine lp_nx ?_ ?_ ?_ ?_
          | with_reducible refine lp_st ?_ ?_ ?_
          | with_reducible refine ls_c ?_ ?_
          | with_reducible refine vi_c ?_
          | with_reducible refine re_c ?_
          | with_reducible refine vz_c ?_
          | with_reducible refine rz_c ?_
          | exact trivial
          | with_reducible refine And.intro ?_ ?_
          | simp (disch := first | omega | assumption) only [ev_run_c, ev_run_n, ev_fj, ev_stp, ev_lk, ev_fv, ev_as, ev_sz, ev_st1, ev_st2, ev_rm, ev_pk, ev_Jof, ev_go, lv_args, List.map_cons, List.map_nil, List.zip_cons_cons, List.zip_nil_left, List.zip_nil_right, List.nil_append, List.cons_append, ↓reduceIte, reduceCtorEq, Int.reduceToNat, Nat.reduceEqDiff, Nat.reduceAdd, Nat.reduceLT, Nat.reduceLeDiff, Nat.reduceMul, Nat.reduceSub, Value.category, false_implies, true_and, and_true, Bool.false_eq_true, Option.some.injEq, exists_eq_left', Option.toList_some, Option.toList_none, ev_km, ev_k2, ev_k3, ev_k4, ev_k5, ev_l0, ev_l1, sh_1, sh_2, sh_3, sh_4, sh_5, at_X11_writePancake_10, at_X11_writePancake_128, at_X11_writePancake_130, at_X11_writePancake_139, at_X11_writePancake_30, at_X11_writePancake_32, at_X11_writePancake_62, at_X11_writePancake_65, at_X11_writePancake_97, ca_X11_121, ca_X11_195, ca_X11_201, ca_X11_388, ca_X11_411, ca_X11_448, ca_X11_451, cd_X11_writePancake_0, cd_X11_writePancake_10, cd_X11_writePancake_128, cd_X11_writePancake_130, cd_X11_writePancake_139, cd_X11_writePancake_30, cd_X11_writePancake_32, cd_X11_writePancake_62, cd_X11_writePancake_65, cd_X11_writePancake_97, fl_X11_445, ev_b_23, ev_b_44, ev_b_45, ev_b_47, ev_b_48, ev_b_6, ev_b_61, ev_b_63, ev_b_7, no_0, no_1, no_lt, no_le, no_eq, no_lt0, no_ge0, no_gt0, no_le0, no_eq0, no_0eq, no_eqm, no_meq, no_m0, no_mlt, no_mge, no_mgt, no_mm, no_i01, no_i10, no_in, no_or, no_ifm, no_mul, nI_add, no_sub, pk_div, iI_if, nI_clamp, oI_n, oI_s, not_true_eq_false, not_false_eq_true, forall_const, true_implies, false_and, and_false, or_false, false_or, Classical.not_not, true_or, or_true, no_b, no_eq1, eq_self, and_self, sk_301, sk_302, sl_302, sp_301]
          | exact rfl
          | (split <;> omega))
      · have hbn : N (8 + 59 * i + 6) = b := by omega
        rw [hbn] at k1 s6
        have hl2 : (U a b ++ [61]).length < 200 := by rw [List.length_append, List.length_singleton]; omega
        have k2 := m_writesByte (μ := th μ 0) (l := U a b) (x := 61) hok (by omega) (by omega)
        have k3 := m_X11_isScored hok (hR (U a b ++ [61])) hI (i := i) (q := q) (by omega) (by omega)
        have hq2 : a + 1 ≤ N (952 + 9 * q + 5) := hkn
        by_cases c : N (8 + 59 * i + (23 + q)) = 0
        · rw [if_pos c] at k3 s6
          have k4 := m_writesByte (μ := th μ 0) (l := U a b ++ [61]) (x := 63) hok hl2 (by omega)
          rw [s6] at k4
          repeat' (first
            | (with_reducible refine ev_rid ?_; simp (disch := first | omega | assumption) only [ev_run_c, ev_run_n, ev_fj, ev_stp, ev_lk, ev_fv, ev_as, ev_sz, ev_st1, ev_st2, ev_rm, ev_pk, ev_Jof, ev_go, lv_args, List.map_cons, List.map_nil, List.zip_cons_cons, List.zip_nil_left, List.zip_nil_right, List.nil_append, List.cons_append, ↓reduceIte, reduceCtorEq, Int.reduceToNat, Nat.reduceEqDiff, Nat.reduceAdd, Nat.reduceLT, Nat.reduceLeDiff, Nat.reduceMul, Nat.reduceSub, Value.category, false_implies, true_and, and_true, Bool.false_eq_true, Option.some.injEq, exists_eq_left', Option.toList_some, Option.toList_none, ev_km, ev_k2, ev_k3, ev_k4, ev_k5, ev_l0, ev_l1, sh_1, sh_2, sh_3, sh_4, sh_5, at_X11_writePancake_10, at_X11_writePancake_128, at_X11_writePancake_130, at_X11_writePancake_139, at_X11_writePancake_30, at_X11_writePancake_32, at_X11_writePancake_62, at_X11_writePancake_65, at_X11_writePancake_97, ca_X11_121, ca_X11_195, ca_X11_201, ca_X11_388, ca_X11_411, ca_X11_448, ca_X11_451, cd_X11_writePancake_0, cd_X11_writePancake_10, cd_X11_writePancake_128, cd_X11_writePancake_130, cd_X11_writePancake_139, cd_X11_writePancake_30, cd_X11_writePancake_32, cd_X11_writePancake_62, cd_X11_writePancake_65, cd_X11_writePancake_97, fl_X11_445, ev_b_23, ev_b_44, ev_b_45, ev_b_47, ev_b_48, ev_b_6, ev_b_61, ev_b_63, ev_b_7, no_0, no_1, no_lt, no_le, no_eq, no_lt0, no_ge0, no_gt0, no_le0, no_eq0, no_0eq, no_eqm, no_meq, no_m0, no_mlt, no_mge, no_mgt, no_mm, no_i01, no_i10, no_in, no_or, no_ifm, no_mul, nI_add, no_sub, pk_div, iI_if, nI_clamp, oI_n, oI_s, not_true_eq_false, not_false_eq_true, forall_const, true_implies, false_and, and_false, or_false, false_or, Classical.not_not, true_or, or_true, no_b, no_eq1, eq_self, and_self, sk_301, sk_302, sl_302, sp_301])
            | (with_reducible refine ev_gid ?_; simp (disch := first | omega | assumption) only [ev_run_c, ev_run_n, ev_fj, ev_stp, ev_lk, ev_fv, ev_as, ev_sz, ev_st1, ev_st2, ev_rm, ev_pk, ev_Jof, ev_go, lv_args, List.map_cons, List.map_nil, List.zip_cons_cons, List.zip_nil_left, List.zip_nil_right, List.nil_append, List.cons_append, ↓reduceIte, reduceCtorEq, Int.reduceToNat, Nat.reduceEqDiff, Nat.reduceAdd, Nat.reduceLT, Nat.reduceLeDiff, Nat.reduceMul, Nat.reduceSub, Value.category, false_implies, true_and, and_true, Bool.false_eq_true, Option.some.injEq, exists_eq_left', Option.toList_some, Option.toList_none, ev_km, ev_k2, ev_k3, ev_k4, ev_k5, ev_l0, ev_l1, sh_1, sh_2, sh_3, sh_4, sh_5, at_X11_writePancake_10, at_X11_writePancake_128, at_X11_writePancake_130, at_X11_writePancake_139, at_X11_writePancake_30, at_X11_writePancake_32, at_X11_writePancake_62, at_X11_writePancake_65, at_X11_writePancake_97, ca_X11_121, ca_X11_195, ca_X11_201, ca_X11_388, ca_X11_411, ca_X11_448, ca_X11_451, cd_X11_writePancake_0, cd_X11_writePancake_10, cd_X11_writePancake_128, cd_X11_writePancake_130, cd_X11_writePancake_139, cd_X11_writePancake_30, cd_X11_writePancake_32, cd_X11_writePancake_62, cd_X11_writePancake_65, cd_X11_writePancake_97, fl_X11_445, ev_b_23, ev_b_44, ev_b_45, ev_b_47, ev_b_48, ev_b_6, ev_b_61, ev_b_63, ev_b_7, no_0, no_1, no_lt, no_le, no_eq, no_lt0, no_ge0, no_gt0, no_le0, no_eq0, no_0eq, no_eqm, no_meq, no_m0, no_mlt, no_mge, no_mgt, no_mm, no_i01, no_i10, no_in, no_or, no_ifm, no_mul, nI_add, no_sub, pk_div, iI_if, nI_clamp, oI_n, oI_s, not_true_eq_false, not_false_eq_true, forall_const, true_implies, false_and, and_false, or_false, false_or, Classical.not_not, true_or, or_true, no_b, no_eq1, eq_self, and_self, sk_301, sk_302, sl_302, sp_301])
            | (with_reducible refine And.intro (fun q => ?_) (fun q => ?_) <;> (try simp (disch := first | omega | assumption) only [no_0, no_1, no_lt, no_le, no_eq, no_lt0, no_ge0, no_gt0, no_le0, no_eq0, no_0eq, no_eqm, no_meq, no_m0, no_mlt, no_mge, no_mgt, no_mm, no_i01, no_i10, no_in, no_or, no_ifm, no_mul, nI_add, no_sub, pk_div, iI_if, nI_clamp, oI_n, oI_s, not_true_eq_false, not_false_eq_true, forall_const, true_implies, false_and, and_false, or_false, false_or, Classical.not_not, true_or, or_true, no_b, no_eq1, eq_self, and_self, sk_301, sk_302, sl_302, sp_301] at q))
            | (with_reducible refine ev_ci k1 ?_)
            | (with_reducible refine ev_ci k2 ?_)
            | (with_reducible refine ev_ci k3 ?_)
            | (with_reducible refine ev_ci k4 ?_)
            | with_reducible refine ev_ci (m_X11_mayPancake hok (by first | with_reducible assumption | exact th_R (by with_reducible assumption) | exact mw_R | exact ms_R) (by with_reducible assumption) ?_ ?_ _) ?_
            | with_reducible refine ev_ci (m_X11_ofCake hok (by first | exact MR_re (by with_reducible assumption) | exact MR_re mw_R) ?_ ?_) ?_
            | with_reducible refine ev_ci (m_X11_of hok (by first | exact MR_re (by with_reducible assumption) | exact MR_re mw_R) ?_ ?_) ?_
            | with_reducible refine ev_ci (m_X11_isScored hok (by first | exact MR_re (by with_reducible assumption) | exact MR_re mw_R) (by with_reducible assumption) ?_ ?_) ?_
            | with_reducible refine ev_ci (m_X11_total hok (by first | with_reducible assumption | exact th_R (by with_reducible assumption) | exact mw_R | exact ms_R) (by with_reducible assumption) ?_) ?_
            | omega
            | with_reducible assumption
            | with_reducible rfl
            | refine lpG_nx (a + 1) 0 0 ?_ ?_ ?_ ?_
            | exact hq2
            | with_reducible refine lp_nx ?_ ?_ ?_ ?_
            | with_reducible refine lp_st ?_ ?_ ?_
            | with_reducible refine ls_c ?_ ?_
            | with_reducible refine vi_c ?_
            | with_reducible refine re_c ?_
            | with_reducible refine vz_c ?_
            | with_reducible refine rz_c ?_
            | exact trivial
            | with_reducible refine And.intro ?_ ?_
            | simp (disch := first | omega | assumption) only [ev_run_c, ev_run_n, ev_fj, ev_stp, ev_lk, ev_fv, ev_as, ev_sz, ev_st1, ev_st2, ev_rm, ev_pk, ev_Jof, ev_go, lv_args, List.map_cons, List.map_nil, List.zip_cons_cons, List.zip_nil_left, List.zip_nil_right, List.nil_append, List.cons_append, ↓reduceIte, reduceCtorEq, Int.reduceToNat, Nat.reduceEqDiff, Nat.reduceAdd, Nat.reduceLT, Nat.reduceLeDiff, Nat.reduceMul, Nat.reduceSub, Value.category, false_implies, true_and, and_true, Bool.false_eq_true, Option.some.injEq, exists_eq_left', Option.toList_some, Option.toList_none, ev_km, ev_k2, ev_k3, ev_k4, ev_k5, ev_l0, ev_l1, sh_1, sh_2, sh_3, sh_4, sh_5, at_X11_writePancake_10, at_X11_writePancake_128, at_X11_writePancake_130, at_X11_writePancake_139, at_X11_writePancake_30, at_X11_writePancake_32, at_X11_writePancake_62, at_X11_writePancake_65, at_X11_writePancake_97, ca_X11_121, ca_X11_195, ca_X11_201, ca_X11_388, ca_X11_411, ca_X11_448, ca_X11_451, cd_X11_writePancake_0, cd_X11_writePancake_10, cd_X11_writePancake_128, cd_X11_writePancake_130, cd_X11_writePancake_139, cd_X11_writePancake_30, cd_X11_writePancake_32, cd_X11_writePancake_62, cd_X11_writePancake_65, cd_X11_writePancake_97, fl_X11_445, ev_b_23, ev_b_44, ev_b_45, ev_b_47, ev_b_48, ev_b_6, ev_b_61, ev_b_63, ev_b_7, no_0, no_1, no_lt, no_le, no_eq, no_lt0, no_ge0, no_gt0, no_le0, no_eq0, no_0eq, no_eqm, no_meq, no_m0, no_mlt, no_mge, no_mgt, no_mm, no_i01, no_i10, no_in, no_or, no_ifm, no_mul, nI_add, no_sub, pk_div, iI_if, nI_clamp, oI_n, oI_s, not_true_eq_false, not_false_eq_true, forall_const, true_implies, false_and, and_false, or_false, false_or, Classical.not_not, true_or, or_true, no_b, no_eq1, eq_self, and_self, sk_301, sk_302, sl_302, sp_301]
            | exact rfl
            | (split <;> omega))
        · rw [if_neg c] at k3 s6
          have k5 := m_X11_of hok (hR (U a b ++ [61])) (i := i) (w := 23 + q) (by omega) (by omega)
          have k4 := m_writesByte (μ := th μ 0) (l := U a b ++ [61]) (x := 48 + N (8 + 59 * i + (23 + q))) hok hl2 (by omega)
          rw [s6] at k4
          repeat' (first
            | (with_reducible refine ev_rid ?_; simp (disch := first | omega | assumption) only [ev_run_c, ev_run_n, ev_fj, ev_stp, ev_lk, ev_fv, ev_as, ev_sz, ev_st1, ev_st2, ev_rm, ev_pk, ev_Jof, ev_go, lv_args, List.map_cons, List.map_nil, List.zip_cons_cons, List.zip_nil_left, List.zip_nil_right, List.nil_append, List.cons_append, ↓reduceIte, reduceCtorEq, Int.reduceToNat, Nat.reduceEqDiff, Nat.reduceAdd, Nat.reduceLT, Nat.reduceLeDiff, Nat.reduceMul, Nat.reduceSub, Value.category, false_implies, true_and, and_true, Bool.false_eq_true, Option.some.injEq, exists_eq_left', Option.toList_some, Option.toList_none, ev_km, ev_k2, ev_k3, ev_k4, ev_k5, ev_l0, ev_l1, sh_1, sh_2, sh_3, sh_4, sh_5, at_X11_writePancake_10, at_X11_writePancake_128, at_X11_writePancake_130, at_X11_writePancake_139, at_X11_writePancake_30, at_X11_writePancake_32, at_X11_writePancake_62, at_X11_writePancake_65, at_X11_writePancake_97, ca_X11_121, ca_X11_195, ca_X11_201, ca_X11_388, ca_X11_411, ca_X11_448, ca_X11_451, cd_X11_writePancake_0, cd_X11_writePancake_10, cd_X11_writePancake_128, cd_X11_writePancake_130, cd_X11_writePancake_139, cd_X11_writePancake_30, cd_X11_writePancake_32, cd_X11_writePancake_62, cd_X11_writePancake_65, cd_X11_writePancake_97, fl_X11_445, ev_b_23, ev_b_44, ev_b_45, ev_b_47, ev_b_48, ev_b_6, ev_b_61, ev_b_63, ev_b_7, no_0, no_1, no_lt, no_le, no_eq, no_lt0, no_ge0, no_gt0, no_le0, no_eq0, no_0eq, no_eqm, no_meq, no_m0, no_mlt, no_mge, no_mgt, no_mm, no_i01, no_i10, no_in, no_or, no_ifm, no_mul, nI_add, no_sub, pk_div, iI_if, nI_clamp, oI_n, oI_s, not_true_eq_false, not_false_eq_true, forall_const, true_implies, false_and, and_false, or_false, false_or, Classical.not_not, true_or, or_true, no_b, no_eq1, eq_self, and_self, sk_301, sk_302, sl_302, sp_301])
            | (with_reducible refine ev_gid ?_; simp (disch := first | omega | assumption) only [ev_run_c, ev_run_n, ev_fj, ev_stp, ev_lk, ev_fv, ev_as, ev_sz, ev_st1, ev_st2, ev_rm, ev_pk, ev_Jof, ev_go, lv_args, List.map_cons, List.map_nil, List.zip_cons_cons, List.zip_nil_left, List.zip_nil_right, List.nil_append, List.cons_append, ↓reduceIte, reduceCtorEq, Int.reduceToNat, Nat.reduceEqDiff, Nat.reduceAdd, Nat.reduceLT, Nat.reduceLeDiff, Nat.reduceMul, Nat.reduceSub, Value.category, false_implies, true_and, and_true, Bool.false_eq_true, Option.some.injEq, exists_eq_left', Option.toList_some, Option.toList_none, ev_km, ev_k2, ev_k3, ev_k4, ev_k5, ev_l0, ev_l1, sh_1, sh_2, sh_3, sh_4, sh_5, at_X11_writePancake_10, at_X11_writePancake_128, at_X11_writePancake_130, at_X11_writePancake_139, at_X11_writePancake_30, at_X11_writePancake_32, at_X11_writePancake_62, at_X11_writePancake_65, at_X11_writePancake_97, ca_X11_121, ca_X11_195, ca_X11_201, ca_X11_388, ca_X11_411, ca_X11_448, ca_X11_451, cd_X11_writePancake_0, cd_X11_writePancake_10, cd_X11_writePancake_128, cd_X11_writePancake_130, cd_X11_writePancake_139, cd_X11_writePancake_30, cd_X11_writePancake_32, cd_X11_writePancake_62, cd_X11_writePancake_65, cd_X11_writePancake_97, fl_X11_445, ev_b_23, ev_b_44, ev_b_45, ev_b_47, ev_b_48, ev_b_6, ev_b_61, ev_b_63, ev_b_7, no_0, no_1, no_lt, no_le, no_eq, no_lt0, no_ge0, no_gt0, no_le0, no_eq0, no_0eq, no_eqm, no_meq, no_m0, no_mlt, no_mge, no_mgt, no_mm, no_i01, no_i10, no_in, no_or, no_ifm, no_mul, nI_add, no_sub, pk_div, iI_if, nI_clamp, oI_n, oI_s, not_true_eq_false, not_false_eq_true, forall_const, true_implies, false_and, and_false, or_false, false_or, Classical.not_not, true_or, or_true, no_b, no_eq1, eq_self, and_self, sk_301, sk_302, sl_302, sp_301])
            | (with_reducible refine And.intro (fun q => ?_) (fun q => ?_) <;> (try simp (disch := first | omega | assumption) only [no_0, no_1, no_lt, no_le, no_eq, no_lt0, no_ge0, no_gt0, no_le0, no_eq0, no_0eq, no_eqm, no_meq, no_m0, no_mlt, no_mge, no_mgt, no_mm, no_i01, no_i10, no_in, no_or, no_ifm, no_mul, nI_add, no_sub, pk_div, iI_if, nI_clamp, oI_n, oI_s, not_true_eq_false, not_false_eq_true, forall_const, true_implies, false_and, and_false, or_false, false_or, Classical.not_not, true_or, or_true, no_b, no_eq1, eq_self, and_self, sk_301, sk_302, sl_302, sp_301] at q))
            | (with_reducible refine ev_ci k1 ?_)
            | (with_reducible refine ev_ci k2 ?_)
            | (with_reducible refine ev_ci k3 ?_)
            | (with_reducible refine ev_ci k4 ?_)
            | (with_reducible refine ev_ci k5 ?_)
            | with_reducible refine ev_ci (m_X11_mayPancake hok (by first | with_reducible assumption | exact th_R (by with_reducible assumption) | exact mw_R | exact ms_R) (by with_reducible assumption) ?_ ?_ _) ?_
            | with_reducible refine ev_ci (m_X11_ofCake hok (by first | exact MR_re (by with_reducible assumption) | exact MR_re mw_R) ?_ ?_) ?_
            | with_reducible refine ev_ci (m_X11_of hok (by first | exact MR_re (by with_reducible assumption) | exact MR_re mw_R) ?_ ?_) ?_
            | with_reducible refine ev_ci (m_X11_isScored hok (by first | exact MR_re (by with_reducible assumption) | exact MR_re mw_R) (by with_reducible assumption) ?_ ?_) ?_
            | with_reducible refine ev_ci (m_X11_total hok (by first | with_reducible assumption | exact th_R (by with_reducible assumption) | exact mw_R | exact ms_R) (by with_reducible assumption) ?_) ?_
            | omega
            | with_reducible assumption
            | with_reducible rfl
            | refine lpG_nx (a + 1) 0 0 ?_ ?_ ?_ ?_
            | exact hq2
            | with_reducible refine lp_nx ?_ ?_ ?_ ?_
            | with_reducible refine lp_st ?_ ?_ ?_
            | with_reducible refine ls_c ?_ ?_
            | with_reducible refine vi_c ?_
            | with_reducible refine re_c ?_
            | with_reducible refine vz_c ?_
            | with_reducible refine rz_c ?_
            | exact trivial
            | with_reducible refine And.intro ?_ ?_
            | simp (disch := first | omega | assumption) only [ev_run_c, ev_run_n, ev_fj, ev_stp, ev_lk, ev_fv, ev_as, ev_sz, ev_st1, ev_st2, ev_rm, ev_pk, ev_Jof, ev_go, lv_args, List.map_cons, List.map_nil, List.zip_cons_cons, List.zip_nil_left, List.zip_nil_right, List.nil_append, List.cons_append, ↓reduceIte, reduceCtorEq, Int.reduceToNat, Nat.reduceEqDiff, Nat.reduceAdd, Nat.reduceLT, Nat.reduceLeDiff, Nat.reduceMul, Nat.reduceSub, Value.category, false_implies, true_and, and_true, Bool.false_eq_true, Option.some.injEq, exists_eq_left', Option.toList_some, Option.toList_none, ev_km, ev_k2, ev_k3, ev_k4, ev_k5, ev_l0, ev_l1, sh_1, sh_2, sh_3, sh_4, sh_5, at_X11_writePancake_10, at_X11_writePancake_128, at_X11_writePancake_130, at_X11_writePancake_139, at_X11_writePancake_30, at_X11_writePancake_32, at_X11_writePancake_62, at_X11_writePancake_65, at_X11_writePancake_97, ca_X11_121, ca_X11_195, ca_X11_201, ca_X11_388, ca_X11_411, ca_X11_448, ca_X11_451, cd_X11_writePancake_0, cd_X11_writePancake_10, cd_X11_writePancake_128, cd_X11_writePancake_130, cd_X11_writePancake_139, cd_X11_writePancake_30, cd_X11_writePancake_32, cd_X11_writePancake_62, cd_X11_writePancake_65, cd_X11_writePancake_97, fl_X11_445, ev_b_23, ev_b_44, ev_b_45, ev_b_47, ev_b_48, ev_b_6, ev_b_61, ev_b_63, ev_b_7, no_0, no_1, no_lt, no_le, no_eq, no_lt0, no_ge0, no_gt0, no_le0, no_eq0, no_0eq, no_eqm, no_meq, no_m0, no_mlt, no_mge, no_mgt, no_mm, no_i01, no_i10, no_in, no_or, no_ifm, no_mul, nI_add, no_sub, pk_div, iI_if, nI_clamp, oI_n, oI_s, not_true_eq_false, not_false_eq_true, forall_const, true_implies, false_and, and_false, or_false, false_or, Classical.not_not, true_or, or_true, no_b, no_eq1, eq_self, and_self, sk_301, sk_302, sl_302, sp_301]
            | exact rfl
            | (split <;> omega))
  · rw [at_X11_writePancake_0]
    have k0 := m_X11_mayPancake hok hN he he2 (by omega) (nI q)
    rw [hc] at k0
    have k1 := oc [] 5 (by omega)
    have ep : (ev_up (th μ 0).1 301 20 (nI 0), (th μ 0).2) = pgr [] (th μ 0) := pgr_0
    by_cases z : N (952 + 9 * q + 5) = 0
    · rw [if_pos z] at t7
      have k3 := m_writesByte (μ := th μ 0) (l := []) (x := 45) hok (Nat.lt_of_lt_of_le (show 0 < 1 by decide) (by decide)) (by omega)
      have e1 : [] ++ [45] = T 0 := t7.symm
      rw [e1] at k3
      repeat' (first
        | (with_reducible refine ev_rid ?_; simp (disch := first | omega | assumption) only [ev_run_c, ev_run_n, ev_fj, ev_stp, ev_lk, ev_fv, ev_as, ev_sz, ev_st1, ev_st2, ev_rm, ev_pk, ev_Jof, ev_go, lv_args, List.map_cons, List.map_nil, List.zip_cons_cons, List.zip_nil_left, List.zip_nil_right, List.nil_append, List.cons_append, ↓reduceIte, reduceCtorEq, Int.reduceToNat, Nat.reduceEqDiff, Nat.reduceAdd, Nat.reduceLT, Nat.reduceLeDiff, Nat.reduceMul, Nat.reduceSub, Value.category, false_implies, true_and, and_true, Bool.false_eq_true, Option.some.injEq, exists_eq_left', Option.toList_some, Option.toList_none, ev_km, ev_k2, ev_k3, ev_k4, ev_k5, ev_l0, ev_l1, sh_1, sh_2, sh_3, sh_4, sh_5, at_X11_writePancake_10, at_X11_writePancake_128, at_X11_writePancake_130, at_X11_writePancake_139, at_X11_writePancake_30, at_X11_writePancake_32, at_X11_writePancake_62, at_X11_writePancake_65, at_X11_writePancake_97, ca_X11_121, ca_X11_195, ca_X11_201, ca_X11_388, ca_X11_411, ca_X11_448, ca_X11_451, cd_X11_writePancake_0, cd_X11_writePancake_10, cd_X11_writePancake_128, cd_X11_writePancake_130, cd_X11_writePancake_139, cd_X11_writePancake_30, cd_X11_writePancake_32, cd_X11_writePancake_62, cd_X11_writePancake_65, cd_X11_writePancake_97, fl_X11_445, ev_b_23, ev_b_44, ev_b_45, ev_b_47, ev_b_48, ev_b_6, ev_b_61, ev_b_63, ev_b_7, no_0, no_1, no_lt, no_le, no_eq, no_lt0, no_ge0, no_gt0, no_le0, no_eq0, no_0eq, no_eqm, no_meq, no_m0, no_mlt, no_mge, no_mgt, no_mm, no_i01, no_i10, no_in, no_or, no_ifm, no_mul, nI_add, no_sub, pk_div, iI_if, nI_clamp, oI_n, oI_s, not_true_eq_false, not_false_eq_true, forall_const, true_implies, false_and, and_false, or_false, false_or, Classical.not_not, true_or, or_true, no_b, no_eq1, eq_self, and_self, sk_301, sk_302, sl_302, sp_301, ep, z])
        | (with_reducible refine ev_gid ?_; simp (disch := first | omega | assumption) only [ev_run_c, ev_run_n, ev_fj, ev_stp, ev_lk, ev_fv, ev_as, ev_sz, ev_st1, ev_st2, ev_rm, ev_pk, ev_Jof, ev_go, lv_args, List.map_cons, List.map_nil, List.zip_cons_cons, List.zip_nil_left, List.zip_nil_right, List.nil_append, List.cons_append, ↓reduceIte, reduceCtorEq, Int.reduceToNat, Nat.reduceEqDiff, Nat.reduceAdd, Nat.reduceLT, Nat.reduceLeDiff, Nat.reduceMul, Nat.reduceSub, Value.category, false_implies, true_and, and_true, Bool.false_eq_true, Option.some.injEq, exists_eq_left', Option.toList_some, Option.toList_none, ev_km, ev_k2, ev_k3, ev_k4, ev_k5, ev_l0, ev_l1, sh_1, sh_2, sh_3, sh_4, sh_5, at_X11_writePancake_10, at_X11_writePancake_128, at_X11_writePancake_130, at_X11_writePancake_139, at_X11_writePancake_30, at_X11_writePancake_32, at_X11_writePancake_62, at_X11_writePancake_65, at_X11_writePancake_97, ca_X11_121, ca_X11_195, ca_X11_201, ca_X11_388, ca_X11_411, ca_X11_448, ca_X11_451, cd_X11_writePancake_0, cd_X11_writePancake_10, cd_X11_writePancake_128, cd_X11_writePancake_130, cd_X11_writePancake_139, cd_X11_writePancake_30, cd_X11_writePancake_32, cd_X11_writePancake_62, cd_X11_writePancake_65, cd_X11_writePancake_97, fl_X11_445, ev_b_23, ev_b_44, ev_b_45, ev_b_47, ev_b_48, ev_b_6, ev_b_61, ev_b_63, ev_b_7, no_0, no_1, no_lt, no_le, no_eq, no_lt0, no_ge0, no_gt0, no_le0, no_eq0, no_0eq, no_eqm, no_meq, no_m0, no_mlt, no_mge, no_mgt, no_mm, no_i01, no_i10, no_in, no_or, no_ifm, no_mul, nI_add, no_sub, pk_div, iI_if, nI_clamp, oI_n, oI_s, not_true_eq_false, not_false_eq_true, forall_const, true_implies, false_and, and_false, or_false, false_or, Classical.not_not, true_or, or_true, no_b, no_eq1, eq_self, and_self, sk_301, sk_302, sl_302, sp_301, ep, z])
        | (with_reducible refine And.intro (fun q => ?_) (fun q => ?_) <;> (try simp (disch := first | omega | assumption) only [no_0, no_1, no_lt, no_le, no_eq, no_lt0, no_ge0, no_gt0, no_le0, no_eq0, no_0eq, no_eqm, no_meq, no_m0, no_mlt, no_mge, no_mgt, no_mm, no_i01, no_i10, no_in, no_or, no_ifm, no_mul, nI_add, no_sub, pk_div, iI_if, nI_clamp, oI_n, oI_s, not_true_eq_false, not_false_eq_true, forall_const, true_implies, false_and, and_false, or_false, false_or, Classical.not_not, true_or, or_true, no_b, no_eq1, eq_self, and_self, sk_301, sk_302, sl_302, sp_301, ep, z] at q))
        | (with_reducible refine ev_ci k0 ?_)
        | (with_reducible refine ev_ci k1 ?_)
        | (with_reducible refine ev_ci k3 ?_)
        | with_reducible refine ev_ci (m_X11_mayPancake hok (by first | with_reducible assumption | exact th_R (by with_reducible assumption) | exact mw_R | exact ms_R) (by with_reducible assumption) ?_ ?_ _) ?_
        | with_reducible refine ev_ci (m_X11_ofCake hok (by first | exact MR_re (by with_reducible assumption) | exact MR_re mw_R) ?_ ?_) ?_
        | with_reducible refine ev_ci (m_X11_of hok (by first | exact MR_re (by with_reducible assumption) | exact MR_re mw_R) ?_ ?_) ?_
        | with_reducible refine ev_ci (m_X11_isScored hok (by first | exact MR_re (by with_reducible assumption) | exact MR_re mw_R) (by with_reducible assumption) ?_ ?_) ?_
        | with_reducible refine ev_ci (m_X11_total hok (by first | with_reducible assumption | exact th_R (by with_reducible assumption) | exact mw_R | exact ms_R) (by with_reducible assumption) ?_) ?_
        | omega
        | with_reducible assumption
        | with_reducible rfl
        | refine lpG_st 0 0 0 ?_ ?_ ?_
        | with_reducible refine lp_nx ?_ ?_ ?_ ?_
        | with_reducible refine lp_st ?_ ?_ ?_
        | with_reducible refine ls_c ?_ ?_
        | with_reducible refine vi_c ?_
        | with_reducible refine re_c ?_
        | with_reducible refine vz_c ?_
        | with_reducible refine rz_c ?_
        | exact trivial
        | with_reducible refine And.intro ?_ ?_
        | simp (disch := first | omega | assumption) only [ev_run_c, ev_run_n, ev_fj, ev_stp, ev_lk, ev_fv, ev_as, ev_sz, ev_st1, ev_st2, ev_rm, ev_pk, ev_Jof, ev_go, lv_args, List.map_cons, List.map_nil, List.zip_cons_cons, List.zip_nil_left, List.zip_nil_right, List.nil_append, List.cons_append, ↓reduceIte, reduceCtorEq, Int.reduceToNat, Nat.reduceEqDiff, Nat.reduceAdd, Nat.reduceLT, Nat.reduceLeDiff, Nat.reduceMul, Nat.reduceSub, Value.category, false_implies, true_and, and_true, Bool.false_eq_true, Option.some.injEq, exists_eq_left', Option.toList_some, Option.toList_none, ev_km, ev_k2, ev_k3, ev_k4, ev_k5, ev_l0, ev_l1, sh_1, sh_2, sh_3, sh_4, sh_5, at_X11_writePancake_10, at_X11_writePancake_128, at_X11_writePancake_130, at_X11_writePancake_139, at_X11_writePancake_30, at_X11_writePancake_32, at_X11_writePancake_62, at_X11_writePancake_65, at_X11_writePancake_97, ca_X11_121, ca_X11_195, ca_X11_201, ca_X11_388, ca_X11_411, ca_X11_448, ca_X11_451, cd_X11_writePancake_0, cd_X11_writePancake_10, cd_X11_writePancake_128, cd_X11_writePancake_130, cd_X11_writePancake_139, cd_X11_writePancake_30, cd_X11_writePancake_32, cd_X11_writePancake_62, cd_X11_writePancake_65, cd_X11_writePancake_97, fl_X11_445, ev_b_23, ev_b_44, ev_b_45, ev_b_47, ev_b_48, ev_b_6, ev_b_61, ev_b_63, ev_b_7, no_0, no_1, no_lt, no_le, no_eq, no_lt0, no_ge0, no_gt0, no_le0, no_eq0, no_0eq, no_eqm, no_meq, no_m0, no_mlt, no_mge, no_mgt, no_mm, no_i01, no_i10, no_in, no_or, no_ifm, no_mul, nI_add, no_sub, pk_div, iI_if, nI_clamp, oI_n, oI_s, not_true_eq_false, not_false_eq_true, forall_const, true_implies, false_and, and_false, or_false, false_or, Classical.not_not, true_or, or_true, no_b, no_eq1, eq_self, and_self, sk_301, sk_302, sl_302, sp_301, ep, z]
        | exact rfl
        | (split <;> omega))
    · rw [if_neg z] at t7
      repeat' (first
        | (with_reducible refine ev_rid ?_; simp (disch := first | omega | assumption) only [ev_run_c, ev_run_n, ev_fj, ev_stp, ev_lk, ev_fv, ev_as, ev_sz, ev_st1, ev_st2, ev_rm, ev_pk, ev_Jof, ev_go, lv_args, List.map_cons, List.map_nil, List.zip_cons_cons, List.zip_nil_left, List.zip_nil_right, List.nil_append, List.cons_append, ↓reduceIte, reduceCtorEq, Int.reduceToNat, Nat.reduceEqDiff, Nat.reduceAdd, Nat.reduceLT, Nat.reduceLeDiff, Nat.reduceMul, Nat.reduceSub, Value.category, false_implies, true_and, and_true, Bool.false_eq_true, Option.some.injEq, exists_eq_left', Option.toList_some, Option.toList_none, ev_km, ev_k2, ev_k3, ev_k4, ev_k5, ev_l0, ev_l1, sh_1, sh_2, sh_3, sh_4, sh_5, at_X11_writePancake_10, at_X11_writePancake_128, at_X11_writePancake_130, at_X11_writePancake_139, at_X11_writePancake_30, at_X11_writePancake_32, at_X11_writePancake_62, at_X11_writePancake_65, at_X11_writePancake_97, ca_X11_121, ca_X11_195, ca_X11_201, ca_X11_388, ca_X11_411, ca_X11_448, ca_X11_451, cd_X11_writePancake_0, cd_X11_writePancake_10, cd_X11_writePancake_128, cd_X11_writePancake_130, cd_X11_writePancake_139, cd_X11_writePancake_30, cd_X11_writePancake_32, cd_X11_writePancake_62, cd_X11_writePancake_65, cd_X11_writePancake_97, fl_X11_445, ev_b_23, ev_b_44, ev_b_45, ev_b_47, ev_b_48, ev_b_6, ev_b_61, ev_b_63, ev_b_7, no_0, no_1, no_lt, no_le, no_eq, no_lt0, no_ge0, no_gt0, no_le0, no_eq0, no_0eq, no_eqm, no_meq, no_m0, no_mlt, no_mge, no_mgt, no_mm, no_i01, no_i10, no_in, no_or, no_ifm, no_mul, nI_add, no_sub, pk_div, iI_if, nI_clamp, oI_n, oI_s, not_true_eq_false, not_false_eq_true, forall_const, true_implies, false_and, and_false, or_false, false_or, Classical.not_not, true_or, or_true, no_b, no_eq1, eq_self, and_self, sk_301, sk_302, sl_302, sp_301, ep, z])
        | (with_reducible refine ev_gid ?_; simp (disch := first | omega | assumption) only [ev_run_c, ev_run_n, ev_fj, ev_stp, ev_lk, ev_fv, ev_as, ev_sz, ev_st1, ev_st2, ev_rm, ev_pk, ev_Jof, ev_go, lv_args, List.map_cons, List.map_nil, List.zip_cons_cons, List.zip_nil_left, List.zip_nil_right, List.nil_append, List.cons_append, ↓reduceIte, reduceCtorEq, Int.reduceToNat, Nat.reduceEqDiff, Nat.reduceAdd, Nat.reduceLT, Nat.reduceLeDiff, Nat.reduceMul, Nat.reduceSub, Value.category, false_implies, true_and, and_true, Bool.false_eq_true, Option.some.injEq, exists_eq_left', Option.toList_some, Option.toList_none, ev_km, ev_k2, ev_k3, ev_k4, ev_k5, ev_l0, ev_l1, sh_1, sh_2, sh_3, sh_4, sh_5, at_X11_writePancake_10, at_X11_writePancake_128, at_X11_writePancake_130, at_X11_writePancake_139, at_X11_writePancake_30, at_X11_writePancake_32, at_X11_writePancake_62, at_X11_writePancake_65, at_X11_writePancake_97, ca_X11_121, ca_X11_195, ca_X11_201, ca_X11_388, ca_X11_411, ca_X11_448, ca_X11_451, cd_X11_writePancake_0, cd_X11_writePancake_10, cd_X11_writePancake_128, cd_X11_writePancake_130, cd_X11_writePancake_139, cd_X11_writePancake_30, cd_X11_writePancake_32, cd_X11_writePancake_62, cd_X11_writePancake_65, cd_X11_writePancake_97, fl_X11_445, ev_b_23, ev_b_44, ev_b_45, ev_b_47, ev_b_48, ev_b_6, ev_b_61, ev_b_63, ev_b_7, no_0, no_1, no_lt, no_le, no_eq, no_lt0, no_ge0, no_gt0, no_le0, no_eq0, no_0eq, no_eqm, no_meq, no_m0, no_mlt, no_mge, no_mgt, no_mm, no_i01, no_i10, no_in, no_or, no_ifm, no_mul, nI_add, no_sub, pk_div, iI_if, nI_clamp, oI_n, oI_s, not_true_eq_false, not_false_eq_true, forall_const, true_implies, false_and, and_false, or_false, false_or, Classical.not_not, true_or, or_true, no_b, no_eq1, eq_self, and_self, sk_301, sk_302, sl_302, sp_301, ep, z])
        | (with_reducible refine And.intro (fun q => ?_) (fun q => ?_) <;> (try simp (disch := first | omega | assumption) only [no_0, no_1, no_lt, no_le, no_eq, no_lt0, no_ge0, no_gt0, no_le0, no_eq0, no_0eq, no_eqm, no_meq, no_m0, no_mlt, no_mge, no_mgt, no_mm, no_i01, no_i10, no_in, no_or, no_ifm, no_mul, nI_add, no_sub, pk_div, iI_if, nI_clamp, oI_n, oI_s, not_true_eq_false, not_false_eq_true, forall_const, true_implies, false_and, and_false, or_false, false_or, Classical.not_not, true_or, or_true, no_b, no_eq1, eq_self, and_self, sk_301, sk_302, sl_302, sp_301, ep, z] at q))
        | (with_reducible refine ev_ci k0 ?_)
        | (with_reducible refine ev_ci k1 ?_)
        | with_reducible refine ev_ci (m_X11_mayPancake hok (by first | with_reducible assumption | exact th_R (by with_reducible assumption) | exact mw_R | exact ms_R) (by with_reducible assumption) ?_ ?_ _) ?_
        | with_reducible refine ev_ci (m_X11_ofCake hok (by first | exact MR_re (by with_reducible assumption) | exact MR_re mw_R) ?_ ?_) ?_
        | with_reducible refine ev_ci (m_X11_of hok (by first | exact MR_re (by with_reducible assumption) | exact MR_re mw_R) ?_ ?_) ?_
        | with_reducible refine ev_ci (m_X11_isScored hok (by first | exact MR_re (by with_reducible assumption) | exact MR_re mw_R) (by with_reducible assumption) ?_ ?_) ?_
        | with_reducible refine ev_ci (m_X11_total hok (by first | with_reducible assumption | exact th_R (by with_reducible assumption) | exact mw_R | exact ms_R) (by with_reducible assumption) ?_) ?_
        | omega
        | with_reducible assumption
        | with_reducible rfl
        | refine lpG_st 0 0 0 ?_ ?_ ?_
        | (rw [t7])
        | with_reducible refine lp_nx ?_ ?_ ?_ ?_
        | with_reducible refine lp_st ?_ ?_ ?_
        | with_reducible refine ls_c ?_ ?_
        | with_reducible refine vi_c ?_
        | with_reducible refine re_c ?_
        | with_reducible refine vz_c ?_
        | with_reducible refine rz_c ?_
        | exact trivial
        | with_reducible refine And.intro ?_ ?_
        | simp (disch := first | omega | assumption) only [ev_run_c, ev_run_n, ev_fj, ev_stp, ev_lk, ev_fv, ev_as, ev_sz, ev_st1, ev_st2, ev_rm, ev_pk, ev_Jof, ev_go, lv_args, List.map_cons, List.map_nil, List.zip_cons_cons, List.zip_nil_left, List.zip_nil_right, List.nil_append, List.cons_append, ↓reduceIte, reduceCtorEq, Int.reduceToNat, Nat.reduceEqDiff, Nat.reduceAdd, Nat.reduceLT, Nat.reduceLeDiff, Nat.reduceMul, Nat.reduceSub, Value.category, false_implies, true_and, and_true, Bool.false_eq_true, Option.some.injEq, exists_eq_left', Option.toList_some, Option.toList_none, ev_km, ev_k2, ev_k3, ev_k4, ev_k5, ev_l0, ev_l1, sh_1, sh_2, sh_3, sh_4, sh_5, at_X11_writePancake_10, at_X11_writePancake_128, at_X11_writePancake_130, at_X11_writePancake_139, at_X11_writePancake_30, at_X11_writePancake_32, at_X11_writePancake_62, at_X11_writePancake_65, at_X11_writePancake_97, ca_X11_121, ca_X11_195, ca_X11_201, ca_X11_388, ca_X11_411, ca_X11_448, ca_X11_451, cd_X11_writePancake_0, cd_X11_writePancake_10, cd_X11_writePancake_128, cd_X11_writePancake_130, cd_X11_writePancake_139, cd_X11_writePancake_30, cd_X11_writePancake_32, cd_X11_writePancake_62, cd_X11_writePancake_65, cd_X11_writePancake_97, fl_X11_445, ev_b_23, ev_b_44, ev_b_45, ev_b_47, ev_b_48, ev_b_6, ev_b_61, ev_b_63, ev_b_7, no_0, no_1, no_lt, no_le, no_eq, no_lt0, no_ge0, no_gt0, no_le0, no_eq0, no_0eq, no_eqm, no_meq, no_m0, no_mlt, no_mge, no_mgt, no_mm, no_i01, no_i10, no_in, no_or, no_ifm, no_mul, nI_add, no_sub, pk_div, iI_if, nI_clamp, oI_n, oI_s, not_true_eq_false, not_false_eq_true, forall_const, true_implies, false_and, and_false, or_false, false_or, Classical.not_not, true_or, or_true, no_b, no_eq1, eq_self, and_self, sk_301, sk_302, sl_302, sp_301, ep, z]
        | exact rfl
        | (split <;> omega))
theorem m_writeBidsR (hok : ev_ok sh_S G) (hN : MR N μ) (hI : INV N) {e : Nat} (he : μ.1 301 6 = nI e) (he2 : e < 2) {i : Nat} (hi : i < N 0) (hc : c1 e (N 0) (nI i) = 0) : ev_T sh_S G mi_X11_writeBids [.ref 301, .int (nI i)] μ (.inl (some (.int (nI (bdt N i (N 1)).length)), pgr (bdt N i (N 1)) (th μ 0))) := by
  have hh := iv_h hI
  have hR : ∀ l, MR N (pgr l (th μ 0)) := fun l => pgr_R (th_R hN)
  have hn1 : ∀ l, (pgr l (th μ 0)).1 302 1 = nI (N 1) := fun l => hR l 1 (by omega)
  refine ev_tri1 hok (okM_X11_writeBids 0) (Nat.le_of_ble_eq_true rfl) 17 [0, 1, 2] (N 1) 400 (fun k => [.ref 301, .int (nI i), .int (nI k)]) (fun k => pgr (bdt N i k) (th μ 0)) (fun _ => True) ?_ ?_
  · intro k hk _
    rw [at_X11_writeBids_17]
    have hb := bdt_le (N := N) (i := i) (k := k)
    have hk1 := hn1 (bdt N i k)
    rcases Nat.lt_or_ge k (N 1) with hkn | hkn
    · have hq := (iv_pq hI i k (by omega) (by omega)).1
      have h3 := (iv_q hI k (by omega)).2.2
      have k2 := m_X11_of hok (hR (bdt N i k)) (i := i) (w := 13 + k) (by omega) (by omega)
      have k3 := m_writesByte (μ := th μ 0) (l := bdt N i k) (x := 48 + N (8 + 59 * i + (13 + k))) hok (by omega) (by omega)
      have k4 := m_X11_seatOf hok (hR (bdt N i k ++ [48 + N (8 + 59 * i + (13 + k))])) (i := i) (q := k) (by omega) (by omega) h3 (iv_st31 hI (by omega))
      have hl : (bdt N i k ++ [48 + N (8 + 59 * i + (13 + k))]).length < 200 := by rw [List.length_append, List.length_singleton]; omega
      by_cases c : sP N k i < N (952 + 9 * k + 5)
      · rw [if_pos c] at k4
        have k5 := m_writesByte (μ := th μ 0) (x := 42) hok hl (by omega)
        have e : bdt N i k ++ [48 + N (8 + 59 * i + (13 + k))] ++ [42] = bdt N i (k + 1) := by
          show _ = bdt N i k ++ [48 + N (8 + 59 * i + (13 + k))] ++ (if sP N k i < N (952 + 9 * k + 5) then [42] else if cf N i k = 0 then [] else [33])
          rw [if_pos c]
        rw [e] at k5
        repeat' (first
          | (with_reducible refine ev_rid ?_; simp (disch := first | omega | assumption) only [ev_run_c, ev_run_n, ev_fj, ev_stp, ev_lk, ev_fv, ev_as, ev_sz, ev_st1, ev_st2, ev_rm, ev_pk, ev_Jof, ev_go, lv_args, List.map_cons, List.map_nil, List.zip_cons_cons, List.zip_nil_left, List.zip_nil_right, List.nil_append, List.cons_append, ↓reduceIte, reduceCtorEq, Int.reduceToNat, Nat.reduceEqDiff, Nat.reduceAdd, Nat.reduceLT, Nat.reduceLeDiff, Nat.reduceMul, Nat.reduceSub, Value.category, false_implies, true_and, and_true, Bool.false_eq_true, Option.some.injEq, exists_eq_left', Option.toList_some, Option.toList_none, ev_km, ev_k2, ev_k3, ev_k4, ev_k5, ev_l0, ev_l1, sh_1, sh_2, sh_3, sh_4, sh_5, at_X11_writeBids_10, at_X11_writeBids_17, at_X11_writeBids_62, at_X11_writeBids_77, at_X11_writeBids_83, ca_X11_121, ca_X11_180, ca_X11_329, ca_X11_414, ca_X11_448, cd_X11_writeBids_0, cd_X11_writeBids_10, cd_X11_writeBids_17, cd_X11_writeBids_62, cd_X11_writeBids_77, cd_X11_writeBids_83, fl_X11_445, fl_X11_9, ev_b_13, ev_b_33, ev_b_42, ev_b_48, no_0, no_1, no_lt, no_le, no_eq, no_lt0, no_ge0, no_gt0, no_le0, no_eq0, no_0eq, no_eqm, no_meq, no_m0, no_mlt, no_mge, no_mgt, no_mm, no_i01, no_i10, no_in, no_or, no_ifm, no_mul, nI_add, no_sub, pk_div, iI_if, nI_clamp, oI_n, oI_s, not_true_eq_false, not_false_eq_true, forall_const, true_implies, false_and, and_false, or_false, false_or, Classical.not_not, true_or, or_true, no_b, no_eq1, eq_self, and_self, sk_301, sk_302, sl_302, sp_301, hk1])
          | (with_reducible refine ev_gid ?_; simp (disch := first | omega | assumption) only [ev_run_c, ev_run_n, ev_fj, ev_stp, ev_lk, ev_fv, ev_as, ev_sz, ev_st1, ev_st2, ev_rm, ev_pk, ev_Jof, ev_go, lv_args, List.map_cons, List.map_nil, List.zip_cons_cons, List.zip_nil_left, List.zip_nil_right, List.nil_append, List.cons_append, ↓reduceIte, reduceCtorEq, Int.reduceToNat, Nat.reduceEqDiff, Nat.reduceAdd, Nat.reduceLT, Nat.reduceLeDiff, Nat.reduceMul, Nat.reduceSub, Value.category, false_implies, true_and, and_true, Bool.false_eq_true, Option.some.injEq, exists_eq_left', Option.toList_some, Option.toList_none, ev_km, ev_k2, ev_k3, ev_k4, ev_k5, ev_l0, ev_l1, sh_1, sh_2, sh_3, sh_4, sh_5, at_X11_writeBids_10, at_X11_writeBids_17, at_X11_writeBids_62, at_X11_writeBids_77, at_X11_writeBids_83, ca_X11_121, ca_X11_180, ca_X11_329, ca_X11_414, ca_X11_448, cd_X11_writeBids_0, cd_X11_writeBids_10, cd_X11_writeBids_17, cd_X11_writeBids_62, cd_X11_writeBids_77, cd_X11_writeBids_83, fl_X11_445, fl_X11_9, ev_b_13, ev_b_33, ev_b_42, ev_b_48, no_0, no_1, no_lt, no_le, no_eq, no_lt0, no_ge0, no_gt0, no_le0, no_eq0, no_0eq, no_eqm, no_meq, no_m0, no_mlt, no_mge, no_mgt, no_mm, no_i01, no_i10, no_in, no_or, no_ifm, no_mul, nI_add, no_sub, pk_div, iI_if, nI_clamp, oI_n, oI_s, not_true_eq_false, not_false_eq_true, forall_const, true_implies, false_and, and_false, or_false, false_or, Classical.not_not, true_or, or_true, no_b, no_eq1, eq_self, and_self, sk_301, sk_302, sl_302, sp_301, hk1])
          | (with_reducible refine And.intro (fun q => ?_) (fun q => ?_) <;> (try simp (disch := first | omega | assumption) only [no_0, no_1, no_lt, no_le, no_eq, no_lt0, no_ge0, no_gt0, no_le0, no_eq0, no_0eq, no_eqm, no_meq, no_m0, no_mlt, no_mge, no_mgt, no_mm, no_i01, no_i10, no_in, no_or, no_ifm, no_mul, nI_add, no_sub, pk_div, iI_if, nI_clamp, oI_n, oI_s, not_true_eq_false, not_false_eq_true, forall_const, true_implies, false_and, and_false, or_false, false_or, Classical.not_not, true_or, or_true, no_b, no_eq1, eq_self, and_self, sk_301, sk_302, sl_302, sp_301, hk1] at q))
          | (with_reducible refine ev_ci k2 ?_)
          | (with_reducible refine ev_ci k3 ?_)
          | (with_reducible refine ev_ci k4 ?_)
          | (with_reducible refine ev_ci k5 ?_)
          | with_reducible refine ev_ci (m_X11_mayPerson hok (by first | with_reducible assumption | exact th_R (by with_reducible assumption) | exact mw_R | exact ms_R) (by with_reducible assumption) ?_ ?_ _) ?_
          | with_reducible refine ev_ci (m_X11_of hok (by first | exact MR_re (by with_reducible assumption) | exact MR_re mw_R) ?_ ?_) ?_
          | with_reducible refine ev_ci (m_X11_seatOf hok (by first | exact MR_re (by with_reducible assumption) | exact MR_re mw_R) ?_ ?_ ?_ ?_) ?_
          | with_reducible refine ev_ci (m_X11_conflictOf hok (by first | with_reducible assumption | exact th_R (by with_reducible assumption) | exact mw_R | exact ms_R) (by with_reducible assumption) ?_ ?_) ?_
          | omega
          | with_reducible assumption
          | with_reducible rfl
          | with_reducible refine lp_nx ?_ ?_ ?_ ?_
          | with_reducible refine lp_st ?_ ?_ ?_
          | with_reducible refine ls_c ?_ ?_
          | with_reducible refine vi_c ?_
          | with_reducible refine re_c ?_
          | with_reducible refine vz_c ?_
          | with_reducible refine rz_c ?_
          | exact trivial
          | with_reducible refine And.intro ?_ ?_
          | simp (disch := first | omega | assumption) only [ev_run_c, ev_run_n, ev_fj, ev_stp, ev_lk, ev_fv, ev_as, ev_sz, ev_st1, ev_st2, ev_rm, ev_pk, ev_Jof, ev_go, lv_args, List.map_cons, List.map_nil, List.zip_cons_cons, List.zip_nil_left, List.zip_nil_right, List.nil_append, List.cons_append, ↓reduceIte, reduceCtorEq, Int.reduceToNat, Nat.reduceEqDiff, Nat.reduceAdd, Nat.reduceLT, Nat.reduceLeDiff, Nat.reduceMul, Nat.reduceSub, Value.category, false_implies, true_and, and_true, Bool.false_eq_true, Option.some.injEq, exists_eq_left', Option.toList_some, Option.toList_none, ev_km, ev_k2, ev_k3, ev_k4, ev_k5, ev_l0, ev_l1, sh_1, sh_2, sh_3, sh_4, sh_5, at_X11_writeBids_10, at_X11_writeBids_17, at_X11_writeBids_62, at_X11_writeBids_77, at_X11_writeBids_83, ca_X11_121, ca_X11_180, ca_X11_329, ca_X11_414, ca_X11_448, cd_X11_writeBids_0, cd_X11_writeBids_10, cd_X11_writeBids_17, cd_X11_writeBids_62, cd_X11_writeBids_77, cd_X11_writeBids_83, fl_X11_445, fl_X11_9, ev_b_13, ev_b_33, ev_b_42, ev_b_48, no_0, no_1, no_lt, no_le, no_eq, no_lt0, no_ge0, no_gt0, no_le0, no_eq0, no_0eq, no_eqm, no_meq, no_m0, no_mlt, no_mge, no_mgt, no_mm, no_i01, no_i10, no_in, no_or, no_ifm, no_mul, nI_add, no_sub, pk_div, iI_if, nI_clamp, oI_n, oI_s, not_true_eq_false, not_false_eq_true, forall_const, true_implies, false_and, and_false, or_false, false_or, Classical.not_not, true_or, or_true, no_b, no_eq1, eq_self, and_self, sk_301, sk_302, sl_302, sp_301, hk1]
          | exact rfl
          | (split <;> omega))
      · rw [if_neg c] at k4
        have k6 := m_X11_conflictOf hok (hR (bdt N i k ++ [48 + N (8 + 59 * i + (13 + k))])) hI (i := i) (q := k) (by omega) (by omega)
        by_cases d : cf N i k = 0
        · have e : bdt N i k ++ [48 + N (8 + 59 * i + (13 + k))] = bdt N i (k + 1) := by
            show _ = bdt N i k ++ [48 + N (8 + 59 * i + (13 + k))] ++ (if sP N k i < N (952 + 9 * k + 5) then [42] else if cf N i k = 0 then [] else [33])
            rw [if_neg c, if_pos d, List.append_nil]
          rw [e] at k3 k4 k6
          rw [d] at k6
          repeat' (first
            | (with_reducible refine ev_rid ?_; simp (disch := first | omega | assumption) only [ev_run_c, ev_run_n, ev_fj, ev_stp, ev_lk, ev_fv, ev_as, ev_sz, ev_st1, ev_st2, ev_rm, ev_pk, ev_Jof, ev_go, lv_args, List.map_cons, List.map_nil, List.zip_cons_cons, List.zip_nil_left, List.zip_nil_right, List.nil_append, List.cons_append, ↓reduceIte, reduceCtorEq, Int.reduceToNat, Nat.reduceEqDiff, Nat.reduceAdd, Nat.reduceLT, Nat.reduceLeDiff, Nat.reduceMul, Nat.reduceSub, Value.category, false_implies, true_and, and_true, Bool.false_eq_true, Option.some.injEq, exists_eq_left', Option.toList_some, Option.toList_none, ev_km, ev_k2, ev_k3, ev_k4, ev_k5, ev_l0, ev_l1, sh_1, sh_2, sh_3, sh_4, sh_5, at_X11_writeBids_10, at_X11_writeBids_17, at_X11_writeBids_62, at_X11_writeBids_77, at_X11_writeBids_83, ca_X11_121, ca_X11_180, ca_X11_329, ca_X11_414, ca_X11_448, cd_X11_writeBids_0, cd_X11_writeBids_10, cd_X11_writeBids_17, cd_X11_writeBids_62, cd_X11_writeBids_77, cd_X11_writeBids_83, fl_X11_445, fl_X11_9, ev_b_13, ev_b_33, ev_b_42, ev_b_48, no_0, no_1, no_lt, no_le, no_eq, no_lt0, no_ge0, no_gt0, no_le0, no_eq0, no_0eq, no_eqm, no_meq, no_m0, no_mlt, no_mge, no_mgt, no_mm, no_i01, no_i10, no_in, no_or, no_ifm, no_mul, nI_add, no_sub, pk_div, iI_if, nI_clamp, oI_n, oI_s, not_true_eq_false, not_false_eq_true, forall_const, true_implies, false_and, and_false, or_false, false_or, Classical.not_not, true_or, or_true, no_b, no_eq1, eq_self, and_self, sk_301, sk_302, sl_302, sp_301, hk1])
            | (with_reducible refine ev_gid ?_; simp (disch := first | omega | assumption) only [ev_run_c, ev_run_n, ev_fj, ev_stp, ev_lk, ev_fv, ev_as, ev_sz, ev_st1, ev_st2, ev_rm, ev_pk, ev_Jof, ev_go, lv_args, List.map_cons, List.map_nil, List.zip_cons_cons, List.zip_nil_left, List.zip_nil_right, List.nil_append, List.cons_append, ↓reduceIte, reduceCtorEq, Int.reduceToNat, Nat.reduceEqDiff, Nat.reduceAdd, Nat.reduceLT, Nat.reduceLeDiff, Nat.reduceMul, Nat.reduceSub, Value.category, false_implies, true_and, and_true, Bool.false_eq_true, Option.some.injEq, exists_eq_left', Option.toList_some, Option.toList_none, ev_km, ev_k2, ev_k3, ev_k4, ev_k5, ev_l0, ev_l1, sh_1, sh_2, sh_3, sh_4, sh_5, at_X11_writeBids_10, at_X11_writeBids_17, at_X11_writeBids_62, at_X11_writeBids_77, at_X11_writeBids_83, ca_X11_121, ca_X11_180, ca_X11_329, ca_X11_414, ca_X11_448, cd_X11_writeBids_0, cd_X11_writeBids_10, cd_X11_writeBids_17, cd_X11_writeBids_62, cd_X11_writeBids_77, cd_X11_writeBids_83, fl_X11_445, fl_X11_9, ev_b_13, ev_b_33, ev_b_42, ev_b_48, no_0, no_1, no_lt, no_le, no_eq, no_lt0, no_ge0, no_gt0, no_le0, no_eq0, no_0eq, no_eqm, no_meq, no_m0, no_mlt, no_mge, no_mgt, no_mm, no_i01, no_i10, no_in, no_or, no_ifm, no_mul, nI_add, no_sub, pk_div, iI_if, nI_clamp, oI_n, oI_s, not_true_eq_false, not_false_eq_true, forall_const, true_implies, false_and, and_false, or_false, false_or, Classical.not_not, true_or, or_true, no_b, no_eq1, eq_self, and_self, sk_301, sk_302, sl_302, sp_301, hk1])
            | (with_reducible refine And.intro (fun q => ?_) (fun q => ?_) <;> (try simp (disch := first | omega | assumption) only [no_0, no_1, no_lt, no_le, no_eq, no_lt0, no_ge0, no_gt0, no_le0, no_eq0, no_0eq, no_eqm, no_meq, no_m0, no_mlt, no_mge, no_mgt, no_mm, no_i01, no_i10, no_in, no_or, no_ifm, no_mul, nI_add, no_sub, pk_div, iI_if, nI_clamp, oI_n, oI_s, not_true_eq_false, not_false_eq_true, forall_const, true_implies, false_and, and_false, or_false, false_or, Classical.not_not, true_or, or_true, no_b, no_eq1, eq_self, and_self, sk_301, sk_302, sl_302, sp_301, hk1] at q))
            | (with_reducible refine ev_ci k2 ?_)
            | (with_reducible refine ev_ci k3 ?_)
            | (with_reducible refine ev_ci k4 ?_)
            | (with_reducible refine ev_ci k6 ?_)
            | with_reducible refine ev_ci (m_X11_mayPerson hok (by first | with_reducible assumption | exact th_R (by with_reducible assumption) | exact mw_R | exact ms_R) (by with_reducible assumption) ?_ ?_ _) ?_
            | with_reducible refine ev_ci (m_X11_of hok (by first | exact MR_re (by with_reducible assumption) | exact MR_re mw_R) ?_ ?_) ?_
            | with_reducible refine ev_ci (m_X11_seatOf hok (by first | exact MR_re (by with_reducible assumption) | exact MR_re mw_R) ?_ ?_ ?_ ?_) ?_
            | with_reducible refine ev_ci (m_X11_conflictOf hok (by first | with_reducible assumption | exact th_R (by with_reducible assumption) | exact mw_R | exact ms_R) (by with_reducible assumption) ?_ ?_) ?_
            | omega
            | with_reducible assumption
            | with_reducible rfl
            | with_reducible refine lp_nx ?_ ?_ ?_ ?_
            | with_reducible refine lp_st ?_ ?_ ?_
            | with_reducible refine ls_c ?_ ?_
            | with_reducible refine vi_c ?_
            | with_reducible refine re_c ?_
            | with_reducible refine vz_c ?_
            | with_reducible refine rz_c ?_
            | exact trivial
            | with_reducible refine And.intro ?_ ?_
            | simp (disch := first | omega | assumption) only [ev_run_c, ev_run_n, ev_fj, ev_stp, ev_lk, ev_fv, ev_as, ev_sz, ev_st1, ev_st2, ev_rm, ev_pk, ev_Jof, ev_go, lv_args, List.map_cons, List.map_nil, List.zip_cons_cons, List.zip_nil_left, List.zip_nil_right, List.nil_append, List.cons_append, ↓reduceIte, reduceCtorEq, Int.reduceToNat, Nat.reduceEqDiff, Nat.reduceAdd, Nat.reduceLT, Nat.reduceLeDiff, Nat.reduceMul, Nat.reduceSub, Value.category, false_implies, true_and, and_true, Bool.false_eq_true, Option.some.injEq, exists_eq_left', Option.toList_some, Option.toList_none, ev_km, ev_k2, ev_k3, ev_k4, ev_k5, ev_l0, ev_l1, sh_1, sh_2, sh_3, sh_4, sh_5, at_X11_writeBids_10, at_X11_writeBids_17, at_X11_writeBids_62, at_X11_writeBids_77, at_X11_writeBids_83, ca_X11_121, ca_X11_180, ca_X11_329, ca_X11_414, ca_X11_448, cd_X11_writeBids_0, cd_X11_writeBids_10, cd_X11_writeBids_17, cd_X11_writeBids_62, cd_X11_writeBids_77, cd_X11_writeBids_83, fl_X11_445, fl_X11_9, ev_b_13, ev_b_33, ev_b_42, ev_b_48, no_0, no_1, no_lt, no_le, no_eq, no_lt0, no_ge0, no_gt0, no_le0, no_eq0, no_0eq, no_eqm, no_meq, no_m0, no_mlt, no_mge, no_mgt, no_mm, no_i01, no_i10, no_in, no_or, no_ifm, no_mul, nI_add, no_sub, pk_div, iI_if, nI_clamp, oI_n, oI_s, not_true_eq_false, not_false_eq_true, forall_const, true_implies, false_and, and_false, or_false, false_or, Classical.not_not, true_or, or_true, no_b, no_eq1, eq_self, and_self, sk_301, sk_302, sl_302, sp_301, hk1]
            | exact rfl
            | (split <;> omega))
        · have k5 := m_writesByte (μ := th μ 0) (x := 33) hok hl (by omega)
          have e : bdt N i k ++ [48 + N (8 + 59 * i + (13 + k))] ++ [33] = bdt N i (k + 1) := by
            show _ = bdt N i k ++ [48 + N (8 + 59 * i + (13 + k))] ++ (if sP N k i < N (952 + 9 * k + 5) then [42] else if cf N i k = 0 then [] else [33])
            rw [if_neg c, if_neg d]
          rw [e] at k5
          have hc : cf N i k < 100 := by have := cf_le N i k; omega
          repeat' (first
            | (with_reducible refine ev_rid ?_; simp (disch := first | omega | assumption) only [ev_run_c, ev_run_n, ev_fj, ev_stp, ev_lk, ev_fv, ev_as, ev_sz, ev_st1, ev_st2, ev_rm, ev_pk, ev_Jof, ev_go, lv_args, List.map_cons, List.map_nil, List.zip_cons_cons, List.zip_nil_left, List.zip_nil_right, List.nil_append, List.cons_append, ↓reduceIte, reduceCtorEq, Int.reduceToNat, Nat.reduceEqDiff, Nat.reduceAdd, Nat.reduceLT, Nat.reduceLeDiff, Nat.reduceMul, Nat.reduceSub, Value.category, false_implies, true_and, and_true, Bool.false_eq_true, Option.some.injEq, exists_eq_left', Option.toList_some, Option.toList_none, ev_km, ev_k2, ev_k3, ev_k4, ev_k5, ev_l0, ev_l1, sh_1, sh_2, sh_3, sh_4, sh_5, at_X11_writeBids_10, at_X11_writeBids_17, at_X11_writeBids_62, at_X11_writeBids_77, at_X11_writeBids_83, ca_X11_121, ca_X11_180, ca_X11_329, ca_X11_414, ca_X11_448, cd_X11_writeBids_0, cd_X11_writeBids_10, cd_X11_writeBids_17, cd_X11_writeBids_62, cd_X11_writeBids_77, cd_X11_writeBids_83, fl_X11_445, fl_X11_9, ev_b_13, ev_b_33, ev_b_42, ev_b_48, no_0, no_1, no_lt, no_le, no_eq, no_lt0, no_ge0, no_gt0, no_le0, no_eq0, no_0eq, no_eqm, no_meq, no_m0, no_mlt, no_mge, no_mgt, no_mm, no_i01, no_i10, no_in, no_or, no_ifm, no_mul, nI_add, no_sub, pk_div, iI_if, nI_clamp, oI_n, oI_s, not_true_eq_false, not_false_eq_true, forall_const, true_implies, false_and, and_false, or_false, false_or, Classical.not_not, true_or, or_true, no_b, no_eq1, eq_self, and_self, sk_301, sk_302, sl_302, sp_301, hk1, d])
            | (with_reducible refine ev_gid ?_; simp (disch := first | omega | assumption) only [ev_run_c, ev_run_n, ev_fj, ev_stp, ev_lk, ev_fv, ev_as, ev_sz, ev_st1, ev_st2, ev_rm, ev_pk, ev_Jof, ev_go, lv_args, List.map_cons, List.map_nil, List.zip_cons_cons, List.zip_nil_left, List.zip_nil_right, List.nil_append, List.cons_append, ↓reduceIte, reduceCtorEq, Int.reduceToNat, Nat.reduceEqDiff, Nat.reduceAdd, Nat.reduceLT, Nat.reduceLeDiff, Nat.reduceMul, Nat.reduceSub, Value.category, false_implies, true_and, and_true, Bool.false_eq_true, Option.some.injEq, exists_eq_left', Option.toList_some, Option.toList_none, ev_km, ev_k2, ev_k3, ev_k4, ev_k5, ev_l0, ev_l1, sh_1, sh_2, sh_3, sh_4, sh_5, at_X11_writeBids_10, at_X11_writeBids_17, at_X11_writeBids_62, at_X11_writeBids_77, at_X11_writeBids_83, ca_X11_121, ca_X11_180, ca_X11_329, ca_X11_414, ca_X11_448, cd_X11_writeBids_0, cd_X11_writeBids_10, cd_X11_writeBids_17, cd_X11_writeBids_62, cd_X11_writeBids_77, cd_X11_writeBids_83, fl_X11_445, fl_X11_9, ev_b_13, ev_b_33, ev_b_42, ev_b_48, no_0, no_1, no_lt, no_le, no_eq, no_lt0, no_ge0, no_gt0, no_le0, no_eq0, no_0eq, no_eqm, no_meq, no_m0, no_mlt, no_mge, no_mgt, no_mm, no_i01, no_i10, no_in, no_or, no_ifm, no_mul, nI_add, no_sub, pk_div, iI_if, nI_clamp, oI_n, oI_s, not_true_eq_false, not_false_eq_true, forall_const, true_implies, false_and, and_false, or_false, false_or, Classical.not_not, true_or, or_true, no_b, no_eq1, eq_self, and_self, sk_301, sk_302, sl_302, sp_301, hk1, d])
            | (with_reducible refine And.intro (fun q => ?_) (fun q => ?_) <;> (try simp (disch := first | omega | assumption) only [no_0, no_1, no_lt, no_le, no_eq, no_lt0, no_ge0, no_gt0, no_le0, no_eq0, no_0eq, no_eqm, no_meq, no_m0, no_mlt, no_mge, no_mgt, no_mm, no_i01, no_i10, no_in, no_or, no_ifm, no_mul, nI_add, no_sub, pk_div, iI_if, nI_clamp, oI_n, oI_s, not_true_eq_false, not_false_eq_true, forall_const, true_implies, false_and, and_false, or_false, false_or, Classical.not_not, true_or, or_true, no_b, no_eq1, eq_self, and_self, sk_301, sk_302, sl_302, sp_301, hk1, d] at q))
            | (with_reducible refine ev_ci k2 ?_)
            | (with_reducible refine ev_ci k3 ?_)
            | (with_reducible refine ev_ci k4 ?_)
            | (with_reducible refine ev_ci k6 ?_)
            | (with_reducible refine ev_ci k5 ?_)
            | with_reducible refine ev_ci (m_X11_mayPerson hok (by first | with_reducible assumption | exact th_R (by with_reducible assumption) | exact mw_R | exact ms_R) (by with_reducible assumption) ?_ ?_ _) ?_
            | with_reducible refine ev_ci (m_X11_of hok (by first | exact MR_re (by with_reducible assumption) | exact MR_re mw_R) ?_ ?_) ?_
            | with_reducible refine ev_ci (m_X11_seatOf hok (by first | exact MR_re (by with_reducible assumption) | exact MR_re mw_R) ?_ ?_ ?_ ?_) ?_
            | with_reducible refine ev_ci (m_X11_conflictOf hok (by first | with_reducible assumption | exact th_R (by with_reducible assumption) | exact mw_R | exact ms_R) (by with_reducible assumption) ?_ ?_) ?_
            | omega
            | with_reducible assumption
            | with_reducible rfl
            | with_reducible refine lp_nx ?_ ?_ ?_ ?_
            | with_reducible refine lp_st ?_ ?_ ?_
            | with_reducible refine ls_c ?_ ?_
            | with_reducible refine vi_c ?_
            | with_reducible refine re_c ?_
            | with_reducible refine vz_c ?_
            | with_reducible refine rz_c ?_
            | exact trivial
            | with_reducible refine And.intro ?_ ?_
            | simp (disch := first | omega | assumption) only [ev_run_c, ev_run_n, ev_fj, ev_stp, ev_lk, ev_fv, ev_as, ev_sz, ev_st1, ev_st2, ev_rm, ev_pk, ev_Jof, ev_go, lv_args, List.map_cons, List.map_nil, List.zip_cons_cons, List.zip_nil_left, List.zip_nil_right, List.nil_append, List.cons_append, ↓reduceIte, reduceCtorEq, Int.reduceToNat, Nat.reduceEqDiff, Nat.reduceAdd, Nat.reduceLT, Nat.reduceLeDiff, Nat.reduceMul, Nat.reduceSub, Value.category, false_implies, true_and, and_true, Bool.false_eq_true, Option.some.injEq, exists_eq_left', Option.toList_some, Option.toList_none, ev_km, ev_k2, ev_k3, ev_k4, ev_k5, ev_l0, ev_l1, sh_1, sh_2, sh_3, sh_4, sh_5, at_X11_writeBids_10, at_X11_writeBids_17, at_X11_writeBids_62, at_X11_writeBids_77, at_X11_writeBids_83, ca_X11_121, ca_X11_180, ca_X11_329, ca_X11_414, ca_X11_448, cd_X11_writeBids_0, cd_X11_writeBids_10, cd_X11_writeBids_17, cd_X11_writeBids_62, cd_X11_writeBids_77, cd_X11_writeBids_83, fl_X11_445, fl_X11_9, ev_b_13, ev_b_33, ev_b_42, ev_b_48, no_0, no_1, no_lt, no_le, no_eq, no_lt0, no_ge0, no_gt0, no_le0, no_eq0, no_0eq, no_eqm, no_meq, no_m0, no_mlt, no_mge, no_mgt, no_mm, no_i01, no_i10, no_in, no_or, no_ifm, no_mul, nI_add, no_sub, pk_div, iI_if, nI_clamp, oI_n, oI_s, not_true_eq_false, not_false_eq_true, forall_const, true_implies, false_and, and_false, or_false, false_or, Classical.not_not, true_or, or_true, no_b, no_eq1, eq_self, and_self, sk_301, sk_302, sl_302, sp_301, hk1, d]
            | exact rfl
            | (split <;> omega))
    · have hkn : N 1 = k := by omega
      rw [hkn]
      have es : (pgr (bdt N i k) (th μ 0)).1 301 20 = nI (bdt N i k).length := pgr_s
      rw [hkn] at hk1
      repeat' (first
        | (with_reducible refine ev_rid ?_; simp (disch := first | omega | assumption) only [ev_run_c, ev_run_n, ev_fj, ev_stp, ev_lk, ev_fv, ev_as, ev_sz, ev_st1, ev_st2, ev_rm, ev_pk, ev_Jof, ev_go, lv_args, List.map_cons, List.map_nil, List.zip_cons_cons, List.zip_nil_left, List.zip_nil_right, List.nil_append, List.cons_append, ↓reduceIte, reduceCtorEq, Int.reduceToNat, Nat.reduceEqDiff, Nat.reduceAdd, Nat.reduceLT, Nat.reduceLeDiff, Nat.reduceMul, Nat.reduceSub, Value.category, false_implies, true_and, and_true, Bool.false_eq_true, Option.some.injEq, exists_eq_left', Option.toList_some, Option.toList_none, ev_km, ev_k2, ev_k3, ev_k4, ev_k5, ev_l0, ev_l1, sh_1, sh_2, sh_3, sh_4, sh_5, at_X11_writeBids_10, at_X11_writeBids_17, at_X11_writeBids_62, at_X11_writeBids_77, at_X11_writeBids_83, ca_X11_121, ca_X11_180, ca_X11_329, ca_X11_414, ca_X11_448, cd_X11_writeBids_0, cd_X11_writeBids_10, cd_X11_writeBids_17, cd_X11_writeBids_62, cd_X11_writeBids_77, cd_X11_writeBids_83, fl_X11_445, fl_X11_9, ev_b_13, ev_b_33, ev_b_42, ev_b_48, no_0, no_1, no_lt, no_le, no_eq, no_lt0, no_ge0, no_gt0, no_le0, no_eq0, no_0eq, no_eqm, no_meq, no_m0, no_mlt, no_mge, no_mgt, no_mm, no_i01, no_i10, no_in, no_or, no_ifm, no_mul, nI_add, no_sub, pk_div, iI_if, nI_clamp, oI_n, oI_s, not_true_eq_false, not_false_eq_true, forall_const, true_implies, false_and, and_false, or_false, false_or, Classical.not_not, true_or, or_true, no_b, no_eq1, eq_self, and_self, sk_301, sk_302, sl_302, sp_301, hk1, es])
        | (with_reducible refine ev_gid ?_; simp (disch := first | omega | assumption) only [ev_run_c, ev_run_n, ev_fj, ev_stp, ev_lk, ev_fv, ev_as, ev_sz, ev_st1, ev_st2, ev_rm, ev_pk, ev_Jof, ev_go, lv_args, List.map_cons, List.map_nil, List.zip_cons_cons, List.zip_nil_left, List.zip_nil_right, List.nil_append, List.cons_append, ↓reduceIte, reduceCtorEq, Int.reduceToNat, Nat.reduceEqDiff, Nat.reduceAdd, Nat.reduceLT, Nat.reduceLeDiff, Nat.reduceMul, Nat.reduceSub, Value.category, false_implies, true_and, and_true, Bool.false_eq_true, Option.some.injEq, exists_eq_left', Option.toList_some, Option.toList_none, ev_km, ev_k2, ev_k3, ev_k4, ev_k5, ev_l0, ev_l1, sh_1, sh_2, sh_3, sh_4, sh_5, at_X11_writeBids_10, at_X11_writeBids_17, at_X11_writeBids_62, at_X11_writeBids_77, at_X11_writeBids_83, ca_X11_121, ca_X11_180, ca_X11_329, ca_X11_414, ca_X11_448, cd_X11_writeBids_0, cd_X11_writeBids_10, cd_X11_writeBids_17, cd_X11_writeBids_62, cd_X11_writeBids_77, cd_X11_writeBids_83, fl_X11_445, fl_X11_9, ev_b_13, ev_b_33, ev_b_42, ev_b_48, no_0, no_1, no_lt, no_le, no_eq, no_lt0, no_ge0, no_gt0, no_le0, no_eq0, no_0eq, no_eqm, no_meq, no_m0, no_mlt, no_mge, no_mgt, no_mm, no_i01, no_i10, no_in, no_or, no_ifm, no_mul, nI_add, no_sub, pk_div, iI_if, nI_clamp, oI_n, oI_s, not_true_eq_false, not_false_eq_true, forall_const, true_implies, false_and, and_false, or_false, false_or, Classical.not_not, true_or, or_true, no_b, no_eq1, eq_self, and_self, sk_301, sk_302, sl_302, sp_301, hk1, es])
        | (with_reducible refine And.intro (fun q => ?_) (fun q => ?_) <;> (try simp (disch := first | omega | assumption) only [no_0, no_1, no_lt, no_le, no_eq, no_lt0, no_ge0, no_gt0, no_le0, no_eq0, no_0eq, no_eqm, no_meq, no_m0, no_mlt, no_mge, no_mgt, no_mm, no_i01, no_i10, no_in, no_or, no_ifm, no_mul, nI_add, no_sub, pk_div, iI_if, nI_clamp, oI_n, oI_s, not_true_eq_false, not_false_eq_true, forall_const, true_implies, false_and, and_false, or_false, false_or, Classical.not_not, true_or, or_true, no_b, no_eq1, eq_self, and_self, sk_301, sk_302, sl_302, sp_301, hk1, es] at q))
        | with_reducible refine ev_ci (m_X11_mayPerson hok (by first | with_reducible assumption | exact th_R (by with_reducible assumption) | exact mw_R | exact ms_R) (by with_reducible assumption) ?_ ?_ _) ?_
        | with_reducible refine ev_ci (m_X11_of hok (by first | exact MR_re (by with_reducible assumption) | exact MR_re mw_R) ?_ ?_) ?_
        | with_reducible refine ev_ci (m_X11_seatOf hok (by first | exact MR_re (by with_reducible assumption) | exact MR_re mw_R) ?_ ?_ ?_ ?_) ?_
        | with_reducible refine ev_ci (m_X11_conflictOf hok (by first | with_reducible assumption | exact th_R (by with_reducible assumption) | exact mw_R | exact ms_R) (by with_reducible assumption) ?_ ?_) ?_
        | omega
        | with_reducible assumption
        | with_reducible rfl
        | with_reducible refine lp_nx ?_ ?_ ?_ ?_
        | with_reducible refine lp_st ?_ ?_ ?_
        | with_reducible refine ls_c ?_ ?_
        | with_reducible refine vi_c ?_
        | with_reducible refine re_c ?_
        | with_reducible refine vz_c ?_
        | with_reducible refine rz_c ?_
        | exact trivial
        | with_reducible refine And.intro ?_ ?_
        | simp (disch := first | omega | assumption) only [ev_run_c, ev_run_n, ev_fj, ev_stp, ev_lk, ev_fv, ev_as, ev_sz, ev_st1, ev_st2, ev_rm, ev_pk, ev_Jof, ev_go, lv_args, List.map_cons, List.map_nil, List.zip_cons_cons, List.zip_nil_left, List.zip_nil_right, List.nil_append, List.cons_append, ↓reduceIte, reduceCtorEq, Int.reduceToNat, Nat.reduceEqDiff, Nat.reduceAdd, Nat.reduceLT, Nat.reduceLeDiff, Nat.reduceMul, Nat.reduceSub, Value.category, false_implies, true_and, and_true, Bool.false_eq_true, Option.some.injEq, exists_eq_left', Option.toList_some, Option.toList_none, ev_km, ev_k2, ev_k3, ev_k4, ev_k5, ev_l0, ev_l1, sh_1, sh_2, sh_3, sh_4, sh_5, at_X11_writeBids_10, at_X11_writeBids_17, at_X11_writeBids_62, at_X11_writeBids_77, at_X11_writeBids_83, ca_X11_121, ca_X11_180, ca_X11_329, ca_X11_414, ca_X11_448, cd_X11_writeBids_0, cd_X11_writeBids_10, cd_X11_writeBids_17, cd_X11_writeBids_62, cd_X11_writeBids_77, cd_X11_writeBids_83, fl_X11_445, fl_X11_9, ev_b_13, ev_b_33, ev_b_42, ev_b_48, no_0, no_1, no_lt, no_le, no_eq, no_lt0, no_ge0, no_gt0, no_le0, no_eq0, no_0eq, no_eqm, no_meq, no_m0, no_mlt, no_mge, no_mgt, no_mm, no_i01, no_i10, no_in, no_or, no_ifm, no_mul, nI_add, no_sub, pk_div, iI_if, nI_clamp, oI_n, oI_s, not_true_eq_false, not_false_eq_true, forall_const, true_implies, false_and, and_false, or_false, false_or, Classical.not_not, true_or, or_true, no_b, no_eq1, eq_self, and_self, sk_301, sk_302, sl_302, sp_301, hk1, es]
        | exact rfl
        | (split <;> omega))
  · rw [at_X11_writeBids_0]
    have k0 := m_X11_mayPerson hok hN he he2 (by omega) (nI i)
    rw [hc] at k0
    have e : bdt N i 0 = [] := rfl
    have ep : (ev_up (th μ 0).1 301 20 (nI 0), (th μ 0).2) = pgr [] (th μ 0) := pgr_0
    repeat' (first
      | (with_reducible refine ev_rid ?_; simp (disch := first | omega | assumption) only [ev_run_c, ev_run_n, ev_fj, ev_stp, ev_lk, ev_fv, ev_as, ev_sz, ev_st1, ev_st2, ev_rm, ev_pk, ev_Jof, ev_go, lv_args, List.map_cons, List.map_nil, List.zip_cons_cons, List.zip_nil_left, List.zip_nil_right, List.nil_append, List.cons_append, ↓reduceIte, reduceCtorEq, Int.reduceToNat, Nat.reduceEqDiff, Nat.reduceAdd, Nat.reduceLT, Nat.reduceLeDiff, Nat.reduceMul, Nat.reduceSub, Value.category, false_implies, true_and, and_true, Bool.false_eq_true, Option.some.injEq, exists_eq_left', Option.toList_some, Option.toList_none, ev_km, ev_k2, ev_k3, ev_k4, ev_k5, ev_l0, ev_l1, sh_1, sh_2, sh_3, sh_4, sh_5, at_X11_writeBids_10, at_X11_writeBids_17, at_X11_writeBids_62, at_X11_writeBids_77, at_X11_writeBids_83, ca_X11_121, ca_X11_180, ca_X11_329, ca_X11_414, ca_X11_448, cd_X11_writeBids_0, cd_X11_writeBids_10, cd_X11_writeBids_17, cd_X11_writeBids_62, cd_X11_writeBids_77, cd_X11_writeBids_83, fl_X11_445, fl_X11_9, ev_b_13, ev_b_33, ev_b_42, ev_b_48, no_0, no_1, no_lt, no_le, no_eq, no_lt0, no_ge0, no_gt0, no_le0, no_eq0, no_0eq, no_eqm, no_meq, no_m0, no_mlt, no_mge, no_mgt, no_mm, no_i01, no_i10, no_in, no_or, no_ifm, no_mul, nI_add, no_sub, pk_div, iI_if, nI_clamp, oI_n, oI_s, not_true_eq_false, not_false_eq_true, forall_const, true_implies, false_and, and_false, or_false, false_or, Classical.not_not, true_or, or_true, no_b, no_eq1, eq_self, and_self, sk_301, sk_302, sl_302, sp_301, ep, e])
      | (with_reducible refine ev_gid ?_; simp (disch := first | omega | assumption) only [ev_run_c, ev_run_n, ev_fj, ev_stp, ev_lk, ev_fv, ev_as, ev_sz, ev_st1, ev_st2, ev_rm, ev_pk, ev_Jof, ev_go, lv_args, List.map_cons, List.map_nil, List.zip_cons_cons, List.zip_nil_left, List.zip_nil_right, List.nil_append, List.cons_append, ↓reduceIte, reduceCtorEq, Int.reduceToNat, Nat.reduceEqDiff, Nat.reduceAdd, Nat.reduceLT, Nat.reduceLeDiff, Nat.reduceMul, Nat.reduceSub, Value.category, false_implies, true_and, and_true, Bool.false_eq_true, Option.some.injEq, exists_eq_left', Option.toList_some, Option.toList_none, ev_km, ev_k2, ev_k3, ev_k4, ev_k5, ev_l0, ev_l1, sh_1, sh_2, sh_3, sh_4, sh_5, at_X11_writeBids_10, at_X11_writeBids_17, at_X11_writeBids_62, at_X11_writeBids_77, at_X11_writeBids_83, ca_X11_121, ca_X11_180, ca_X11_329, ca_X11_414, ca_X11_448, cd_X11_writeBids_0, cd_X11_writeBids_10, cd_X11_writeBids_17, cd_X11_writeBids_62, cd_X11_writeBids_77, cd_X11_writeBids_83, fl_X11_445, fl_X11_9, ev_b_13, ev_b_33, ev_b_42, ev_b_48, no_0, no_1, no_lt, no_le, no_eq, no_lt0, no_ge0, no_gt0, no_le0, no_eq0, no_0eq, no_eqm, no_meq, no_m0, no_mlt, no_mge, no_mgt, no_mm, no_i01, no_i10, no_in, no_or, no_ifm, no_mul, nI_add, no_sub, pk_div, iI_if, nI_clamp, oI_n, oI_s, not_true_eq_false, not_false_eq_true, forall_const, true_implies, false_and, and_false, or_false, false_or, Classical.not_not, true_or, or_true, no_b, no_eq1, eq_self, and_self, sk_301, sk_302, sl_302, sp_301, ep, e])
      | (with_reducible refine And.intro (fun q => ?_) (fun q => ?_) <;> (try simp (disch := first | omega | assumption) only [no_0, no_1, no_lt, no_le, no_eq, no_lt0, no_ge0, no_gt0, no_le0, no_eq0, no_0eq, no_eqm, no_meq, no_m0, no_mlt, no_mge, no_mgt, no_mm, no_i01, no_i10, no_in, no_or, no_ifm, no_mul, nI_add, no_sub, pk_div, iI_if, nI_clamp, oI_n, oI_s, not_true_eq_false, not_false_eq_true, forall_const, true_implies, false_and, and_false, or_false, false_or, Classical.not_not, true_or, or_true, no_b, no_eq1, eq_self, and_self, sk_301, sk_302, sl_302, sp_301, ep, e] at q))
      | (with_reducible refine ev_ci k0 ?_)
      | with_reducible refine ev_ci (m_X11_mayPerson hok (by first | with_reducible assumption | exact th_R (by with_reducible assumption) | exact mw_R | exact ms_R) (by with_reducible assumption) ?_ ?_ _) ?_
      | with_reducible refine ev_ci (m_X11_of hok (by first | exact MR_re (by with_reducible assumption) | exact MR_re mw_R) ?_ ?_) ?_
      | with_reducible refine ev_ci (m_X11_seatOf hok (by first | exact MR_re (by with_reducible assumption) | exact MR_re mw_R) ?_ ?_ ?_ ?_) ?_
      | with_reducible refine ev_ci (m_X11_conflictOf hok (by first | with_reducible assumption | exact th_R (by with_reducible assumption) | exact mw_R | exact ms_R) (by with_reducible assumption) ?_ ?_) ?_
      | omega
      | with_reducible assumption
      | with_reducible rfl
      | with_reducible refine lp_nx ?_ ?_ ?_ ?_
      | with_reducible refine lp_st ?_ ?_ ?_
      | with_reducible refine ls_c ?_ ?_
      | with_reducible refine vi_c ?_
      | with_reducible refine re_c ?_
      | with_reducible refine vz_c ?_
      | with_reducible refine rz_c ?_
      | exact trivial
      | with_reducible refine And.intro ?_ ?_
      | simp (disch := first | omega | assumption) only [ev_run_c, ev_run_n, ev_fj, ev_stp, ev_lk, ev_fv, ev_as, ev_sz, ev_st1, ev_st2, ev_rm, ev_pk, ev_Jof, ev_go, lv_args, List.map_cons, List.map_nil, List.zip_cons_cons, List.zip_nil_left, List.zip_nil_right, List.nil_append, List.cons_append, ↓reduceIte, reduceCtorEq, Int.reduceToNat, Nat.reduceEqDiff, Nat.reduceAdd, Nat.reduceLT, Nat.reduceLeDiff, Nat.reduceMul, Nat.reduceSub, Value.category, false_implies, true_and, and_true, Bool.false_eq_true, Option.some.injEq, exists_eq_left', Option.toList_some, Option.toList_none, ev_km, ev_k2, ev_k3, ev_k4, ev_k5, ev_l0, ev_l1, sh_1, sh_2, sh_3, sh_4, sh_5, at_X11_writeBids_10, at_X11_writeBids_17, at_X11_writeBids_62, at_X11_writeBids_77, at_X11_writeBids_83, ca_X11_121, ca_X11_180, ca_X11_329, ca_X11_414, ca_X11_448, cd_X11_writeBids_0, cd_X11_writeBids_10, cd_X11_writeBids_17, cd_X11_writeBids_62, cd_X11_writeBids_77, cd_X11_writeBids_83, fl_X11_445, fl_X11_9, ev_b_13, ev_b_33, ev_b_42, ev_b_48, no_0, no_1, no_lt, no_le, no_eq, no_lt0, no_ge0, no_gt0, no_le0, no_eq0, no_0eq, no_eqm, no_meq, no_m0, no_mlt, no_mge, no_mgt, no_mm, no_i01, no_i10, no_in, no_or, no_ifm, no_mul, nI_add, no_sub, pk_div, iI_if, nI_clamp, oI_n, oI_s, not_true_eq_false, not_false_eq_true, forall_const, true_implies, false_and, and_false, or_false, false_or, Classical.not_not, true_or, or_true, no_b, no_eq1, eq_self, and_self, sk_301, sk_302, sl_302, sp_301, ep, e]
      | exact rfl
      | (split <;> omega))
/-- the pancake's text, its parts -/
theorem pk_T (hI : INV N) {q : Nat} (hq : q < 10) : ∃ (T : Nat → List Nat) (U : Nat → Nat → List Nat), (∀ k, k ≤ N (952 + 9 * q + 5) → (T k).length ≤ 100) ∧ (∀ k j, k < N (952 + 9 * q + 5) → j ≤ N (8 + 59 * N (952 + 9 * q + (6 + k)) + 6) → (U k j).length ≤ 100) ∧ (∀ k, 0 < k → T k ++ [44] = U k 0) ∧ (T 0 = U 0 0) ∧ (∀ k j, U k j ++ [N (8 + 59 * N (952 + 9 * q + (6 + k)) + (7 + j))] = U k (j + 1)) ∧ (∀ k, U k (N (8 + 59 * N (952 + 9 * q + (6 + k)) + 6)) ++ [61] ++ (if N (8 + 59 * N (952 + 9 * q + (6 + k)) + (23 + q)) = 0 then [63] else [48 + N (8 + 59 * N (952 + 9 * q + (6 + k)) + (23 + q))]) = T (k + 1)) ∧ (T 0 = if N (952 + 9 * q + 5) = 0 then [45] else []) ∧ T (N (952 + 9 * q + 5)) ++ [47] ++ dgZ (tot N q) = pkt N q := by
  have hh := iv_h hI
  have h3 := (iv_q hI q hq).2.2
  have hz : (if N (952 + 9 * q + 5) = 0 then [45] else ([] : List Nat)).length ≤ 1 := by split <;> simp
  refine ⟨fun k => (if N (952 + 9 * q + 5) = 0 then [45] else []) ++ ptx N q k, fun k j => (if N (952 + 9 * q + 5) = 0 then [45] else []) ++ ptx N q k ++ (if 0 < k then [44] else []) ++ lsf (fun j => N (8 + 59 * N (952 + 9 * q + (6 + k)) + (7 + j))) j, fun k hk => ?_, fun k j hk hj => ?_, fun k hk => ?_, ?_, fun k j => ?_, fun k => ?_, ?_, ?_⟩
  · have := ptx_le hI hq hk
    rw [List.length_append]
    omega
  · have := ptx_le hI hq (Nat.le_of_lt hk)
    have h2 := iv_st hI q k hq hk
    have h6 := (iv_p hI (N (952 + 9 * q + (6 + k))) (by omega)).2
    have e : (if 0 < k then [44] else ([] : List Nat)).length ≤ 1 := by split <;> simp
    (try dsimp only)
    rw [List.length_append, List.length_append, List.length_append, lsf_len]
    omega
  · show _ = _ ++ lsf _ 0
    rw [if_pos hk]
    exact (List.append_nil _).symm
  · show _ = _ ++ ptx N q 0 ++ [] ++ []
    rw [List.append_nil, List.append_nil]
  · exact List.append_assoc _ _ _
  · show _ = _ ++ (ptx N q k ++ (if 0 < k then [44] else []) ++ ttx N (N (952 + 9 * q + (6 + k))) q)
    unfold ttx nmt
    simp only [List.append_assoc]
  · exact List.append_nil _
  · rfl
theorem M_writePancake (hok : ev_ok sh_S G) (h : MS σ μ) (hA : OKA σ) (x : Int32) : s_res mi_X11_writePancake [.ref 301, .int x] μ G (s_writePancake σ x) := by
  have hI := hA.1
  have hh := iv_h hI
  have hN : MR (aN σ) μ := h.1
  have he : μ.1 301 6 = nI (aE σ) := h.2.1
  have he2 := hA.2.1
  unfold s_writePancake
  have k0 := m_X11_mayPancake hok hN he he2 (by omega) x
  rcases (show aE σ = 0 ∨ aE σ = 1 by omega) with c | c
  · rw [if_pos c, c]
    rw [c, c1_0] at k0
    rw [v1_0, c1_0]
    refine ⟨th μ 1, ?_, MS_th h, Fq_m Fm_th, th_0⟩
    refine ev_tri hok (okM_X11_writePancake 0) (Nat.le_of_ble_eq_true rfl) 400 ?_
    rw [at_X11_writePancake_0]
    repeat' (first
      | (with_reducible refine ev_rid ?_; simp (disch := first | omega | assumption) only [ev_run_c, ev_run_n, ev_fj, ev_stp, ev_lk, ev_fv, ev_as, ev_sz, ev_st1, ev_st2, ev_rm, ev_pk, ev_Jof, ev_go, lv_args, List.map_cons, List.map_nil, List.zip_cons_cons, List.zip_nil_left, List.zip_nil_right, List.nil_append, List.cons_append, ↓reduceIte, reduceCtorEq, Int.reduceToNat, Nat.reduceEqDiff, Nat.reduceAdd, Nat.reduceLT, Nat.reduceLeDiff, Nat.reduceMul, Nat.reduceSub, Value.category, false_implies, true_and, and_true, Bool.false_eq_true, Option.some.injEq, exists_eq_left', Option.toList_some, Option.toList_none, ev_km, ev_k2, ev_k3, ev_k4, ev_k5, ev_l0, ev_l1, sh_1, sh_2, sh_3, sh_4, sh_5, at_X11_writePancake_10, at_X11_writePancake_128, at_X11_writePancake_130, at_X11_writePancake_139, at_X11_writePancake_30, at_X11_writePancake_32, at_X11_writePancake_62, at_X11_writePancake_65, at_X11_writePancake_97, ca_X11_121, ca_X11_195, ca_X11_201, ca_X11_388, ca_X11_411, ca_X11_448, ca_X11_451, cd_X11_writePancake_0, cd_X11_writePancake_10, cd_X11_writePancake_128, cd_X11_writePancake_130, cd_X11_writePancake_139, cd_X11_writePancake_30, cd_X11_writePancake_32, cd_X11_writePancake_62, cd_X11_writePancake_65, cd_X11_writePancake_97, fl_X11_445, ev_b_23, ev_b_44, ev_b_45, ev_b_47, ev_b_48, ev_b_6, ev_b_61, ev_b_63, ev_b_7, no_0, no_1, no_lt, no_le, no_eq, no_lt0, no_ge0, no_gt0, no_le0, no_eq0, no_0eq, no_eqm, no_meq, no_m0, no_mlt, no_mge, no_mgt, no_mm, no_i01, no_i10, no_in, no_or, no_ifm, no_mul, nI_add, no_sub, pk_div, iI_if, nI_clamp, oI_n, oI_s, not_true_eq_false, not_false_eq_true, forall_const, true_implies, false_and, and_false, or_false, false_or, Classical.not_not, true_or, or_true, no_b, no_eq1, eq_self, and_self, sk_301, sk_302, sl_302, sp_301])
      | (with_reducible refine ev_gid ?_; simp (disch := first | omega | assumption) only [ev_run_c, ev_run_n, ev_fj, ev_stp, ev_lk, ev_fv, ev_as, ev_sz, ev_st1, ev_st2, ev_rm, ev_pk, ev_Jof, ev_go, lv_args, List.map_cons, List.map_nil, List.zip_cons_cons, List.zip_nil_left, List.zip_nil_right, List.nil_append, List.cons_append, ↓reduceIte, reduceCtorEq, Int.reduceToNat, Nat.reduceEqDiff, Nat.reduceAdd, Nat.reduceLT, Nat.reduceLeDiff, Nat.reduceMul, Nat.reduceSub, Value.category, false_implies, true_and, and_true, Bool.false_eq_true, Option.some.injEq, exists_eq_left', Option.toList_some, Option.toList_none, ev_km, ev_k2, ev_k3, ev_k4, ev_k5, ev_l0, ev_l1, sh_1, sh_2, sh_3, sh_4, sh_5, at_X11_writePancake_10, at_X11_writePancake_128, at_X11_writePancake_130, at_X11_writePancake_139, at_X11_writePancake_30, at_X11_writePancake_32, at_X11_writePancake_62, at_X11_writePancake_65, at_X11_writePancake_97, ca_X11_121, ca_X11_195, ca_X11_201, ca_X11_388, ca_X11_411, ca_X11_448, ca_X11_451, cd_X11_writePancake_0, cd_X11_writePancake_10, cd_X11_writePancake_128, cd_X11_writePancake_130, cd_X11_writePancake_139, cd_X11_writePancake_30, cd_X11_writePancake_32, cd_X11_writePancake_62, cd_X11_writePancake_65, cd_X11_writePancake_97, fl_X11_445, ev_b_23, ev_b_44, ev_b_45, ev_b_47, ev_b_48, ev_b_6, ev_b_61, ev_b_63, ev_b_7, no_0, no_1, no_lt, no_le, no_eq, no_lt0, no_ge0, no_gt0, no_le0, no_eq0, no_0eq, no_eqm, no_meq, no_m0, no_mlt, no_mge, no_mgt, no_mm, no_i01, no_i10, no_in, no_or, no_ifm, no_mul, nI_add, no_sub, pk_div, iI_if, nI_clamp, oI_n, oI_s, not_true_eq_false, not_false_eq_true, forall_const, true_implies, false_and, and_false, or_false, false_or, Classical.not_not, true_or, or_true, no_b, no_eq1, eq_self, and_self, sk_301, sk_302, sl_302, sp_301])
      | (with_reducible refine And.intro (fun q => ?_) (fun q => ?_) <;> (try simp (disch := first | omega | assumption) only [no_0, no_1, no_lt, no_le, no_eq, no_lt0, no_ge0, no_gt0, no_le0, no_eq0, no_0eq, no_eqm, no_meq, no_m0, no_mlt, no_mge, no_mgt, no_mm, no_i01, no_i10, no_in, no_or, no_ifm, no_mul, nI_add, no_sub, pk_div, iI_if, nI_clamp, oI_n, oI_s, not_true_eq_false, not_false_eq_true, forall_const, true_implies, false_and, and_false, or_false, false_or, Classical.not_not, true_or, or_true, no_b, no_eq1, eq_self, and_self, sk_301, sk_302, sl_302, sp_301] at q))
      | (with_reducible refine ev_ci k0 ?_)
      | with_reducible refine ev_ci (m_X11_mayPancake hok (by first | with_reducible assumption | exact th_R (by with_reducible assumption) | exact mw_R | exact ms_R) (by with_reducible assumption) ?_ ?_ _) ?_
      | with_reducible refine ev_ci (m_X11_ofCake hok (by first | exact MR_re (by with_reducible assumption) | exact MR_re mw_R) ?_ ?_) ?_
      | with_reducible refine ev_ci (m_X11_of hok (by first | exact MR_re (by with_reducible assumption) | exact MR_re mw_R) ?_ ?_) ?_
      | with_reducible refine ev_ci (m_X11_isScored hok (by first | exact MR_re (by with_reducible assumption) | exact MR_re mw_R) (by with_reducible assumption) ?_ ?_) ?_
      | with_reducible refine ev_ci (m_X11_total hok (by first | with_reducible assumption | exact th_R (by with_reducible assumption) | exact mw_R | exact ms_R) (by with_reducible assumption) ?_) ?_
      | omega
      | with_reducible assumption
      | with_reducible rfl
      | with_reducible refine lp_nx ?_ ?_ ?_ ?_
      | with_reducible refine lp_st ?_ ?_ ?_
      | with_reducible refine ls_c ?_ ?_
      | with_reducible refine vi_c ?_
      | with_reducible refine re_c ?_
      | with_reducible refine vz_c ?_
      | with_reducible refine rz_c ?_
      | exact trivial
      | with_reducible refine And.intro ?_ ?_
      | simp (disch := first | omega | assumption) only [ev_run_c, ev_run_n, ev_fj, ev_stp, ev_lk, ev_fv, ev_as, ev_sz, ev_st1, ev_st2, ev_rm, ev_pk, ev_Jof, ev_go, lv_args, List.map_cons, List.map_nil, List.zip_cons_cons, List.zip_nil_left, List.zip_nil_right, List.nil_append, List.cons_append, ↓reduceIte, reduceCtorEq, Int.reduceToNat, Nat.reduceEqDiff, Nat.reduceAdd, Nat.reduceLT, Nat.reduceLeDiff, Nat.reduceMul, Nat.reduceSub, Value.category, false_implies, true_and, and_true, Bool.false_eq_true, Option.some.injEq, exists_eq_left', Option.toList_some, Option.toList_none, ev_km, ev_k2, ev_k3, ev_k4, ev_k5, ev_l0, ev_l1, sh_1, sh_2, sh_3, sh_4, sh_5, at_X11_writePancake_10, at_X11_writePancake_128, at_X11_writePancake_130, at_X11_writePancake_139, at_X11_writePancake_30, at_X11_writePancake_32, at_X11_writePancake_62, at_X11_writePancake_65, at_X11_writePancake_97, ca_X11_121, ca_X11_195, ca_X11_201, ca_X11_388, ca_X11_411, ca_X11_448, ca_X11_451, cd_X11_writePancake_0, cd_X11_writePancake_10, cd_X11_writePancake_128, cd_X11_writePancake_130, cd_X11_writePancake_139, cd_X11_writePancake_30, cd_X11_writePancake_32, cd_X11_writePancake_62, cd_X11_writePancake_65, cd_X11_writePancake_97, fl_X11_445, ev_b_23, ev_b_44, ev_b_45, ev_b_47, ev_b_48, ev_b_6, ev_b_61, ev_b_63, ev_b_7, no_0, no_1, no_lt, no_le, no_eq, no_lt0, no_ge0, no_gt0, no_le0, no_eq0, no_0eq, no_eqm, no_meq, no_m0, no_mlt, no_mge, no_mgt, no_mm, no_i01, no_i10, no_in, no_or, no_ifm, no_mul, nI_add, no_sub, pk_div, iI_if, nI_clamp, oI_n, oI_s, not_true_eq_false, not_false_eq_true, forall_const, true_implies, false_and, and_false, or_false, false_or, Classical.not_not, true_or, or_true, no_b, no_eq1, eq_self, and_self, sk_301, sk_302, sl_302, sp_301]
      | exact rfl
      | (split <;> omega))
  · rw [if_neg (by omega), c]
    rw [c] at k0
    cases g : rx (aN σ 1) x with
    | none =>
      rw [c1_n g] at k0
      rw [v1_n g, c1_n g]
      refine ⟨th μ 2, ?_, MS_th h, Fq_m Fm_th, th_0⟩
      refine ev_tri hok (okM_X11_writePancake 0) (Nat.le_of_ble_eq_true rfl) 400 ?_
      rw [at_X11_writePancake_0]
      repeat' (first
        | (with_reducible refine ev_rid ?_; simp (disch := first | omega | assumption) only [ev_run_c, ev_run_n, ev_fj, ev_stp, ev_lk, ev_fv, ev_as, ev_sz, ev_st1, ev_st2, ev_rm, ev_pk, ev_Jof, ev_go, lv_args, List.map_cons, List.map_nil, List.zip_cons_cons, List.zip_nil_left, List.zip_nil_right, List.nil_append, List.cons_append, ↓reduceIte, reduceCtorEq, Int.reduceToNat, Nat.reduceEqDiff, Nat.reduceAdd, Nat.reduceLT, Nat.reduceLeDiff, Nat.reduceMul, Nat.reduceSub, Value.category, false_implies, true_and, and_true, Bool.false_eq_true, Option.some.injEq, exists_eq_left', Option.toList_some, Option.toList_none, ev_km, ev_k2, ev_k3, ev_k4, ev_k5, ev_l0, ev_l1, sh_1, sh_2, sh_3, sh_4, sh_5, at_X11_writePancake_10, at_X11_writePancake_128, at_X11_writePancake_130, at_X11_writePancake_139, at_X11_writePancake_30, at_X11_writePancake_32, at_X11_writePancake_62, at_X11_writePancake_65, at_X11_writePancake_97, ca_X11_121, ca_X11_195, ca_X11_201, ca_X11_388, ca_X11_411, ca_X11_448, ca_X11_451, cd_X11_writePancake_0, cd_X11_writePancake_10, cd_X11_writePancake_128, cd_X11_writePancake_130, cd_X11_writePancake_139, cd_X11_writePancake_30, cd_X11_writePancake_32, cd_X11_writePancake_62, cd_X11_writePancake_65, cd_X11_writePancake_97, fl_X11_445, ev_b_23, ev_b_44, ev_b_45, ev_b_47, ev_b_48, ev_b_6, ev_b_61, ev_b_63, ev_b_7, no_0, no_1, no_lt, no_le, no_eq, no_lt0, no_ge0, no_gt0, no_le0, no_eq0, no_0eq, no_eqm, no_meq, no_m0, no_mlt, no_mge, no_mgt, no_mm, no_i01, no_i10, no_in, no_or, no_ifm, no_mul, nI_add, no_sub, pk_div, iI_if, nI_clamp, oI_n, oI_s, not_true_eq_false, not_false_eq_true, forall_const, true_implies, false_and, and_false, or_false, false_or, Classical.not_not, true_or, or_true, no_b, no_eq1, eq_self, and_self, sk_301, sk_302, sl_302, sp_301])
        | (with_reducible refine ev_gid ?_; simp (disch := first | omega | assumption) only [ev_run_c, ev_run_n, ev_fj, ev_stp, ev_lk, ev_fv, ev_as, ev_sz, ev_st1, ev_st2, ev_rm, ev_pk, ev_Jof, ev_go, lv_args, List.map_cons, List.map_nil, List.zip_cons_cons, List.zip_nil_left, List.zip_nil_right, List.nil_append, List.cons_append, ↓reduceIte, reduceCtorEq, Int.reduceToNat, Nat.reduceEqDiff, Nat.reduceAdd, Nat.reduceLT, Nat.reduceLeDiff, Nat.reduceMul, Nat.reduceSub, Value.category, false_implies, true_and, and_true, Bool.false_eq_true, Option.some.injEq, exists_eq_left', Option.toList_some, Option.toList_none, ev_km, ev_k2, ev_k3, ev_k4, ev_k5, ev_l0, ev_l1, sh_1, sh_2, sh_3, sh_4, sh_5, at_X11_writePancake_10, at_X11_writePancake_128, at_X11_writePancake_130, at_X11_writePancake_139, at_X11_writePancake_30, at_X11_writePancake_32, at_X11_writePancake_62, at_X11_writePancake_65, at_X11_writePancake_97, ca_X11_121, ca_X11_195, ca_X11_201, ca_X11_388, ca_X11_411, ca_X11_448, ca_X11_451, cd_X11_writePancake_0, cd_X11_writePancake_10, cd_X11_writePancake_128, cd_X11_writePancake_130, cd_X11_writePancake_139, cd_X11_writePancake_30, cd_X11_writePancake_32, cd_X11_writePancake_62, cd_X11_writePancake_65, cd_X11_writePancake_97, fl_X11_445, ev_b_23, ev_b_44, ev_b_45, ev_b_47, ev_b_48, ev_b_6, ev_b_61, ev_b_63, ev_b_7, no_0, no_1, no_lt, no_le, no_eq, no_lt0, no_ge0, no_gt0, no_le0, no_eq0, no_0eq, no_eqm, no_meq, no_m0, no_mlt, no_mge, no_mgt, no_mm, no_i01, no_i10, no_in, no_or, no_ifm, no_mul, nI_add, no_sub, pk_div, iI_if, nI_clamp, oI_n, oI_s, not_true_eq_false, not_false_eq_true, forall_const, true_implies, false_and, and_false, or_false, false_or, Classical.not_not, true_or, or_true, no_b, no_eq1, eq_self, and_self, sk_301, sk_302, sl_302, sp_301])
        | (with_reducible refine And.intro (fun q => ?_) (fun q => ?_) <;> (try simp (disch := first | omega | assumption) only [no_0, no_1, no_lt, no_le, no_eq, no_lt0, no_ge0, no_gt0, no_le0, no_eq0, no_0eq, no_eqm, no_meq, no_m0, no_mlt, no_mge, no_mgt, no_mm, no_i01, no_i10, no_in, no_or, no_ifm, no_mul, nI_add, no_sub, pk_div, iI_if, nI_clamp, oI_n, oI_s, not_true_eq_false, not_false_eq_true, forall_const, true_implies, false_and, and_false, or_false, false_or, Classical.not_not, true_or, or_true, no_b, no_eq1, eq_self, and_self, sk_301, sk_302, sl_302, sp_301] at q))
        | (with_reducible refine ev_ci k0 ?_)
        | with_reducible refine ev_ci (m_X11_mayPancake hok (by first | with_reducible assumption | exact th_R (by with_reducible assumption) | exact mw_R | exact ms_R) (by with_reducible assumption) ?_ ?_ _) ?_
        | with_reducible refine ev_ci (m_X11_ofCake hok (by first | exact MR_re (by with_reducible assumption) | exact MR_re mw_R) ?_ ?_) ?_
        | with_reducible refine ev_ci (m_X11_of hok (by first | exact MR_re (by with_reducible assumption) | exact MR_re mw_R) ?_ ?_) ?_
        | with_reducible refine ev_ci (m_X11_isScored hok (by first | exact MR_re (by with_reducible assumption) | exact MR_re mw_R) (by with_reducible assumption) ?_ ?_) ?_
        | with_reducible refine ev_ci (m_X11_total hok (by first | with_reducible assumption | exact th_R (by with_reducible assumption) | exact mw_R | exact ms_R) (by with_reducible assumption) ?_) ?_
        | omega
        | with_reducible assumption
        | with_reducible rfl
        | with_reducible refine lp_nx ?_ ?_ ?_ ?_
        | with_reducible refine lp_st ?_ ?_ ?_
        | with_reducible refine ls_c ?_ ?_
        | with_reducible refine vi_c ?_
        | with_reducible refine re_c ?_
        | with_reducible refine vz_c ?_
        | with_reducible refine rz_c ?_
        | exact trivial
        | with_reducible refine And.intro ?_ ?_
        | simp (disch := first | omega | assumption) only [ev_run_c, ev_run_n, ev_fj, ev_stp, ev_lk, ev_fv, ev_as, ev_sz, ev_st1, ev_st2, ev_rm, ev_pk, ev_Jof, ev_go, lv_args, List.map_cons, List.map_nil, List.zip_cons_cons, List.zip_nil_left, List.zip_nil_right, List.nil_append, List.cons_append, ↓reduceIte, reduceCtorEq, Int.reduceToNat, Nat.reduceEqDiff, Nat.reduceAdd, Nat.reduceLT, Nat.reduceLeDiff, Nat.reduceMul, Nat.reduceSub, Value.category, false_implies, true_and, and_true, Bool.false_eq_true, Option.some.injEq, exists_eq_left', Option.toList_some, Option.toList_none, ev_km, ev_k2, ev_k3, ev_k4, ev_k5, ev_l0, ev_l1, sh_1, sh_2, sh_3, sh_4, sh_5, at_X11_writePancake_10, at_X11_writePancake_128, at_X11_writePancake_130, at_X11_writePancake_139, at_X11_writePancake_30, at_X11_writePancake_32, at_X11_writePancake_62, at_X11_writePancake_65, at_X11_writePancake_97, ca_X11_121, ca_X11_195, ca_X11_201, ca_X11_388, ca_X11_411, ca_X11_448, ca_X11_451, cd_X11_writePancake_0, cd_X11_writePancake_10, cd_X11_writePancake_128, cd_X11_writePancake_130, cd_X11_writePancake_139, cd_X11_writePancake_30, cd_X11_writePancake_32, cd_X11_writePancake_62, cd_X11_writePancake_65, cd_X11_writePancake_97, fl_X11_445, ev_b_23, ev_b_44, ev_b_45, ev_b_47, ev_b_48, ev_b_6, ev_b_61, ev_b_63, ev_b_7, no_0, no_1, no_lt, no_le, no_eq, no_lt0, no_ge0, no_gt0, no_le0, no_eq0, no_0eq, no_eqm, no_meq, no_m0, no_mlt, no_mge, no_mgt, no_mm, no_i01, no_i10, no_in, no_or, no_ifm, no_mul, nI_add, no_sub, pk_div, iI_if, nI_clamp, oI_n, oI_s, not_true_eq_false, not_false_eq_true, forall_const, true_implies, false_and, and_false, or_false, false_or, Classical.not_not, true_or, or_true, no_b, no_eq1, eq_self, and_self, sk_301, sk_302, sl_302, sp_301]
        | exact rfl
        | (split <;> omega))
    | some q =>
      have gc := c1_s g
      rw [v1_s g, gc]
      obtain ⟨hq, e5⟩ := rx_s (by omega) g
      subst e5
      obtain ⟨T, U, t1, t2, t3, t4, t5, t6, t7, t8⟩ := pk_T hI (show q < 10 by omega)
      rw [c] at he
      refine ⟨_, m_pageP hok hN hI he (by omega) hq gc T U t1 t2 t3 t4 t5 t6 t7 t8, MS_out (MS_th h), Fq_tr (Fq_m Fm_th) pgr_q, (pgr_n (by omega) (by omega)).trans th_0⟩
theorem M_writeBids (hok : ev_ok sh_S G) (h : MS σ μ) (hA : OKA σ) (x : Int32) : s_res mi_X11_writeBids [.ref 301, .int x] μ G (s_writeBids σ x) := by
  have hI := hA.1
  have hh := iv_h hI
  have hN : MR (aN σ) μ := h.1
  have he : μ.1 301 6 = nI (aE σ) := h.2.1
  have he2 := hA.2.1
  unfold s_writeBids
  have k0 := m_X11_mayPerson hok hN he he2 (by omega) x
  rcases (show aE σ = 0 ∨ aE σ = 1 by omega) with c | c
  · rw [if_pos c, c]
    rw [c, c1_0] at k0
    rw [v1_0, c1_0]
    refine ⟨th μ 1, ?_, MS_th h, Fq_m Fm_th, th_0⟩
    refine ev_tri hok (okM_X11_writeBids 0) (Nat.le_of_ble_eq_true rfl) 400 ?_
    rw [at_X11_writeBids_0]
    repeat' (first
      | (with_reducible refine ev_rid ?_; simp (disch := first | omega | assumption) only [ev_run_c, ev_run_n, ev_fj, ev_stp, ev_lk, ev_fv, ev_as, ev_sz, ev_st1, ev_st2, ev_rm, ev_pk, ev_Jof, ev_go, lv_args, List.map_cons, List.map_nil, List.zip_cons_cons, List.zip_nil_left, List.zip_nil_right, List.nil_append, List.cons_append, ↓reduceIte, reduceCtorEq, Int.reduceToNat, Nat.reduceEqDiff, Nat.reduceAdd, Nat.reduceLT, Nat.reduceLeDiff, Nat.reduceMul, Nat.reduceSub, Value.category, false_implies, true_and, and_true, Bool.false_eq_true, Option.some.injEq, exists_eq_left', Option.toList_some, Option.toList_none, ev_km, ev_k2, ev_k3, ev_k4, ev_k5, ev_l0, ev_l1, sh_1, sh_2, sh_3, sh_4, sh_5, at_X11_writeBids_10, at_X11_writeBids_17, at_X11_writeBids_62, at_X11_writeBids_77, at_X11_writeBids_83, ca_X11_121, ca_X11_180, ca_X11_329, ca_X11_414, ca_X11_448, cd_X11_writeBids_0, cd_X11_writeBids_10, cd_X11_writeBids_17, cd_X11_writeBids_62, cd_X11_writeBids_77, cd_X11_writeBids_83, fl_X11_445, fl_X11_9, ev_b_13, ev_b_33, ev_b_42, ev_b_48, no_0, no_1, no_lt, no_le, no_eq, no_lt0, no_ge0, no_gt0, no_le0, no_eq0, no_0eq, no_eqm, no_meq, no_m0, no_mlt, no_mge, no_mgt, no_mm, no_i01, no_i10, no_in, no_or, no_ifm, no_mul, nI_add, no_sub, pk_div, iI_if, nI_clamp, oI_n, oI_s, not_true_eq_false, not_false_eq_true, forall_const, true_implies, false_and, and_false, or_false, false_or, Classical.not_not, true_or, or_true, no_b, no_eq1, eq_self, and_self, sk_301, sk_302, sl_302, sp_301])
      | (with_reducible refine ev_gid ?_; simp (disch := first | omega | assumption) only [ev_run_c, ev_run_n, ev_fj, ev_stp, ev_lk, ev_fv, ev_as, ev_sz, ev_st1, ev_st2, ev_rm, ev_pk, ev_Jof, ev_go, lv_args, List.map_cons, List.map_nil, List.zip_cons_cons, List.zip_nil_left, List.zip_nil_right, List.nil_append, List.cons_append, ↓reduceIte, reduceCtorEq, Int.reduceToNat, Nat.reduceEqDiff, Nat.reduceAdd, Nat.reduceLT, Nat.reduceLeDiff, Nat.reduceMul, Nat.reduceSub, Value.category, false_implies, true_and, and_true, Bool.false_eq_true, Option.some.injEq, exists_eq_left', Option.toList_some, Option.toList_none, ev_km, ev_k2, ev_k3, ev_k4, ev_k5, ev_l0, ev_l1, sh_1, sh_2, sh_3, sh_4, sh_5, at_X11_writeBids_10, at_X11_writeBids_17, at_X11_writeBids_62, at_X11_writeBids_77, at_X11_writeBids_83, ca_X11_121, ca_X11_180, ca_X11_329, ca_X11_414, ca_X11_448, cd_X11_writeBids_0, cd_X11_writeBids_10, cd_X11_writeBids_17, cd_X11_writeBids_62, cd_X11_writeBids_77, cd_X11_writeBids_83, fl_X11_445, fl_X11_9, ev_b_13, ev_b_33, ev_b_42, ev_b_48, no_0, no_1, no_lt, no_le, no_eq, no_lt0, no_ge0, no_gt0, no_le0, no_eq0, no_0eq, no_eqm, no_meq, no_m0, no_mlt, no_mge, no_mgt, no_mm, no_i01, no_i10, no_in, no_or, no_ifm, no_mul, nI_add, no_sub, pk_div, iI_if, nI_clamp, oI_n, oI_s, not_true_eq_false, not_false_eq_true, forall_const, true_implies, false_and, and_false, or_false, false_or, Classical.not_not, true_or, or_true, no_b, no_eq1, eq_self, and_self, sk_301, sk_302, sl_302, sp_301])
      | (with_reducible refine And.intro (fun q => ?_) (fun q => ?_) <;> (try simp (disch := first | omega | assumption) only [no_0, no_1, no_lt, no_le, no_eq, no_lt0, no_ge0, no_gt0, no_le0, no_eq0, no_0eq, no_eqm, no_meq, no_m0, no_mlt, no_mge, no_mgt, no_mm, no_i01, no_i10, no_in, no_or, no_ifm, no_mul, nI_add, no_sub, pk_div, iI_if, nI_clamp, oI_n, oI_s, not_true_eq_false, not_false_eq_true, forall_const, true_implies, false_and, and_false, or_false, false_or, Classical.not_not, true_or, or_true, no_b, no_eq1, eq_self, and_self, sk_301, sk_302, sl_302, sp_301] at q))
      | (with_reducible refine ev_ci k0 ?_)
      | with_reducible refine ev_ci (m_X11_mayPerson hok (by first | with_reducible assumption | exact th_R (by with_reducible assumption) | exact mw_R | exact ms_R) (by with_reducible assumption) ?_ ?_ _) ?_
      | with_reducible refine ev_ci (m_X11_of hok (by first | exact MR_re (by with_reducible assumption) | exact MR_re mw_R) ?_ ?_) ?_
      | with_reducible refine ev_ci (m_X11_seatOf hok (by first | exact MR_re (by with_reducible assumption) | exact MR_re mw_R) ?_ ?_ ?_ ?_) ?_
      | with_reducible refine ev_ci (m_X11_conflictOf hok (by first | with_reducible assumption | exact th_R (by with_reducible assumption) | exact mw_R | exact ms_R) (by with_reducible assumption) ?_ ?_) ?_
      | omega
      | with_reducible assumption
      | with_reducible rfl
      | with_reducible refine lp_nx ?_ ?_ ?_ ?_
      | with_reducible refine lp_st ?_ ?_ ?_
      | with_reducible refine ls_c ?_ ?_
      | with_reducible refine vi_c ?_
      | with_reducible refine re_c ?_
      | with_reducible refine vz_c ?_
      | with_reducible refine rz_c ?_
      | exact trivial
      | with_reducible refine And.intro ?_ ?_
      | simp (disch := first | omega | assumption) only [ev_run_c, ev_run_n, ev_fj, ev_stp, ev_lk, ev_fv, ev_as, ev_sz, ev_st1, ev_st2, ev_rm, ev_pk, ev_Jof, ev_go, lv_args, List.map_cons, List.map_nil, List.zip_cons_cons, List.zip_nil_left, List.zip_nil_right, List.nil_append, List.cons_append, ↓reduceIte, reduceCtorEq, Int.reduceToNat, Nat.reduceEqDiff, Nat.reduceAdd, Nat.reduceLT, Nat.reduceLeDiff, Nat.reduceMul, Nat.reduceSub, Value.category, false_implies, true_and, and_true, Bool.false_eq_true, Option.some.injEq, exists_eq_left', Option.toList_some, Option.toList_none, ev_km, ev_k2, ev_k3, ev_k4, ev_k5, ev_l0, ev_l1, sh_1, sh_2, sh_3, sh_4, sh_5, at_X11_writeBids_10, at_X11_writeBids_17, at_X11_writeBids_62, at_X11_writeBids_77, at_X11_writeBids_83, ca_X11_121, ca_X11_180, ca_X11_329, ca_X11_414, ca_X11_448, cd_X11_writeBids_0, cd_X11_writeBids_10, cd_X11_writeBids_17, cd_X11_writeBids_62, cd_X11_writeBids_77, cd_X11_writeBids_83, fl_X11_445, fl_X11_9, ev_b_13, ev_b_33, ev_b_42, ev_b_48, no_0, no_1, no_lt, no_le, no_eq, no_lt0, no_ge0, no_gt0, no_le0, no_eq0, no_0eq, no_eqm, no_meq, no_m0, no_mlt, no_mge, no_mgt, no_mm, no_i01, no_i10, no_in, no_or, no_ifm, no_mul, nI_add, no_sub, pk_div, iI_if, nI_clamp, oI_n, oI_s, not_true_eq_false, not_false_eq_true, forall_const, true_implies, false_and, and_false, or_false, false_or, Classical.not_not, true_or, or_true, no_b, no_eq1, eq_self, and_self, sk_301, sk_302, sl_302, sp_301]
      | exact rfl
      | (split <;> omega))
  · rw [if_neg (by omega), c]
    rw [c] at k0
    cases g : rx (aN σ 0) x with
    | none =>
      rw [c1_n g] at k0
      rw [v1_n g, c1_n g]
      refine ⟨th μ 2, ?_, MS_th h, Fq_m Fm_th, th_0⟩
      refine ev_tri hok (okM_X11_writeBids 0) (Nat.le_of_ble_eq_true rfl) 400 ?_
      rw [at_X11_writeBids_0]
      repeat' (first
        | (with_reducible refine ev_rid ?_; simp (disch := first | omega | assumption) only [ev_run_c, ev_run_n, ev_fj, ev_stp, ev_lk, ev_fv, ev_as, ev_sz, ev_st1, ev_st2, ev_rm, ev_pk, ev_Jof, ev_go, lv_args, List.map_cons, List.map_nil, List.zip_cons_cons, List.zip_nil_left, List.zip_nil_right, List.nil_append, List.cons_append, ↓reduceIte, reduceCtorEq, Int.reduceToNat, Nat.reduceEqDiff, Nat.reduceAdd, Nat.reduceLT, Nat.reduceLeDiff, Nat.reduceMul, Nat.reduceSub, Value.category, false_implies, true_and, and_true, Bool.false_eq_true, Option.some.injEq, exists_eq_left', Option.toList_some, Option.toList_none, ev_km, ev_k2, ev_k3, ev_k4, ev_k5, ev_l0, ev_l1, sh_1, sh_2, sh_3, sh_4, sh_5, at_X11_writeBids_10, at_X11_writeBids_17, at_X11_writeBids_62, at_X11_writeBids_77, at_X11_writeBids_83, ca_X11_121, ca_X11_180, ca_X11_329, ca_X11_414, ca_X11_448, cd_X11_writeBids_0, cd_X11_writeBids_10, cd_X11_writeBids_17, cd_X11_writeBids_62, cd_X11_writeBids_77, cd_X11_writeBids_83, fl_X11_445, fl_X11_9, ev_b_13, ev_b_33, ev_b_42, ev_b_48, no_0, no_1, no_lt, no_le, no_eq, no_lt0, no_ge0, no_gt0, no_le0, no_eq0, no_0eq, no_eqm, no_meq, no_m0, no_mlt, no_mge, no_mgt, no_mm, no_i01, no_i10, no_in, no_or, no_ifm, no_mul, nI_add, no_sub, pk_div, iI_if, nI_clamp, oI_n, oI_s, not_true_eq_false, not_false_eq_true, forall_const, true_implies, false_and, and_false, or_false, false_or, Classical.not_not, true_or, or_true, no_b, no_eq1, eq_self, and_self, sk_301, sk_302, sl_302, sp_301])
        | (with_reducible refine ev_gid ?_; simp (disch := first | omega | assumption) only [ev_run_c, ev_run_n, ev_fj, ev_stp, ev_lk, ev_fv, ev_as, ev_sz, ev_st1, ev_st2, ev_rm, ev_pk, ev_Jof, ev_go, lv_args, List.map_cons, List.map_nil, List.zip_cons_cons, List.zip_nil_left, List.zip_nil_right, List.nil_append, List.cons_append, ↓reduceIte, reduceCtorEq, Int.reduceToNat, Nat.reduceEqDiff, Nat.reduceAdd, Nat.reduceLT, Nat.reduceLeDiff, Nat.reduceMul, Nat.reduceSub, Value.category, false_implies, true_and, and_true, Bool.false_eq_true, Option.some.injEq, exists_eq_left', Option.toList_some, Option.toList_none, ev_km, ev_k2, ev_k3, ev_k4, ev_k5, ev_l0, ev_l1, sh_1, sh_2, sh_3, sh_4, sh_5, at_X11_writeBids_10, at_X11_writeBids_17, at_X11_writeBids_62, at_X11_writeBids_77, at_X11_writeBids_83, ca_X11_121, ca_X11_180, ca_X11_329, ca_X11_414, ca_X11_448, cd_X11_writeBids_0, cd_X11_writeBids_10, cd_X11_writeBids_17, cd_X11_writeBids_62, cd_X11_writeBids_77, cd_X11_writeBids_83, fl_X11_445, fl_X11_9, ev_b_13, ev_b_33, ev_b_42, ev_b_48, no_0, no_1, no_lt, no_le, no_eq, no_lt0, no_ge0, no_gt0, no_le0, no_eq0, no_0eq, no_eqm, no_meq, no_m0, no_mlt, no_mge, no_mgt, no_mm, no_i01, no_i10, no_in, no_or, no_ifm, no_mul, nI_add, no_sub, pk_div, iI_if, nI_clamp, oI_n, oI_s, not_true_eq_false, not_false_eq_true, forall_const, true_implies, false_and, and_false, or_false, false_or, Classical.not_not, true_or, or_true, no_b, no_eq1, eq_self, and_self, sk_301, sk_302, sl_302, sp_301])
        | (with_reducible refine And.intro (fun q => ?_) (fun q => ?_) <;> (try simp (disch := first | omega | assumption) only [no_0, no_1, no_lt, no_le, no_eq, no_lt0, no_ge0, no_gt0, no_le0, no_eq0, no_0eq, no_eqm, no_meq, no_m0, no_mlt, no_mge, no_mgt, no_mm, no_i01, no_i10, no_in, no_or, no_ifm, no_mul, nI_add, no_sub, pk_div, iI_if, nI_clamp, oI_n, oI_s, not_true_eq_false, not_false_eq_true, forall_const, true_implies, false_and, and_false, or_false, false_or, Classical.not_not, true_or, or_true, no_b, no_eq1, eq_self, and_self, sk_301, sk_302, sl_302, sp_301] at q))
        | (with_reducible refine ev_ci k0 ?_)
        | with_reducible refine ev_ci (m_X11_mayPerson hok (by first | with_reducible assumption | exact th_R (by with_reducible assumption) | exact mw_R | exact ms_R) (by with_reducible assumption) ?_ ?_ _) ?_
        | with_reducible refine ev_ci (m_X11_of hok (by first | exact MR_re (by with_reducible assumption) | exact MR_re mw_R) ?_ ?_) ?_
        | with_reducible refine ev_ci (m_X11_seatOf hok (by first | exact MR_re (by with_reducible assumption) | exact MR_re mw_R) ?_ ?_ ?_ ?_) ?_
        | with_reducible refine ev_ci (m_X11_conflictOf hok (by first | with_reducible assumption | exact th_R (by with_reducible assumption) | exact mw_R | exact ms_R) (by with_reducible assumption) ?_ ?_) ?_
        | omega
        | with_reducible assumption
        | with_reducible rfl
        | with_reducible refine lp_nx ?_ ?_ ?_ ?_
        | with_reducible refine lp_st ?_ ?_ ?_
        | with_reducible refine ls_c ?_ ?_
        | with_reducible refine vi_c ?_
        | with_reducible refine re_c ?_
        | with_reducible refine vz_c ?_
        | with_reducible refine rz_c ?_
        | exact trivial
        | with_reducible refine And.intro ?_ ?_
        | simp (disch := first | omega | assumption) only [ev_run_c, ev_run_n, ev_fj, ev_stp, ev_lk, ev_fv, ev_as, ev_sz, ev_st1, ev_st2, ev_rm, ev_pk, ev_Jof, ev_go, lv_args, List.map_cons, List.map_nil, List.zip_cons_cons, List.zip_nil_left, List.zip_nil_right, List.nil_append, List.cons_append, ↓reduceIte, reduceCtorEq, Int.reduceToNat, Nat.reduceEqDiff, Nat.reduceAdd, Nat.reduceLT, Nat.reduceLeDiff, Nat.reduceMul, Nat.reduceSub, Value.category, false_implies, true_and, and_true, Bool.false_eq_true, Option.some.injEq, exists_eq_left', Option.toList_some, Option.toList_none, ev_km, ev_k2, ev_k3, ev_k4, ev_k5, ev_l0, ev_l1, sh_1, sh_2, sh_3, sh_4, sh_5, at_X11_writeBids_10, at_X11_writeBids_17, at_X11_writeBids_62, at_X11_writeBids_77, at_X11_writeBids_83, ca_X11_121, ca_X11_180, ca_X11_329, ca_X11_414, ca_X11_448, cd_X11_writeBids_0, cd_X11_writeBids_10, cd_X11_writeBids_17, cd_X11_writeBids_62, cd_X11_writeBids_77, cd_X11_writeBids_83, fl_X11_445, fl_X11_9, ev_b_13, ev_b_33, ev_b_42, ev_b_48, no_0, no_1, no_lt, no_le, no_eq, no_lt0, no_ge0, no_gt0, no_le0, no_eq0, no_0eq, no_eqm, no_meq, no_m0, no_mlt, no_mge, no_mgt, no_mm, no_i01, no_i10, no_in, no_or, no_ifm, no_mul, nI_add, no_sub, pk_div, iI_if, nI_clamp, oI_n, oI_s, not_true_eq_false, not_false_eq_true, forall_const, true_implies, false_and, and_false, or_false, false_or, Classical.not_not, true_or, or_true, no_b, no_eq1, eq_self, and_self, sk_301, sk_302, sl_302, sp_301]
        | exact rfl
        | (split <;> omega))
    | some i =>
      have gc := c1_s g
      rw [v1_s g, gc]
      obtain ⟨hi, e5⟩ := rx_s (by omega) g
      subst e5
      rw [c] at he
      refine ⟨_, m_writeBidsR hok hN hI he (by omega) hi gc, MS_out (MS_th h), Fq_tr (Fq_m Fm_th) pgr_q, (pgr_n (by omega) (by omega)).trans th_0⟩
theorem M_outputByte (hok : ev_ok sh_S G) (h : MS σ μ) (hA : OKA σ) (x : Int32) : s_res mi_X11_outputByte [.ref 301, .int x] μ G (s_outputByte σ x) := by
  have hb : aGn σ ≤ 64 := hA.2.2.2.2.2.2.2.2.2.1
  have h1 : μ.1 301 20 = nI (aGn σ) := h.2.2.2.2.2.2.2.2.2.2.1
  have h2 : ∀ i, i < aGn σ → μ.1 309 i = nI (aG σ i) := h.2.2.2.2.2.2.2.2.2.2.2
  unfold s_outputByte
  cases g : rx (aGn σ) x with
  | none =>
    refine ⟨th μ 1, ?_, MS_th h, Fq_m Fm_th, th_0⟩
    have e1 := rx_n (by omega) g
    have k1 := m_X11_may (μ := μ) hok 0 1 1 (by omega) (by omega) (by omega)
    rw [thc_1] at k1
    refine ev_tri hok (okM_X11_outputByte 0) (Nat.le_of_ble_eq_true rfl) 400 ?_
    rw [at_X11_outputByte_0]
    repeat' (first
      | (with_reducible refine ev_rid ?_; simp (disch := first | omega | assumption) only [ev_run_c, ev_run_n, ev_fj, ev_stp, ev_lk, ev_fv, ev_as, ev_sz, ev_st1, ev_st2, ev_rm, ev_pk, ev_Jof, ev_go, lv_args, List.map_cons, List.map_nil, List.zip_cons_cons, List.zip_nil_left, List.zip_nil_right, List.nil_append, List.cons_append, ↓reduceIte, reduceCtorEq, Int.reduceToNat, Nat.reduceEqDiff, Nat.reduceAdd, Nat.reduceLT, Nat.reduceLeDiff, Nat.reduceMul, Nat.reduceSub, Value.category, false_implies, true_and, and_true, Bool.false_eq_true, Option.some.injEq, exists_eq_left', Option.toList_some, Option.toList_none, ev_km, ev_k2, ev_k3, ev_k4, ev_k5, ev_l0, ev_l1, sh_1, sh_2, sh_3, sh_4, sh_5, at_X11_outputByte_29, at_X11_outputByte_30, ca_X11_43, ca_X11_72, cd_X11_outputByte_0, cd_X11_outputByte_29, cd_X11_outputByte_30, fl_X11_37, fl_X11_445, no_0, no_1, no_lt, no_lt0, no_ge0, no_gt0, no_le0, no_eq0, no_0eq, no_eqm, no_meq, no_m0, no_mlt, no_mge, no_mgt, no_mm, no_i01, no_i10, no_in, no_or, no_ifm, no_mul, nI_add, pk_div, iI_if, nI_clamp, oI_n, oI_s, not_true_eq_false, not_false_eq_true, forall_const, true_implies, false_and, and_false, or_false, false_or, Classical.not_not, true_or, or_true, no_b, no_eq1, eq_self, and_self, sk_301, sk_302, sl_302, sp_301, h1, dI_i, e1])
      | (with_reducible refine ev_gid ?_; simp (disch := first | omega | assumption) only [ev_run_c, ev_run_n, ev_fj, ev_stp, ev_lk, ev_fv, ev_as, ev_sz, ev_st1, ev_st2, ev_rm, ev_pk, ev_Jof, ev_go, lv_args, List.map_cons, List.map_nil, List.zip_cons_cons, List.zip_nil_left, List.zip_nil_right, List.nil_append, List.cons_append, ↓reduceIte, reduceCtorEq, Int.reduceToNat, Nat.reduceEqDiff, Nat.reduceAdd, Nat.reduceLT, Nat.reduceLeDiff, Nat.reduceMul, Nat.reduceSub, Value.category, false_implies, true_and, and_true, Bool.false_eq_true, Option.some.injEq, exists_eq_left', Option.toList_some, Option.toList_none, ev_km, ev_k2, ev_k3, ev_k4, ev_k5, ev_l0, ev_l1, sh_1, sh_2, sh_3, sh_4, sh_5, at_X11_outputByte_29, at_X11_outputByte_30, ca_X11_43, ca_X11_72, cd_X11_outputByte_0, cd_X11_outputByte_29, cd_X11_outputByte_30, fl_X11_37, fl_X11_445, no_0, no_1, no_lt, no_lt0, no_ge0, no_gt0, no_le0, no_eq0, no_0eq, no_eqm, no_meq, no_m0, no_mlt, no_mge, no_mgt, no_mm, no_i01, no_i10, no_in, no_or, no_ifm, no_mul, nI_add, pk_div, iI_if, nI_clamp, oI_n, oI_s, not_true_eq_false, not_false_eq_true, forall_const, true_implies, false_and, and_false, or_false, false_or, Classical.not_not, true_or, or_true, no_b, no_eq1, eq_self, and_self, sk_301, sk_302, sl_302, sp_301, h1, dI_i, e1])
      | (with_reducible refine And.intro (fun q => ?_) (fun q => ?_) <;> (try simp (disch := first | omega | assumption) only [no_0, no_1, no_lt, no_le, no_eq, no_lt0, no_ge0, no_gt0, no_le0, no_eq0, no_0eq, no_eqm, no_meq, no_m0, no_mlt, no_mge, no_mgt, no_mm, no_i01, no_i10, no_in, no_or, no_ifm, no_mul, nI_add, no_sub, pk_div, iI_if, nI_clamp, oI_n, oI_s, not_true_eq_false, not_false_eq_true, forall_const, true_implies, false_and, and_false, or_false, false_or, Classical.not_not, true_or, or_true, no_b, no_eq1, eq_self, and_self, sk_301, sk_302, sl_302, sp_301, h1, dI_i, e1] at q))
      | (with_reducible refine ev_ci k1 ?_)
      | with_reducible refine ev_ci (m_X11_inI hok _ _ _) ?_
      | with_reducible refine ev_ci (m_X11_in hok _ _ _ ?_ ?_ ?_) ?_
      | with_reducible refine ev_ci (m_X11_may hok _ _ _ ?_ ?_ ?_) ?_
      | omega
      | with_reducible assumption
      | with_reducible rfl
      | with_reducible refine lp_nx ?_ ?_ ?_ ?_
      | with_reducible refine lp_st ?_ ?_ ?_
      | with_reducible refine ls_c ?_ ?_
      | with_reducible refine vi_c ?_
      | with_reducible refine re_c ?_
      | with_reducible refine vz_c ?_
      | with_reducible refine rz_c ?_
      | exact trivial
      | with_reducible refine And.intro ?_ ?_
      | simp (disch := first | omega | assumption) only [ev_run_c, ev_run_n, ev_fj, ev_stp, ev_lk, ev_fv, ev_as, ev_sz, ev_st1, ev_st2, ev_rm, ev_pk, ev_Jof, ev_go, lv_args, List.map_cons, List.map_nil, List.zip_cons_cons, List.zip_nil_left, List.zip_nil_right, List.nil_append, List.cons_append, ↓reduceIte, reduceCtorEq, Int.reduceToNat, Nat.reduceEqDiff, Nat.reduceAdd, Nat.reduceLT, Nat.reduceLeDiff, Nat.reduceMul, Nat.reduceSub, Value.category, false_implies, true_and, and_true, Bool.false_eq_true, Option.some.injEq, exists_eq_left', Option.toList_some, Option.toList_none, ev_km, ev_k2, ev_k3, ev_k4, ev_k5, ev_l0, ev_l1, sh_1, sh_2, sh_3, sh_4, sh_5, at_X11_outputByte_29, at_X11_outputByte_30, ca_X11_43, ca_X11_72, cd_X11_outputByte_0, cd_X11_outputByte_29, cd_X11_outputByte_30, fl_X11_37, fl_X11_445, no_0, no_1, no_lt, no_lt0, no_ge0, no_gt0, no_le0, no_eq0, no_0eq, no_eqm, no_meq, no_m0, no_mlt, no_mge, no_mgt, no_mm, no_i01, no_i10, no_in, no_or, no_ifm, no_mul, nI_add, pk_div, iI_if, nI_clamp, oI_n, oI_s, not_true_eq_false, not_false_eq_true, forall_const, true_implies, false_and, and_false, or_false, false_or, Classical.not_not, true_or, or_true, no_b, no_eq1, eq_self, and_self, sk_301, sk_302, sl_302, sp_301, h1, dI_i, e1]
      | exact rfl
      | (split <;> omega))
  | some j =>
    obtain ⟨hj, e5⟩ := rx_s (by omega) g
    subst e5
    have e1 := rx_y (by omega) hj
    have k1 := m_X11_may (μ := μ) hok 1 1 1 (by omega) (by omega) (by omega)
    rw [thc_0] at k1
    have h3 : (th μ 0).1 309 j = nI (aG σ j) := (th_1 (by omega)).trans (h2 j hj)
    refine ⟨th μ 0, ?_, MS_th h, Fq_m Fm_th, th_0⟩
    refine ev_tri hok (okM_X11_outputByte 0) (Nat.le_of_ble_eq_true rfl) 400 ?_
    rw [at_X11_outputByte_0]
    repeat' (first
      | (with_reducible refine ev_rid ?_; simp (disch := first | omega | assumption) only [ev_run_c, ev_run_n, ev_fj, ev_stp, ev_lk, ev_fv, ev_as, ev_sz, ev_st1, ev_st2, ev_rm, ev_pk, ev_Jof, ev_go, lv_args, List.map_cons, List.map_nil, List.zip_cons_cons, List.zip_nil_left, List.zip_nil_right, List.nil_append, List.cons_append, ↓reduceIte, reduceCtorEq, Int.reduceToNat, Nat.reduceEqDiff, Nat.reduceAdd, Nat.reduceLT, Nat.reduceLeDiff, Nat.reduceMul, Nat.reduceSub, Value.category, false_implies, true_and, and_true, Bool.false_eq_true, Option.some.injEq, exists_eq_left', Option.toList_some, Option.toList_none, ev_km, ev_k2, ev_k3, ev_k4, ev_k5, ev_l0, ev_l1, sh_1, sh_2, sh_3, sh_4, sh_5, at_X11_outputByte_29, at_X11_outputByte_30, ca_X11_43, ca_X11_72, cd_X11_outputByte_0, cd_X11_outputByte_29, cd_X11_outputByte_30, fl_X11_37, fl_X11_445, no_0, no_1, no_lt, no_lt0, no_ge0, no_gt0, no_le0, no_eq0, no_0eq, no_eqm, no_meq, no_m0, no_mlt, no_mge, no_mgt, no_mm, no_i01, no_i10, no_in, no_or, no_ifm, no_mul, nI_add, pk_div, iI_if, nI_clamp, oI_n, oI_s, not_true_eq_false, not_false_eq_true, forall_const, true_implies, false_and, and_false, or_false, false_or, Classical.not_not, true_or, or_true, no_b, no_eq1, eq_self, and_self, sk_301, sk_302, sl_302, sp_301, h1, h3, dI_i, e1, sk_309, sl_309, sp_309])
      | (with_reducible refine ev_gid ?_; simp (disch := first | omega | assumption) only [ev_run_c, ev_run_n, ev_fj, ev_stp, ev_lk, ev_fv, ev_as, ev_sz, ev_st1, ev_st2, ev_rm, ev_pk, ev_Jof, ev_go, lv_args, List.map_cons, List.map_nil, List.zip_cons_cons, List.zip_nil_left, List.zip_nil_right, List.nil_append, List.cons_append, ↓reduceIte, reduceCtorEq, Int.reduceToNat, Nat.reduceEqDiff, Nat.reduceAdd, Nat.reduceLT, Nat.reduceLeDiff, Nat.reduceMul, Nat.reduceSub, Value.category, false_implies, true_and, and_true, Bool.false_eq_true, Option.some.injEq, exists_eq_left', Option.toList_some, Option.toList_none, ev_km, ev_k2, ev_k3, ev_k4, ev_k5, ev_l0, ev_l1, sh_1, sh_2, sh_3, sh_4, sh_5, at_X11_outputByte_29, at_X11_outputByte_30, ca_X11_43, ca_X11_72, cd_X11_outputByte_0, cd_X11_outputByte_29, cd_X11_outputByte_30, fl_X11_37, fl_X11_445, no_0, no_1, no_lt, no_lt0, no_ge0, no_gt0, no_le0, no_eq0, no_0eq, no_eqm, no_meq, no_m0, no_mlt, no_mge, no_mgt, no_mm, no_i01, no_i10, no_in, no_or, no_ifm, no_mul, nI_add, pk_div, iI_if, nI_clamp, oI_n, oI_s, not_true_eq_false, not_false_eq_true, forall_const, true_implies, false_and, and_false, or_false, false_or, Classical.not_not, true_or, or_true, no_b, no_eq1, eq_self, and_self, sk_301, sk_302, sl_302, sp_301, h1, h3, dI_i, e1, sk_309, sl_309, sp_309])
      | (with_reducible refine And.intro (fun q => ?_) (fun q => ?_) <;> (try simp (disch := first | omega | assumption) only [no_0, no_1, no_lt, no_le, no_eq, no_lt0, no_ge0, no_gt0, no_le0, no_eq0, no_0eq, no_eqm, no_meq, no_m0, no_mlt, no_mge, no_mgt, no_mm, no_i01, no_i10, no_in, no_or, no_ifm, no_mul, nI_add, no_sub, pk_div, iI_if, nI_clamp, oI_n, oI_s, not_true_eq_false, not_false_eq_true, forall_const, true_implies, false_and, and_false, or_false, false_or, Classical.not_not, true_or, or_true, no_b, no_eq1, eq_self, and_self, sk_301, sk_302, sl_302, sp_301, h1, h3, dI_i, e1, sk_309, sl_309, sp_309] at q))
      | (with_reducible refine ev_ci k1 ?_)
      | with_reducible refine ev_ci (m_X11_inI hok _ _ _) ?_
      | with_reducible refine ev_ci (m_X11_in hok _ _ _ ?_ ?_ ?_) ?_
      | with_reducible refine ev_ci (m_X11_may hok _ _ _ ?_ ?_ ?_) ?_
      | omega
      | with_reducible assumption
      | with_reducible rfl
      | with_reducible refine lp_nx ?_ ?_ ?_ ?_
      | with_reducible refine lp_st ?_ ?_ ?_
      | with_reducible refine ls_c ?_ ?_
      | with_reducible refine vi_c ?_
      | with_reducible refine re_c ?_
      | with_reducible refine vz_c ?_
      | with_reducible refine rz_c ?_
      | exact trivial
      | with_reducible refine And.intro ?_ ?_
      | simp (disch := first | omega | assumption) only [ev_run_c, ev_run_n, ev_fj, ev_stp, ev_lk, ev_fv, ev_as, ev_sz, ev_st1, ev_st2, ev_rm, ev_pk, ev_Jof, ev_go, lv_args, List.map_cons, List.map_nil, List.zip_cons_cons, List.zip_nil_left, List.zip_nil_right, List.nil_append, List.cons_append, ↓reduceIte, reduceCtorEq, Int.reduceToNat, Nat.reduceEqDiff, Nat.reduceAdd, Nat.reduceLT, Nat.reduceLeDiff, Nat.reduceMul, Nat.reduceSub, Value.category, false_implies, true_and, and_true, Bool.false_eq_true, Option.some.injEq, exists_eq_left', Option.toList_some, Option.toList_none, ev_km, ev_k2, ev_k3, ev_k4, ev_k5, ev_l0, ev_l1, sh_1, sh_2, sh_3, sh_4, sh_5, at_X11_outputByte_29, at_X11_outputByte_30, ca_X11_43, ca_X11_72, cd_X11_outputByte_0, cd_X11_outputByte_29, cd_X11_outputByte_30, fl_X11_37, fl_X11_445, no_0, no_1, no_lt, no_lt0, no_ge0, no_gt0, no_le0, no_eq0, no_0eq, no_eqm, no_meq, no_m0, no_mlt, no_mge, no_mgt, no_mm, no_i01, no_i10, no_in, no_or, no_ifm, no_mul, nI_add, pk_div, iI_if, nI_clamp, oI_n, oI_s, not_true_eq_false, not_false_eq_true, forall_const, true_implies, false_and, and_false, or_false, false_or, Classical.not_not, true_or, or_true, no_b, no_eq1, eq_self, and_self, sk_301, sk_302, sl_302, sp_301, h1, h3, dI_i, e1, sk_309, sl_309, sp_309]
      | exact rfl
      | (split <;> omega))
end MPage2
