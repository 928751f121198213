/-! ===== the reference: the middle score, talks ===== -/
section MTalk
variable {G : ev_G} {N g : Nat → Nat} {μ : ev_M}
def cnt (N : Nat → Nat) (q s : Nat) : Nat → Nat := sm (fun i => if N (8 + 59 * i + (23 + q)) ≠ 0 ∧ N (8 + 59 * i + (23 + q)) ≤ s then 1 else 0)
theorem cnt_le (N : Nat → Nat) (q s n : Nat) : cnt N q s n ≤ n := by
  have := sm_le (f := fun i => if N (8 + 59 * i + (23 + q)) ≠ 0 ∧ N (8 + 59 * i + (23 + q)) ≤ s then 1 else 0) (B := 1) n (fun k _ => by (try dsimp only); split <;> omega)
  unfold cnt; omega
theorem cnt_y {q s k : Nat} (h : N (8 + 59 * k + (23 + q)) ≠ 0) (h2 : N (8 + 59 * k + (23 + q)) ≤ s) : cnt N q s k + 1 = cnt N q s (k + 1) := by
  show _ = cnt N q s k + (if N (8 + 59 * k + (23 + q)) ≠ 0 ∧ N (8 + 59 * k + (23 + q)) ≤ s then 1 else 0)
  rw [if_pos ⟨h, h2⟩]
theorem cnt_n {q s k : Nat} (h : ¬ (N (8 + 59 * k + (23 + q)) ≠ 0 ∧ N (8 + 59 * k + (23 + q)) ≤ s)) : cnt N q s k + 0 = cnt N q s (k + 1) := by
  show _ = cnt N q s k + (if N (8 + 59 * k + (23 + q)) ≠ 0 ∧ N (8 + 59 * k + (23 + q)) ≤ s then 1 else 0)
  rw [if_neg h]
def mdf (N : Nat → Nat) (q : Nat) : Nat → Option Nat := fun s => if (scs N q (N 0) - 1) / 2 < cnt N q s (N 0) then some s else none
def o0 : Option Nat → Nat
  | none => 0
  | some s => s
def mid (N : Nat → Nat) (q : Nat) : Nat := o0 (foF (mdf N q) 1 (10 - 1))
theorem mid_le (N : Nat → Nat) (q : Nat) : mid N q ≤ 9 := by
  unfold mid
  cases h : foF (mdf N q) 1 (10 - 1) with
  | none => exact Nat.zero_le _
  | some s =>
    obtain ⟨j, h1, h2, h3⟩ := foF_in h
    unfold mdf at h3
    split at h3
    · cases h3; show s ≤ 9; omega
    · cases h3
set_option maxHeartbeats 1000000 in
theorem m_X11_middle (hok : ev_ok sh_S G) (hN : MR N μ) (hI : INV N) {q : Nat} (hq : q < 10) (h0 : 0 < scs N q (N 0)) : ev_T sh_S G mi_X11_middle [.ref 301, .int (nI q)] μ (.inl (some (.int (nI (mid N q))), μ)) := by
  have hh := iv_h hI
  have hN' : ∀ k, k < 1042 → μ.1 302 k = nI (N k) := hN
  have h2 := scs_le N q (N 0)
  refine ev_triG hok (okM_X11_middle 0) (Nat.le_of_ble_eq_true rfl) [(12, [0, 1, 2, 3]), (24, [0, 1, 2, 3, 4, 5])] 400 (fun pc a b _ => if pc = 12 then (1 ≤ a ∧ a ≤ 10) ∧ foF (mdf N q) 1 (10 - 1) = foF (mdf N q) a (10 - a) else (1 ≤ a ∧ a ≤ 9 ∧ b ≤ N 0) ∧ foF (mdf N q) 1 (10 - 1) = foF (mdf N q) a (10 - a)) (fun pc a b _ => if pc = 12 then [.ref 301, .int (nI q), .int (nI ((scs N q (N 0) - 1) / 2)), .int (nI a)] else [.ref 301, .int (nI q), .int (nI ((scs N q (N 0) - 1) / 2)), .int (nI a), .int (nI (cnt N q a b)), .int (nI b)]) (fun _ _ _ _ => μ) (fun pc a b _ => if pc = 12 then (10 - a) * 20 + 18 else (10 - a) * 20 + (16 - b)) ?_ ?_
  · intro x hx a b c hP
    simp only [List.mem_cons, List.not_mem_nil, or_false] at hx
    rcases hx with rfl | rfl
    · obtain ⟨hP, hf⟩ : (1 ≤ a ∧ a ≤ 10) ∧ foF (mdf N q) 1 (10 - 1) = foF (mdf N q) a (10 - a) := hP
      dsimp only
      rw [at_X11_middle_12]
      rcases Nat.lt_or_ge a 10 with h1 | h1
      · repeat' (first
          | (with_reducible refine ev_rid ?_; simp (disch := first | omega | assumption) only [ev_run_c, ev_run_n, ev_fj, ev_stp, ev_lk, ev_fv, ev_as, ev_sz, ev_st1, ev_st2, ev_rm, ev_pk, ev_Jof, ev_go, lv_args, List.map_cons, List.map_nil, List.zip_cons_cons, List.zip_nil_left, List.zip_nil_right, List.nil_append, List.cons_append, ↓reduceIte, reduceCtorEq, Int.reduceToNat, Nat.reduceEqDiff, Nat.reduceAdd, Nat.reduceLT, Nat.reduceLeDiff, Nat.reduceMul, Value.category, false_implies, true_and, and_true, Bool.false_eq_true, Option.some.injEq, exists_eq_left', Option.toList_some, Option.toList_none, ev_km, ev_k2, ev_k3, ev_k4, ev_k5, ev_l0, ev_l1, sh_1, sh_2, sh_3, sh_4, sh_5, at_X11_middle_12, at_X11_middle_24, at_X11_middle_65, at_X11_middle_66, at_X11_middle_78, at_X11_middle_86, at_X11_middle_92, ca_X11_121, ca_X11_189, ca_X11_201, ca_X11_325, cd_X11_middle_0, cd_X11_middle_12, cd_X11_middle_24, cd_X11_middle_65, cd_X11_middle_66, cd_X11_middle_78, cd_X11_middle_86, cd_X11_middle_92, fl_X11_9, ev_b_23, ev_b_9, no_0, no_1, no_lt, no_le, no_eq, no_lt0, no_ge0, no_gt0, no_le0, no_eq0, no_0eq, no_eqm, no_meq, no_m0, no_mlt, no_mge, no_mgt, no_mm, no_i01, no_i10, no_in, no_or, no_ifm, no_mul, nI_add, no_sub, pk_div, iI_if, nI_clamp, oI_n, oI_s, not_true_eq_false, not_false_eq_true, forall_const, true_implies, false_and, and_false, or_false, false_or, Classical.not_not, true_or, or_true, no_b, no_eq1, eq_self, and_self, sk_301, sk_302, sl_302, sp_301])
          | (with_reducible refine ev_gid ?_; simp (disch := first | omega | assumption) only [ev_run_c, ev_run_n, ev_fj, ev_stp, ev_lk, ev_fv, ev_as, ev_sz, ev_st1, ev_st2, ev_rm, ev_pk, ev_Jof, ev_go, lv_args, List.map_cons, List.map_nil, List.zip_cons_cons, List.zip_nil_left, List.zip_nil_right, List.nil_append, List.cons_append, ↓reduceIte, reduceCtorEq, Int.reduceToNat, Nat.reduceEqDiff, Nat.reduceAdd, Nat.reduceLT, Nat.reduceLeDiff, Nat.reduceMul, Value.category, false_implies, true_and, and_true, Bool.false_eq_true, Option.some.injEq, exists_eq_left', Option.toList_some, Option.toList_none, ev_km, ev_k2, ev_k3, ev_k4, ev_k5, ev_l0, ev_l1, sh_1, sh_2, sh_3, sh_4, sh_5, at_X11_middle_12, at_X11_middle_24, at_X11_middle_65, at_X11_middle_66, at_X11_middle_78, at_X11_middle_86, at_X11_middle_92, ca_X11_121, ca_X11_189, ca_X11_201, ca_X11_325, cd_X11_middle_0, cd_X11_middle_12, cd_X11_middle_24, cd_X11_middle_65, cd_X11_middle_66, cd_X11_middle_78, cd_X11_middle_86, cd_X11_middle_92, fl_X11_9, ev_b_23, ev_b_9, no_0, no_1, no_lt, no_le, no_eq, no_lt0, no_ge0, no_gt0, no_le0, no_eq0, no_0eq, no_eqm, no_meq, no_m0, no_mlt, no_mge, no_mgt, no_mm, no_i01, no_i10, no_in, no_or, no_ifm, no_mul, nI_add, no_sub, pk_div, iI_if, nI_clamp, oI_n, oI_s, not_true_eq_false, not_false_eq_true, forall_const, true_implies, false_and, and_false, or_false, false_or, Classical.not_not, true_or, or_true, no_b, no_eq1, eq_self, and_self, sk_301, sk_302, sl_302, sp_301])
          | (with_reducible refine And.intro (fun q => ?_) (fun q => ?_) <;> (try simp (disch := first | omega | assumption) only [no_0, no_1, no_lt, no_le, no_eq, no_lt0, no_ge0, no_gt0, no_le0, no_eq0, no_0eq, no_eqm, no_meq, no_m0, no_mlt, no_mge, no_mgt, no_mm, no_i01, no_i10, no_in, no_or, no_ifm, no_mul, nI_add, no_sub, pk_div, iI_if, nI_clamp, oI_n, oI_s, not_true_eq_false, not_false_eq_true, forall_const, true_implies, false_and, and_false, or_false, false_or, Classical.not_not, true_or, or_true, no_b, no_eq1, eq_self, and_self, sk_301, sk_302, sl_302, sp_301] at q))
          | with_reducible refine ev_ci (m_X11_scores hok (by assumption) (by assumption) ?_) ?_
          | with_reducible refine ev_ci (m_X11_isScored hok (by assumption) (by assumption) ?_ ?_) ?_
          | with_reducible refine ev_ci (m_X11_of hok (by first | assumption | exact mw_R) ?_ ?_) ?_
          | with_reducible refine ev_ci (m_X11_of hok (by assumption) ?_ ?_) ?_
          | with_reducible refine ev_ci (m_X11_one hok _ ?_) ?_
          | omega
          | with_reducible assumption
          | with_reducible rfl
          | refine lpG_nx a 0 0 ?_ ?_ ?_ ?_
          | with_reducible refine lp_nx ?_ ?_ ?_ ?_
          | with_reducible refine lp_st ?_ ?_ ?_
          | with_reducible refine ls_c ?_ ?_
          | with_reducible refine vi_c ?_
          | with_reducible refine re_c ?_
          | with_reducible refine vz_c ?_
          | with_reducible refine rz_c ?_
          | exact trivial
          | with_reducible refine And.intro ?_ ?_
          | simp (disch := first | omega | assumption) only [ev_run_c, ev_run_n, ev_fj, ev_stp, ev_lk, ev_fv, ev_as, ev_sz, ev_st1, ev_st2, ev_rm, ev_pk, ev_Jof, ev_go, lv_args, List.map_cons, List.map_nil, List.zip_cons_cons, List.zip_nil_left, List.zip_nil_right, List.nil_append, List.cons_append, ↓reduceIte, reduceCtorEq, Int.reduceToNat, Nat.reduceEqDiff, Nat.reduceAdd, Nat.reduceLT, Nat.reduceLeDiff, Nat.reduceMul, Value.category, false_implies, true_and, and_true, Bool.false_eq_true, Option.some.injEq, exists_eq_left', Option.toList_some, Option.toList_none, ev_km, ev_k2, ev_k3, ev_k4, ev_k5, ev_l0, ev_l1, sh_1, sh_2, sh_3, sh_4, sh_5, at_X11_middle_12, at_X11_middle_24, at_X11_middle_65, at_X11_middle_66, at_X11_middle_78, at_X11_middle_86, at_X11_middle_92, ca_X11_121, ca_X11_189, ca_X11_201, ca_X11_325, cd_X11_middle_0, cd_X11_middle_12, cd_X11_middle_24, cd_X11_middle_65, cd_X11_middle_66, cd_X11_middle_78, cd_X11_middle_86, cd_X11_middle_92, fl_X11_9, ev_b_23, ev_b_9, no_0, no_1, no_lt, no_le, no_eq, no_lt0, no_ge0, no_gt0, no_le0, no_eq0, no_0eq, no_eqm, no_meq, no_m0, no_mlt, no_mge, no_mgt, no_mm, no_i01, no_i10, no_in, no_or, no_ifm, no_mul, nI_add, no_sub, pk_div, iI_if, nI_clamp, oI_n, oI_s, not_true_eq_false, not_false_eq_true, forall_const, true_implies, false_and, and_false, or_false, false_or, Classical.not_not, true_or, or_true, no_b, no_eq1, eq_self, and_self, sk_301, sk_302, sl_302, sp_301]
          | exact rfl
          | (split <;> omega))
      · have e : a = 10 := by omega
        subst e
        have e2 : mid N q = 0 := by unfold mid; rw [hf]; rfl
        rw [e2]
        repeat' (first
          | (with_reducible refine ev_rid ?_; simp (disch := first | omega | assumption) only [ev_run_c, ev_run_n, ev_fj, ev_stp, ev_lk, ev_fv, ev_as, ev_sz, ev_st1, ev_st2, ev_rm, ev_pk, ev_Jof, ev_go, lv_args, List.map_cons, List.map_nil, List.zip_cons_cons, List.zip_nil_left, List.zip_nil_right, List.nil_append, List.cons_append, ↓reduceIte, reduceCtorEq, Int.reduceToNat, Nat.reduceEqDiff, Nat.reduceAdd, Nat.reduceLT, Nat.reduceLeDiff, Nat.reduceMul, Value.category, false_implies, true_and, and_true, Bool.false_eq_true, Option.some.injEq, exists_eq_left', Option.toList_some, Option.toList_none, ev_km, ev_k2, ev_k3, ev_k4, ev_k5, ev_l0, ev_l1, sh_1, sh_2, sh_3, sh_4, sh_5, at_X11_middle_12, at_X11_middle_24, at_X11_middle_65, at_X11_middle_66, at_X11_middle_78, at_X11_middle_86, at_X11_middle_92, ca_X11_121, ca_X11_189, ca_X11_201, ca_X11_325, cd_X11_middle_0, cd_X11_middle_12, cd_X11_middle_24, cd_X11_middle_65, cd_X11_middle_66, cd_X11_middle_78, cd_X11_middle_86, cd_X11_middle_92, fl_X11_9, ev_b_23, ev_b_9, no_0, no_1, no_lt, no_le, no_eq, no_lt0, no_ge0, no_gt0, no_le0, no_eq0, no_0eq, no_eqm, no_meq, no_m0, no_mlt, no_mge, no_mgt, no_mm, no_i01, no_i10, no_in, no_or, no_ifm, no_mul, nI_add, no_sub, pk_div, iI_if, nI_clamp, oI_n, oI_s, not_true_eq_false, not_false_eq_true, forall_const, true_implies, false_and, and_false, or_false, false_or, Classical.not_not, true_or, or_true, no_b, no_eq1, eq_self, and_self, sk_301, sk_302, sl_302, sp_301])
          | (with_reducible refine ev_gid ?_; simp (disch := first | omega | assumption) only [ev_run_c, ev_run_n, ev_fj, ev_stp, ev_lk, ev_fv, ev_as, ev_sz, ev_st1, ev_st2, ev_rm, ev_pk, ev_Jof, ev_go, lv_args, List.map_cons, List.map_nil, List.zip_cons_cons, List.zip_nil_left, List.zip_nil_right, List.nil_append, List.cons_append, ↓reduceIte, reduceCtorEq, Int.reduceToNat, Nat.reduceEqDiff, Nat.reduceAdd, Nat.reduceLT, Nat.reduceLeDiff, Nat.reduceMul, Value.category, false_implies, true_and, and_true, Bool.false_eq_true, Option.some.injEq, exists_eq_left', Option.toList_some, Option.toList_none, ev_km, ev_k2, ev_k3, ev_k4, ev_k5, ev_l0, ev_l1, sh_1, sh_2, sh_3, sh_4, sh_5, at_X11_middle_12, at_X11_middle_24, at_X11_middle_65, at_X11_middle_66, at_X11_middle_78, at_X11_middle_86, at_X11_middle_92, ca_X11_121, ca_X11_189, ca_X11_201, ca_X11_325, cd_X11_middle_0, cd_X11_middle_12, cd_X11_middle_24, cd_X11_middle_65, cd_X11_middle_66, cd_X11_middle_78, cd_X11_middle_86, cd_X11_middle_92, fl_X11_9, ev_b_23, ev_b_9, no_0, no_1, no_lt, no_le, no_eq, no_lt0, no_ge0, no_gt0, no_le0, no_eq0, no_0eq, no_eqm, no_meq, no_m0, no_mlt, no_mge, no_mgt, no_mm, no_i01, no_i10, no_in, no_or, no_ifm, no_mul, nI_add, no_sub, pk_div, iI_if, nI_clamp, oI_n, oI_s, not_true_eq_false, not_false_eq_true, forall_const, true_implies, false_and, and_false, or_false, false_or, Classical.not_not, true_or, or_true, no_b, no_eq1, eq_self, and_self, sk_301, sk_302, sl_302, sp_301])
          | (with_reducible refine And.intro (fun q => ?_) (fun q => ?_) <;> (try simp (disch := first | omega | assumption) only [no_0, no_1, no_lt, no_le, no_eq, no_lt0, no_ge0, no_gt0, no_le0, no_eq0, no_0eq, no_eqm, no_meq, no_m0, no_mlt, no_mge, no_mgt, no_mm, no_i01, no_i10, no_in, no_or, no_ifm, no_mul, nI_add, no_sub, pk_div, iI_if, nI_clamp, oI_n, oI_s, not_true_eq_false, not_false_eq_true, forall_const, true_implies, false_and, and_false, or_false, false_or, Classical.not_not, true_or, or_true, no_b, no_eq1, eq_self, and_self, sk_301, sk_302, sl_302, sp_301] at q))
          | with_reducible refine ev_ci (m_X11_scores hok (by assumption) (by assumption) ?_) ?_
          | with_reducible refine ev_ci (m_X11_isScored hok (by assumption) (by assumption) ?_ ?_) ?_
          | with_reducible refine ev_ci (m_X11_of hok (by first | assumption | exact mw_R) ?_ ?_) ?_
          | with_reducible refine ev_ci (m_X11_of hok (by assumption) ?_ ?_) ?_
          | with_reducible refine ev_ci (m_X11_one hok _ ?_) ?_
          | omega
          | with_reducible assumption
          | with_reducible rfl
          | with_reducible refine lp_nx ?_ ?_ ?_ ?_
          | with_reducible refine lp_st ?_ ?_ ?_
          | with_reducible refine ls_c ?_ ?_
          | with_reducible refine vi_c ?_
          | with_reducible refine re_c ?_
          | with_reducible refine vz_c ?_
          | with_reducible refine rz_c ?_
          | exact trivial
          | with_reducible refine And.intro ?_ ?_
          | simp (disch := first | omega | assumption) only [ev_run_c, ev_run_n, ev_fj, ev_stp, ev_lk, ev_fv, ev_as, ev_sz, ev_st1, ev_st2, ev_rm, ev_pk, ev_Jof, ev_go, lv_args, List.map_cons, List.map_nil, List.zip_cons_cons, List.zip_nil_left, List.zip_nil_right, List.nil_append, List.cons_append, ↓reduceIte, reduceCtorEq, Int.reduceToNat, Nat.reduceEqDiff, Nat.reduceAdd, Nat.reduceLT, Nat.reduceLeDiff, Nat.reduceMul, Value.category, false_implies, true_and, and_true, Bool.false_eq_true, Option.some.injEq, exists_eq_left', Option.toList_some, Option.toList_none, ev_km, ev_k2, ev_k3, ev_k4, ev_k5, ev_l0, ev_l1, sh_1, sh_2, sh_3, sh_4, sh_5, at_X11_middle_12, at_X11_middle_24, at_X11_middle_65, at_X11_middle_66, at_X11_middle_78, at_X11_middle_86, at_X11_middle_92, ca_X11_121, ca_X11_189, ca_X11_201, ca_X11_325, cd_X11_middle_0, cd_X11_middle_12, cd_X11_middle_24, cd_X11_middle_65, cd_X11_middle_66, cd_X11_middle_78, cd_X11_middle_86, cd_X11_middle_92, fl_X11_9, ev_b_23, ev_b_9, no_0, no_1, no_lt, no_le, no_eq, no_lt0, no_ge0, no_gt0, no_le0, no_eq0, no_0eq, no_eqm, no_meq, no_m0, no_mlt, no_mge, no_mgt, no_mm, no_i01, no_i10, no_in, no_or, no_ifm, no_mul, nI_add, no_sub, pk_div, iI_if, nI_clamp, oI_n, oI_s, not_true_eq_false, not_false_eq_true, forall_const, true_implies, false_and, and_false, or_false, false_or, Classical.not_not, true_or, or_true, no_b, no_eq1, eq_self, and_self, sk_301, sk_302, sl_302, sp_301]
          | exact rfl
          | (split <;> omega))
    · obtain ⟨hP, hf⟩ : (1 ≤ a ∧ a ≤ 9 ∧ b ≤ N 0) ∧ foF (mdf N q) 1 (10 - 1) = foF (mdf N q) a (10 - a) := hP
      dsimp only
      rw [at_X11_middle_24]
      have hcl := cnt_le N q a b
      rcases Nat.lt_or_ge b (N 0) with h1 | h1
      · have h3 := iv_pq hI b q (by omega) hq
        repeat' (first
          | (with_reducible refine ev_rid ?_; simp (disch := first | omega | assumption) only [ev_run_c, ev_run_n, ev_fj, ev_stp, ev_lk, ev_fv, ev_as, ev_sz, ev_st1, ev_st2, ev_rm, ev_pk, ev_Jof, ev_go, lv_args, List.map_cons, List.map_nil, List.zip_cons_cons, List.zip_nil_left, List.zip_nil_right, List.nil_append, List.cons_append, ↓reduceIte, reduceCtorEq, Int.reduceToNat, Nat.reduceEqDiff, Nat.reduceAdd, Nat.reduceLT, Nat.reduceLeDiff, Nat.reduceMul, Value.category, false_implies, true_and, and_true, Bool.false_eq_true, Option.some.injEq, exists_eq_left', Option.toList_some, Option.toList_none, ev_km, ev_k2, ev_k3, ev_k4, ev_k5, ev_l0, ev_l1, sh_1, sh_2, sh_3, sh_4, sh_5, at_X11_middle_12, at_X11_middle_24, at_X11_middle_65, at_X11_middle_66, at_X11_middle_78, at_X11_middle_86, at_X11_middle_92, ca_X11_121, ca_X11_189, ca_X11_201, ca_X11_325, cd_X11_middle_0, cd_X11_middle_12, cd_X11_middle_24, cd_X11_middle_65, cd_X11_middle_66, cd_X11_middle_78, cd_X11_middle_86, cd_X11_middle_92, fl_X11_9, ev_b_23, ev_b_9, no_0, no_1, no_lt, no_le, no_eq, no_lt0, no_ge0, no_gt0, no_le0, no_eq0, no_0eq, no_eqm, no_meq, no_m0, no_mlt, no_mge, no_mgt, no_mm, no_i01, no_i10, no_in, no_or, no_ifm, no_mul, nI_add, no_sub, pk_div, iI_if, nI_clamp, oI_n, oI_s, not_true_eq_false, not_false_eq_true, forall_const, true_implies, false_and, and_false, or_false, false_or, Classical.not_not, true_or, or_true, no_b, no_eq1, eq_self, and_self, sk_301, sk_302, sl_302, sp_301, hN'])
          | (with_reducible refine ev_gid ?_; simp (disch := first | omega | assumption) only [ev_run_c, ev_run_n, ev_fj, ev_stp, ev_lk, ev_fv, ev_as, ev_sz, ev_st1, ev_st2, ev_rm, ev_pk, ev_Jof, ev_go, lv_args, List.map_cons, List.map_nil, List.zip_cons_cons, List.zip_nil_left, List.zip_nil_right, List.nil_append, List.cons_append, ↓reduceIte, reduceCtorEq, Int.reduceToNat, Nat.reduceEqDiff, Nat.reduceAdd, Nat.reduceLT, Nat.reduceLeDiff, Nat.reduceMul, Value.category, false_implies, true_and, and_true, Bool.false_eq_true, Option.some.injEq, exists_eq_left', Option.toList_some, Option.toList_none, ev_km, ev_k2, ev_k3, ev_k4, ev_k5, ev_l0, ev_l1, sh_1, sh_2, sh_3, sh_4, sh_5, at_X11_middle_12, at_X11_middle_24, at_X11_middle_65, at_X11_middle_66, at_X11_middle_78, at_X11_middle_86, at_X11_middle_92, ca_X11_121, ca_X11_189, ca_X11_201, ca_X11_325, cd_X11_middle_0, cd_X11_middle_12, cd_X11_middle_24, cd_X11_middle_65, cd_X11_middle_66, cd_X11_middle_78, cd_X11_middle_86, cd_X11_middle_92, fl_X11_9, ev_b_23, ev_b_9, no_0, no_1, no_lt, no_le, no_eq, no_lt0, no_ge0, no_gt0, no_le0, no_eq0, no_0eq, no_eqm, no_meq, no_m0, no_mlt, no_mge, no_mgt, no_mm, no_i01, no_i10, no_in, no_or, no_ifm, no_mul, nI_add, no_sub, pk_div, iI_if, nI_clamp, oI_n, oI_s, not_true_eq_false, not_false_eq_true, forall_const, true_implies, false_and, and_false, or_false, false_or, Classical.not_not, true_or, or_true, no_b, no_eq1, eq_self, and_self, sk_301, sk_302, sl_302, sp_301, hN'])
          | (with_reducible refine And.intro (fun q => ?_) (fun q => ?_) <;> (try simp (disch := first | omega | assumption) only [no_0, no_1, no_lt, no_le, no_eq, no_lt0, no_ge0, no_gt0, no_le0, no_eq0, no_0eq, no_eqm, no_meq, no_m0, no_mlt, no_mge, no_mgt, no_mm, no_i01, no_i10, no_in, no_or, no_ifm, no_mul, nI_add, no_sub, pk_div, iI_if, nI_clamp, oI_n, oI_s, not_true_eq_false, not_false_eq_true, forall_const, true_implies, false_and, and_false, or_false, false_or, Classical.not_not, true_or, or_true, no_b, no_eq1, eq_self, and_self, sk_301, sk_302, sl_302, sp_301, hN'] at q))
          | with_reducible refine ev_ci (m_X11_scores hok (by assumption) (by assumption) ?_) ?_
          | with_reducible refine ev_ci (m_X11_isScored hok (by assumption) (by assumption) ?_ ?_) ?_
          | with_reducible refine ev_ci (m_X11_of hok (by first | assumption | exact mw_R) ?_ ?_) ?_
          | with_reducible refine ev_ci (m_X11_of hok (by assumption) ?_ ?_) ?_
          | with_reducible refine ev_ci (m_X11_one hok _ ?_) ?_
          | omega
          | with_reducible assumption
          | with_reducible rfl
          | refine lpG_nx a (b + 1) 0 ?_ ?_ ?_ ?_
          | (refine cnt_y ?_ ?_ <;> omega)
          | (refine cnt_n ?_; omega)
          | with_reducible refine lp_nx ?_ ?_ ?_ ?_
          | with_reducible refine lp_st ?_ ?_ ?_
          | with_reducible refine ls_c ?_ ?_
          | with_reducible refine vi_c ?_
          | with_reducible refine re_c ?_
          | with_reducible refine vz_c ?_
          | with_reducible refine rz_c ?_
          | exact trivial
          | with_reducible refine And.intro ?_ ?_
          | simp (disch := first | omega | assumption) only [ev_run_c, ev_run_n, ev_fj, ev_stp, ev_lk, ev_fv, ev_as, ev_sz, ev_st1, ev_st2, ev_rm, ev_pk, ev_Jof, ev_go, lv_args, List.map_cons, List.map_nil, List.zip_cons_cons, List.zip_nil_left, List.zip_nil_right, List.nil_append, List.cons_append, ↓reduceIte, reduceCtorEq, Int.reduceToNat, Nat.reduceEqDiff, Nat.reduceAdd, Nat.reduceLT, Nat.reduceLeDiff, Nat.reduceMul, Value.category, false_implies, true_and, and_true, Bool.false_eq_true, Option.some.injEq, exists_eq_left', Option.toList_some, Option.toList_none, ev_km, ev_k2, ev_k3, ev_k4, ev_k5, ev_l0, ev_l1, sh_1, sh_2, sh_3, sh_4, sh_5, at_X11_middle_12, at_X11_middle_24, at_X11_middle_65, at_X11_middle_66, at_X11_middle_78, at_X11_middle_86, at_X11_middle_92, ca_X11_121, ca_X11_189, ca_X11_201, ca_X11_325, cd_X11_middle_0, cd_X11_middle_12, cd_X11_middle_24, cd_X11_middle_65, cd_X11_middle_66, cd_X11_middle_78, cd_X11_middle_86, cd_X11_middle_92, fl_X11_9, ev_b_23, ev_b_9, no_0, no_1, no_lt, no_le, no_eq, no_lt0, no_ge0, no_gt0, no_le0, no_eq0, no_0eq, no_eqm, no_meq, no_m0, no_mlt, no_mge, no_mgt, no_mm, no_i01, no_i10, no_in, no_or, no_ifm, no_mul, nI_add, no_sub, pk_div, iI_if, nI_clamp, oI_n, oI_s, not_true_eq_false, not_false_eq_true, forall_const, true_implies, false_and, and_false, or_false, false_or, Classical.not_not, true_or, or_true, no_b, no_eq1, eq_self, and_self, sk_301, sk_302, sl_302, sp_301, hN']
          | exact rfl
          | (split <;> omega))
      · have e : N 0 = b := by omega
        by_cases h3 : (scs N q (N 0) - 1) / 2 < cnt N q a (N 0)
        · have e2 : mid N q = a := by unfold mid; rw [hf, foF_y (show a < 10 by omega) (if_pos h3)]; rfl
          rw [e2]
          rw [e] at h3 h2
          have h4 : (scs N q b - 1) / 2 ≤ 16 := by omega
          rw [e]
          repeat' (first
            | (with_reducible refine ev_rid ?_; simp (disch := first | omega | assumption) only [ev_run_c, ev_run_n, ev_fj, ev_stp, ev_lk, ev_fv, ev_as, ev_sz, ev_st1, ev_st2, ev_rm, ev_pk, ev_Jof, ev_go, lv_args, List.map_cons, List.map_nil, List.zip_cons_cons, List.zip_nil_left, List.zip_nil_right, List.nil_append, List.cons_append, ↓reduceIte, reduceCtorEq, Int.reduceToNat, Nat.reduceEqDiff, Nat.reduceAdd, Nat.reduceLT, Nat.reduceLeDiff, Nat.reduceMul, Value.category, false_implies, true_and, and_true, Bool.false_eq_true, Option.some.injEq, exists_eq_left', Option.toList_some, Option.toList_none, ev_km, ev_k2, ev_k3, ev_k4, ev_k5, ev_l0, ev_l1, sh_1, sh_2, sh_3, sh_4, sh_5, at_X11_middle_12, at_X11_middle_24, at_X11_middle_65, at_X11_middle_66, at_X11_middle_78, at_X11_middle_86, at_X11_middle_92, ca_X11_121, ca_X11_189, ca_X11_201, ca_X11_325, cd_X11_middle_0, cd_X11_middle_12, cd_X11_middle_24, cd_X11_middle_65, cd_X11_middle_66, cd_X11_middle_78, cd_X11_middle_86, cd_X11_middle_92, fl_X11_9, ev_b_23, ev_b_9, no_0, no_1, no_lt, no_le, no_eq, no_lt0, no_ge0, no_gt0, no_le0, no_eq0, no_0eq, no_eqm, no_meq, no_m0, no_mlt, no_mge, no_mgt, no_mm, no_i01, no_i10, no_in, no_or, no_ifm, no_mul, nI_add, no_sub, pk_div, iI_if, nI_clamp, oI_n, oI_s, not_true_eq_false, not_false_eq_true, forall_const, true_implies, false_and, and_false, or_false, false_or, Classical.not_not, true_or, or_true, no_b, no_eq1, eq_self, and_self, sk_301, sk_302, sl_302, sp_301, hN', e])
            | (with_reducible refine ev_gid ?_; simp (disch := first | omega | assumption) only [ev_run_c, ev_run_n, ev_fj, ev_stp, ev_lk, ev_fv, ev_as, ev_sz, ev_st1, ev_st2, ev_rm, ev_pk, ev_Jof, ev_go, lv_args, List.map_cons, List.map_nil, List.zip_cons_cons, List.zip_nil_left, List.zip_nil_right, List.nil_append, List.cons_append, ↓reduceIte, reduceCtorEq, Int.reduceToNat, Nat.reduceEqDiff, Nat.reduceAdd, Nat.reduceLT, Nat.reduceLeDiff, Nat.reduceMul, Value.category, false_implies, true_and, and_true, Bool.false_eq_true, Option.some.injEq, exists_eq_left', Option.toList_some, Option.toList_none, ev_km, ev_k2, ev_k3, ev_k4, ev_k5, ev_l0, ev_l1, sh_1, sh_2, sh_3, sh_4, sh_5, at_X11_middle_12, at_X11_middle_24, at_X11_middle_65, at_X11_middle_66, at_X11_middle_78, at_X11_middle_86, at_X11_middle_92, ca_X11_121, ca_X11_189, ca_X11_201, ca_X11_325, cd_X11_middle_0, cd_X11_middle_12, cd_X11_middle_24, cd_X11_middle_65, cd_X11_middle_66, cd_X11_middle_78, cd_X11_middle_86, cd_X11_middle_92, fl_X11_9, ev_b_23, ev_b_9, no_0, no_1, no_lt, no_le, no_eq, no_lt0, no_ge0, no_gt0, no_le0, no_eq0, no_0eq, no_eqm, no_meq, no_m0, no_mlt, no_mge, no_mgt, no_mm, no_i01, no_i10, no_in, no_or, no_ifm, no_mul, nI_add, no_sub, pk_div, iI_if, nI_clamp, oI_n, oI_s, not_true_eq_false, not_false_eq_true, forall_const, true_implies, false_and, and_false, or_false, false_or, Classical.not_not, true_or, or_true, no_b, no_eq1, eq_self, and_self, sk_301, sk_302, sl_302, sp_301, hN', e])
            | (with_reducible refine And.intro (fun q => ?_) (fun q => ?_) <;> (try simp (disch := first | omega | assumption) only [no_0, no_1, no_lt, no_le, no_eq, no_lt0, no_ge0, no_gt0, no_le0, no_eq0, no_0eq, no_eqm, no_meq, no_m0, no_mlt, no_mge, no_mgt, no_mm, no_i01, no_i10, no_in, no_or, no_ifm, no_mul, nI_add, no_sub, pk_div, iI_if, nI_clamp, oI_n, oI_s, not_true_eq_false, not_false_eq_true, forall_const, true_implies, false_and, and_false, or_false, false_or, Classical.not_not, true_or, or_true, no_b, no_eq1, eq_self, and_self, sk_301, sk_302, sl_302, sp_301, hN', e] at q))
            | with_reducible refine ev_ci (m_X11_scores hok (by assumption) (by assumption) ?_) ?_
            | with_reducible refine ev_ci (m_X11_isScored hok (by assumption) (by assumption) ?_ ?_) ?_
            | with_reducible refine ev_ci (m_X11_of hok (by first | assumption | exact mw_R) ?_ ?_) ?_
            | with_reducible refine ev_ci (m_X11_of hok (by assumption) ?_ ?_) ?_
            | with_reducible refine ev_ci (m_X11_one hok _ ?_) ?_
            | omega
            | with_reducible assumption
            | with_reducible rfl
            | with_reducible refine lp_nx ?_ ?_ ?_ ?_
            | with_reducible refine lp_st ?_ ?_ ?_
            | with_reducible refine ls_c ?_ ?_
            | with_reducible refine vi_c ?_
            | with_reducible refine re_c ?_
            | with_reducible refine vz_c ?_
            | with_reducible refine rz_c ?_
            | exact trivial
            | with_reducible refine And.intro ?_ ?_
            | simp (disch := first | omega | assumption) only [ev_run_c, ev_run_n, ev_fj, ev_stp, ev_lk, ev_fv, ev_as, ev_sz, ev_st1, ev_st2, ev_rm, ev_pk, ev_Jof, ev_go, lv_args, List.map_cons, List.map_nil, List.zip_cons_cons, List.zip_nil_left, List.zip_nil_right, List.nil_append, List.cons_append, ↓reduceIte, reduceCtorEq, Int.reduceToNat, Nat.reduceEqDiff, Nat.reduceAdd, Nat.reduceLT, Nat.reduceLeDiff, Nat.reduceMul, Value.category, false_implies, true_and, and_true, Bool.false_eq_true, Option.some.injEq, exists_eq_left', Option.toList_some, Option.toList_none, ev_km, ev_k2, ev_k3, ev_k4, ev_k5, ev_l0, ev_l1, sh_1, sh_2, sh_3, sh_4, sh_5, at_X11_middle_12, at_X11_middle_24, at_X11_middle_65, at_X11_middle_66, at_X11_middle_78, at_X11_middle_86, at_X11_middle_92, ca_X11_121, ca_X11_189, ca_X11_201, ca_X11_325, cd_X11_middle_0, cd_X11_middle_12, cd_X11_middle_24, cd_X11_middle_65, cd_X11_middle_66, cd_X11_middle_78, cd_X11_middle_86, cd_X11_middle_92, fl_X11_9, ev_b_23, ev_b_9, no_0, no_1, no_lt, no_le, no_eq, no_lt0, no_ge0, no_gt0, no_le0, no_eq0, no_0eq, no_eqm, no_meq, no_m0, no_mlt, no_mge, no_mgt, no_mm, no_i01, no_i10, no_in, no_or, no_ifm, no_mul, nI_add, no_sub, pk_div, iI_if, nI_clamp, oI_n, oI_s, not_true_eq_false, not_false_eq_true, forall_const, true_implies, false_and, and_false, or_false, false_or, Classical.not_not, true_or, or_true, no_b, no_eq1, eq_self, and_self, sk_301, sk_302, sl_302, sp_301, hN', e]
            | exact rfl
            | (split <;> omega))
        · have e2 := hf.trans (foF_n (show a < 10 by omega) (if_neg h3))
          rw [e] at h3 h2
          have h4 : (scs N q b - 1) / 2 ≤ 16 := by omega
          repeat' (first
            | (with_reducible refine ev_rid ?_; simp (disch := first | omega | assumption) only [ev_run_c, ev_run_n, ev_fj, ev_stp, ev_lk, ev_fv, ev_as, ev_sz, ev_st1, ev_st2, ev_rm, ev_pk, ev_Jof, ev_go, lv_args, List.map_cons, List.map_nil, List.zip_cons_cons, List.zip_nil_left, List.zip_nil_right, List.nil_append, List.cons_append, ↓reduceIte, reduceCtorEq, Int.reduceToNat, Nat.reduceEqDiff, Nat.reduceAdd, Nat.reduceLT, Nat.reduceLeDiff, Nat.reduceMul, Value.category, false_implies, true_and, and_true, Bool.false_eq_true, Option.some.injEq, exists_eq_left', Option.toList_some, Option.toList_none, ev_km, ev_k2, ev_k3, ev_k4, ev_k5, ev_l0, ev_l1, sh_1, sh_2, sh_3, sh_4, sh_5, at_X11_middle_12, at_X11_middle_24, at_X11_middle_65, at_X11_middle_66, at_X11_middle_78, at_X11_middle_86, at_X11_middle_92, ca_X11_121, ca_X11_189, ca_X11_201, ca_X11_325, cd_X11_middle_0, cd_X11_middle_12, cd_X11_middle_24, cd_X11_middle_65, cd_X11_middle_66, cd_X11_middle_78, cd_X11_middle_86, cd_X11_middle_92, fl_X11_9, ev_b_23, ev_b_9, no_0, no_1, no_lt, no_le, no_eq, no_lt0, no_ge0, no_gt0, no_le0, no_eq0, no_0eq, no_eqm, no_meq, no_m0, no_mlt, no_mge, no_mgt, no_mm, no_i01, no_i10, no_in, no_or, no_ifm, no_mul, nI_add, no_sub, pk_div, iI_if, nI_clamp, oI_n, oI_s, not_true_eq_false, not_false_eq_true, forall_const, true_implies, false_and, and_false, or_false, false_or, Classical.not_not, true_or, or_true, no_b, no_eq1, eq_self, and_self, sk_301, sk_302, sl_302, sp_301, hN', e])
            | (with_reducible refine ev_gid ?_; simp (disch := first | omega | assumption) only [ev_run_c, ev_run_n, ev_fj, ev_stp, ev_lk, ev_fv, ev_as, ev_sz, ev_st1, ev_st2, ev_rm, ev_pk, ev_Jof, ev_go, lv_args, List.map_cons, List.map_nil, List.zip_cons_cons, List.zip_nil_left, List.zip_nil_right, List.nil_append, List.cons_append, ↓reduceIte, reduceCtorEq, Int.reduceToNat, Nat.reduceEqDiff, Nat.reduceAdd, Nat.reduceLT, Nat.reduceLeDiff, Nat.reduceMul, Value.category, false_implies, true_and, and_true, Bool.false_eq_true, Option.some.injEq, exists_eq_left', Option.toList_some, Option.toList_none, ev_km, ev_k2, ev_k3, ev_k4, ev_k5, ev_l0, ev_l1, sh_1, sh_2, sh_3, sh_4, sh_5, at_X11_middle_12, at_X11_middle_24, at_X11_middle_65, at_X11_middle_66, at_X11_middle_78, at_X11_middle_86, at_X11_middle_92, ca_X11_121, ca_X11_189, ca_X11_201, ca_X11_325, cd_X11_middle_0, cd_X11_middle_12, cd_X11_middle_24, cd_X11_middle_65, cd_X11_middle_66, cd_X11_middle_78, cd_X11_middle_86, cd_X11_middle_92, fl_X11_9, ev_b_23, ev_b_9, no_0, no_1, no_lt, no_le, no_eq, no_lt0, no_ge0, no_gt0, no_le0, no_eq0, no_0eq, no_eqm, no_meq, no_m0, no_mlt, no_mge, no_mgt, no_mm, no_i01, no_i10, no_in, no_or, no_ifm, no_mul, nI_add, no_sub, pk_div, iI_if, nI_clamp, oI_n, oI_s, not_true_eq_false, not_false_eq_true, forall_const, true_implies, false_and, and_false, or_false, false_or, Classical.not_not, true_or, or_true, no_b, no_eq1, eq_self, and_self, sk_301, sk_302, sl_302, sp_301, hN', e])
            | (with_reducible refine And.intro (fun q => ?_) (fun q => ?_) <;> (try simp (disch := first | omega | assumption) only [no_0, no_1, no_lt, no_le, no_eq, no_lt0, no_ge0, no_gt0, no_le0, no_eq0, no_0eq, no_eqm, no_meq, no_m0, no_mlt, no_mge, no_mgt, no_mm, no_i01, no_i10, no_in, no_or, no_ifm, no_mul, nI_add, no_sub, pk_div, iI_if, nI_clamp, oI_n, oI_s, not_true_eq_false, not_false_eq_true, forall_const, true_implies, false_and, and_false, or_false, false_or, Classical.not_not, true_or, or_true, no_b, no_eq1, eq_self, and_self, sk_301, sk_302, sl_302, sp_301, hN', e] at q))
            | with_reducible refine ev_ci (m_X11_scores hok (by assumption) (by assumption) ?_) ?_
            | with_reducible refine ev_ci (m_X11_isScored hok (by assumption) (by assumption) ?_ ?_) ?_
            | with_reducible refine ev_ci (m_X11_of hok (by first | assumption | exact mw_R) ?_ ?_) ?_
            | with_reducible refine ev_ci (m_X11_of hok (by assumption) ?_ ?_) ?_
            | with_reducible refine ev_ci (m_X11_one hok _ ?_) ?_
            | omega
            | with_reducible assumption
            | with_reducible rfl
            | refine lpG_nx (a + 1) 0 0 ?_ ?_ ?_ ?_
            | with_reducible refine lp_nx ?_ ?_ ?_ ?_
            | with_reducible refine lp_st ?_ ?_ ?_
            | with_reducible refine ls_c ?_ ?_
            | with_reducible refine vi_c ?_
            | with_reducible refine re_c ?_
            | with_reducible refine vz_c ?_
            | with_reducible refine rz_c ?_
            | exact trivial
            | with_reducible refine And.intro ?_ ?_
            | simp (disch := first | omega | assumption) only [ev_run_c, ev_run_n, ev_fj, ev_stp, ev_lk, ev_fv, ev_as, ev_sz, ev_st1, ev_st2, ev_rm, ev_pk, ev_Jof, ev_go, lv_args, List.map_cons, List.map_nil, List.zip_cons_cons, List.zip_nil_left, List.zip_nil_right, List.nil_append, List.cons_append, ↓reduceIte, reduceCtorEq, Int.reduceToNat, Nat.reduceEqDiff, Nat.reduceAdd, Nat.reduceLT, Nat.reduceLeDiff, Nat.reduceMul, Value.category, false_implies, true_and, and_true, Bool.false_eq_true, Option.some.injEq, exists_eq_left', Option.toList_some, Option.toList_none, ev_km, ev_k2, ev_k3, ev_k4, ev_k5, ev_l0, ev_l1, sh_1, sh_2, sh_3, sh_4, sh_5, at_X11_middle_12, at_X11_middle_24, at_X11_middle_65, at_X11_middle_66, at_X11_middle_78, at_X11_middle_86, at_X11_middle_92, ca_X11_121, ca_X11_189, ca_X11_201, ca_X11_325, cd_X11_middle_0, cd_X11_middle_12, cd_X11_middle_24, cd_X11_middle_65, cd_X11_middle_66, cd_X11_middle_78, cd_X11_middle_86, cd_X11_middle_92, fl_X11_9, ev_b_23, ev_b_9, no_0, no_1, no_lt, no_le, no_eq, no_lt0, no_ge0, no_gt0, no_le0, no_eq0, no_0eq, no_eqm, no_meq, no_m0, no_mlt, no_mge, no_mgt, no_mm, no_i01, no_i10, no_in, no_or, no_ifm, no_mul, nI_add, no_sub, pk_div, iI_if, nI_clamp, oI_n, oI_s, not_true_eq_false, not_false_eq_true, forall_const, true_implies, false_and, and_false, or_false, false_or, Classical.not_not, true_or, or_true, no_b, no_eq1, eq_self, and_self, sk_301, sk_302, sl_302, sp_301, hN', e]
            | exact rfl
            | (split <;> omega))
  · rw [at_X11_middle_0]
    repeat' (first
      | (with_reducible refine ev_rid ?_; simp (disch := first | omega | assumption) only [ev_run_c, ev_run_n, ev_fj, ev_stp, ev_lk, ev_fv, ev_as, ev_sz, ev_st1, ev_st2, ev_rm, ev_pk, ev_Jof, ev_go, lv_args, List.map_cons, List.map_nil, List.zip_cons_cons, List.zip_nil_left, List.zip_nil_right, List.nil_append, List.cons_append, ↓reduceIte, reduceCtorEq, Int.reduceToNat, Nat.reduceEqDiff, Nat.reduceAdd, Nat.reduceLT, Nat.reduceLeDiff, Nat.reduceMul, Value.category, false_implies, true_and, and_true, Bool.false_eq_true, Option.some.injEq, exists_eq_left', Option.toList_some, Option.toList_none, ev_km, ev_k2, ev_k3, ev_k4, ev_k5, ev_l0, ev_l1, sh_1, sh_2, sh_3, sh_4, sh_5, at_X11_middle_12, at_X11_middle_24, at_X11_middle_65, at_X11_middle_66, at_X11_middle_78, at_X11_middle_86, at_X11_middle_92, ca_X11_121, ca_X11_189, ca_X11_201, ca_X11_325, cd_X11_middle_0, cd_X11_middle_12, cd_X11_middle_24, cd_X11_middle_65, cd_X11_middle_66, cd_X11_middle_78, cd_X11_middle_86, cd_X11_middle_92, fl_X11_9, ev_b_23, ev_b_9, no_0, no_1, no_lt, no_le, no_eq, no_lt0, no_ge0, no_gt0, no_le0, no_eq0, no_0eq, no_eqm, no_meq, no_m0, no_mlt, no_mge, no_mgt, no_mm, no_i01, no_i10, no_in, no_or, no_ifm, no_mul, nI_add, no_sub, pk_div, iI_if, nI_clamp, oI_n, oI_s, not_true_eq_false, not_false_eq_true, forall_const, true_implies, false_and, and_false, or_false, false_or, Classical.not_not, true_or, or_true, no_b, no_eq1, eq_self, and_self, sk_301, sk_302, sl_302, sp_301])
      | (with_reducible refine ev_gid ?_; simp (disch := first | omega | assumption) only [ev_run_c, ev_run_n, ev_fj, ev_stp, ev_lk, ev_fv, ev_as, ev_sz, ev_st1, ev_st2, ev_rm, ev_pk, ev_Jof, ev_go, lv_args, List.map_cons, List.map_nil, List.zip_cons_cons, List.zip_nil_left, List.zip_nil_right, List.nil_append, List.cons_append, ↓reduceIte, reduceCtorEq, Int.reduceToNat, Nat.reduceEqDiff, Nat.reduceAdd, Nat.reduceLT, Nat.reduceLeDiff, Nat.reduceMul, Value.category, false_implies, true_and, and_true, Bool.false_eq_true, Option.some.injEq, exists_eq_left', Option.toList_some, Option.toList_none, ev_km, ev_k2, ev_k3, ev_k4, ev_k5, ev_l0, ev_l1, sh_1, sh_2, sh_3, sh_4, sh_5, at_X11_middle_12, at_X11_middle_24, at_X11_middle_65, at_X11_middle_66, at_X11_middle_78, at_X11_middle_86, at_X11_middle_92, ca_X11_121, ca_X11_189, ca_X11_201, ca_X11_325, cd_X11_middle_0, cd_X11_middle_12, cd_X11_middle_24, cd_X11_middle_65, cd_X11_middle_66, cd_X11_middle_78, cd_X11_middle_86, cd_X11_middle_92, fl_X11_9, ev_b_23, ev_b_9, no_0, no_1, no_lt, no_le, no_eq, no_lt0, no_ge0, no_gt0, no_le0, no_eq0, no_0eq, no_eqm, no_meq, no_m0, no_mlt, no_mge, no_mgt, no_mm, no_i01, no_i10, no_in, no_or, no_ifm, no_mul, nI_add, no_sub, pk_div, iI_if, nI_clamp, oI_n, oI_s, not_true_eq_false, not_false_eq_true, forall_const, true_implies, false_and, and_false, or_false, false_or, Classical.not_not, true_or, or_true, no_b, no_eq1, eq_self, and_self, sk_301, sk_302, sl_302, sp_301])
      | (with_reducible refine And.intro (fun q => ?_) (fun q => ?_) <;> (try simp (disch := first | omega | assumption) only [no_0, no_1, no_lt, no_le, no_eq, no_lt0, no_ge0, no_gt0, no_le0, no_eq0, no_0eq, no_eqm, no_meq, no_m0, no_mlt, no_mge, no_mgt, no_mm, no_i01, no_i10, no_in, no_or, no_ifm, no_mul, nI_add, no_sub, pk_div, iI_if, nI_clamp, oI_n, oI_s, not_true_eq_false, not_false_eq_true, forall_const, true_implies, false_and, and_false, or_false, false_or, Classical.not_not, true_or, or_true, no_b, no_eq1, eq_self, and_self, sk_301, sk_302, sl_302, sp_301] at q))
      | with_reducible refine ev_ci (m_X11_scores hok (by assumption) (by assumption) ?_) ?_
      | with_reducible refine ev_ci (m_X11_isScored hok (by assumption) (by assumption) ?_ ?_) ?_
      | with_reducible refine ev_ci (m_X11_of hok (by first | assumption | exact mw_R) ?_ ?_) ?_
      | with_reducible refine ev_ci (m_X11_of hok (by assumption) ?_ ?_) ?_
      | with_reducible refine ev_ci (m_X11_one hok _ ?_) ?_
      | omega
      | with_reducible assumption
      | with_reducible rfl
      | refine lpG_st 1 0 0 ?_ ?_ ?_
      | with_reducible refine lp_nx ?_ ?_ ?_ ?_
      | with_reducible refine lp_st ?_ ?_ ?_
      | with_reducible refine ls_c ?_ ?_
      | with_reducible refine vi_c ?_
      | with_reducible refine re_c ?_
      | with_reducible refine vz_c ?_
      | with_reducible refine rz_c ?_
      | exact trivial
      | with_reducible refine And.intro ?_ ?_
      | simp (disch := first | omega | assumption) only [ev_run_c, ev_run_n, ev_fj, ev_stp, ev_lk, ev_fv, ev_as, ev_sz, ev_st1, ev_st2, ev_rm, ev_pk, ev_Jof, ev_go, lv_args, List.map_cons, List.map_nil, List.zip_cons_cons, List.zip_nil_left, List.zip_nil_right, List.nil_append, List.cons_append, ↓reduceIte, reduceCtorEq, Int.reduceToNat, Nat.reduceEqDiff, Nat.reduceAdd, Nat.reduceLT, Nat.reduceLeDiff, Nat.reduceMul, Value.category, false_implies, true_and, and_true, Bool.false_eq_true, Option.some.injEq, exists_eq_left', Option.toList_some, Option.toList_none, ev_km, ev_k2, ev_k3, ev_k4, ev_k5, ev_l0, ev_l1, sh_1, sh_2, sh_3, sh_4, sh_5, at_X11_middle_12, at_X11_middle_24, at_X11_middle_65, at_X11_middle_66, at_X11_middle_78, at_X11_middle_86, at_X11_middle_92, ca_X11_121, ca_X11_189, ca_X11_201, ca_X11_325, cd_X11_middle_0, cd_X11_middle_12, cd_X11_middle_24, cd_X11_middle_65, cd_X11_middle_66, cd_X11_middle_78, cd_X11_middle_86, cd_X11_middle_92, fl_X11_9, ev_b_23, ev_b_9, no_0, no_1, no_lt, no_le, no_eq, no_lt0, no_ge0, no_gt0, no_le0, no_eq0, no_0eq, no_eqm, no_meq, no_m0, no_mlt, no_mge, no_mgt, no_mm, no_i01, no_i10, no_in, no_or, no_ifm, no_mul, nI_add, no_sub, pk_div, iI_if, nI_clamp, oI_n, oI_s, not_true_eq_false, not_false_eq_true, forall_const, true_implies, false_and, and_false, or_false, false_or, Classical.not_not, true_or, or_true, no_b, no_eq1, eq_self, and_self, sk_301, sk_302, sl_302, sp_301]
      | exact rfl
      | (split <;> omega))
/-- a score after a talk -/
def tkv (s m : Nat) : Nat := if s = 0 then 0 else if m + 1 < s then s - 1 else if s + 1 < m then s + 1 else s
def tkN (N : Nat → Nat) (q m k : Nat) : Nat → Nat := fun j => if 31 + q ≤ j ∧ (j - (31 + q)) % 59 = 0 ∧ (j - (31 + q)) / 59 < k then tkv (N j) m else N j
theorem tkN_0 {q m : Nat} : tkN N q m 0 = N := funext fun j => if_neg (by omega)
theorem tkN_at {q m k i : Nat} : tkN N q m k (8 + 59 * i + (23 + q)) = if i < k then tkv (N (8 + 59 * i + (23 + q))) m else N (8 + 59 * i + (23 + q)) := by
  unfold tkN
  by_cases h : i < k
  · rw [if_pos h, if_pos (by omega)]
  · rw [if_neg h, if_neg (by omega)]
theorem tkN_ne {q m k j : Nat} (h : ∀ i, i < k → j ≠ 8 + 59 * i + (23 + q)) : tkN N q m k j = N j := by
  unfold tkN
  rw [if_neg]
  rintro ⟨h1, h2, h3⟩
  exact h ((j - (31 + q)) / 59) h3 (by omega)
theorem tkN_s {q m k : Nat} : up (tkN N q m k) (8 + 59 * k + (23 + q)) (tkv (N (8 + 59 * k + (23 + q))) m) = tkN N q m (k + 1) := by
  funext j
  unfold up tkN
  by_cases h : j = 8 + 59 * k + (23 + q)
  · rw [if_pos h, if_pos (by omega), h]
  · rw [if_neg h]
    by_cases h2 : 31 + q ≤ j ∧ (j - (31 + q)) % 59 = 0 ∧ (j - (31 + q)) / 59 < k
    · rw [if_pos h2, if_pos (by omega)]
    · rw [if_neg h2, if_neg (by omega)]
theorem tkN_u {q m k : Nat} (h : tkv (N (8 + 59 * k + (23 + q))) m = N (8 + 59 * k + (23 + q))) : tkN N q m k = tkN N q m (k + 1) := by
  rw [← tkN_s, h]
  funext j
  unfold up
  split
  · rename_i h2
    rw [h2, tkN_at, if_neg (by omega)]
  · rfl
def chg (N : Nat → Nat) (q m : Nat) : Nat → Nat := sm (fun i => if tkv (N (8 + 59 * i + (23 + q))) m = N (8 + 59 * i + (23 + q)) then 0 else 1)
theorem chg_0 {q m k : Nat} (h : tkv (N (8 + 59 * k + (23 + q))) m = N (8 + 59 * k + (23 + q))) : chg N q m k = chg N q m (k + 1) := by
  show _ = chg N q m k + (if tkv (N (8 + 59 * k + (23 + q))) m = N (8 + 59 * k + (23 + q)) then 0 else 1)
  rw [if_pos h]; rfl
theorem chg_1 {q m k : Nat} (h : ¬ tkv (N (8 + 59 * k + (23 + q))) m = N (8 + 59 * k + (23 + q))) : chg N q m k + 1 = chg N q m (k + 1) := by
  show _ = chg N q m k + (if tkv (N (8 + 59 * k + (23 + q))) m = N (8 + 59 * k + (23 + q)) then 0 else 1)
  rw [if_neg h]
def tlN (N : Nat → Nat) (q : Nat) : Nat → Nat := up (up (tkN N q (mid N q) (N 0)) 6 (N 6 + 1)) 7 (N 7 + chg N q (mid N q) (N 0))
theorem iI_0s {d : Int} : (0 : Int32) - iI d = iI (-d) := by rw [← iI_0, iI_sub, Int.zero_sub]
theorem no_sub1 {a : Nat} (h : 1 ≤ a) : iI ((a : Nat) - (1 : Nat) : Int) = nI (a - 1) := by rw [← iI_n]; exact congrArg iI (by omega)
set_option maxHeartbeats 1000000 in
theorem m_X11_talks (hok : ev_ok sh_S G) (hN : MR N μ) (hI : INV N) {q : Nat} (hq : q < 10) (h0 : 0 < scs N q (N 0)) : ev_T sh_S G mi_X11_talks [.ref 301, .int (nI q)] μ (.inl (some (.int (nI (chg N q (mid N q) (N 0)))), mw μ (tlN N q))) := by
  have hh := iv_h hI
  have hm := mid_le N q
  unfold tlN
  have hlo : ∀ k, k < 8 → tkN N q (mid N q) (N 0) k = N k := fun k hk => tkN_ne (fun i hi => by omega)
  refine ev_tri1 hok (okM_X11_talks 0) (Nat.le_of_ble_eq_true rfl) 11 [0, 1, 2, 3, 4] (N 0) 400 (fun k => [.ref 301, .int (nI q), .int (nI (mid N q)), .int (nI (chg N q (mid N q) k)), .int (nI k)]) (fun k => mw μ (tkN N q (mid N q) k)) (fun _ => True) ?_ ?_
  · intro k hk _
    rw [at_X11_talks_11]
    have e0 : tkN N q (mid N q) k 0 = N 0 := tkN_ne (fun i hi => by omega)
    rcases Nat.lt_or_ge k (N 0) with hkn | hkn
    · have h1 := iv_pq hI k q (by omega) hq
      have e1 : tkN N q (mid N q) k (8 + 59 * k + (23 + q)) = N (8 + 59 * k + (23 + q)) := by rw [tkN_at, if_neg (by omega)]
      by_cases c1 : N (8 + 59 * k + (23 + q)) = 0
      · have c2 : tkv (N (8 + 59 * k + (23 + q))) (mid N q) = N (8 + 59 * k + (23 + q)) := by unfold tkv; rw [if_pos c1, c1]
        have d1 := tkN_u c2
        have d2 := chg_0 c2
        repeat' (first
          | (with_reducible refine ev_rid ?_; simp (disch := first | omega | assumption) only [ev_run_c, ev_run_n, ev_fj, ev_stp, ev_lk, ev_fv, ev_as, ev_sz, ev_st1, ev_st2, ev_rm, ev_pk, ev_Jof, ev_go, lv_args, List.map_cons, List.map_nil, List.zip_cons_cons, List.zip_nil_left, List.zip_nil_right, List.nil_append, List.cons_append, ↓reduceIte, reduceCtorEq, Int.reduceToNat, Nat.reduceEqDiff, Nat.reduceAdd, Nat.reduceLT, Nat.reduceLeDiff, Nat.reduceMul, Value.category, false_implies, true_and, and_true, Bool.false_eq_true, Option.some.injEq, exists_eq_left', Option.toList_some, Option.toList_none, ev_km, ev_k2, ev_k3, ev_k4, ev_k5, ev_l0, ev_l1, sh_1, sh_2, sh_3, sh_4, sh_5, at_X11_talks_11, at_X11_talks_53, at_X11_talks_73, at_X11_talks_77, at_X11_talks_83, at_X11_talks_89, ca_X11_121, ca_X11_149, ca_X11_198, ca_X11_385, cd_X11_talks_0, cd_X11_talks_11, cd_X11_talks_53, cd_X11_talks_73, cd_X11_talks_77, cd_X11_talks_83, cd_X11_talks_89, fl_X11_9, ev_b_23, ev_b_6, ev_b_7, no_0, no_1, no_lt, no_le, no_eq, no_lt0, no_ge0, no_gt0, no_le0, no_eq0, no_0eq, no_eqm, no_meq, no_m0, no_mlt, no_mge, no_mgt, no_mm, no_i01, no_i10, no_in, no_or, no_ifm, no_mul, nI_add, no_sub, pk_div, iI_if, nI_clamp, oI_n, oI_s, not_true_eq_false, not_false_eq_true, forall_const, true_implies, false_and, and_false, or_false, false_or, Classical.not_not, true_or, or_true, no_b, no_eq1, eq_self, and_self, sk_301, sk_302, sl_302, sp_301, mw_302, e0, e1, c1])
          | (with_reducible refine ev_gid ?_; simp (disch := first | omega | assumption) only [ev_run_c, ev_run_n, ev_fj, ev_stp, ev_lk, ev_fv, ev_as, ev_sz, ev_st1, ev_st2, ev_rm, ev_pk, ev_Jof, ev_go, lv_args, List.map_cons, List.map_nil, List.zip_cons_cons, List.zip_nil_left, List.zip_nil_right, List.nil_append, List.cons_append, ↓reduceIte, reduceCtorEq, Int.reduceToNat, Nat.reduceEqDiff, Nat.reduceAdd, Nat.reduceLT, Nat.reduceLeDiff, Nat.reduceMul, Value.category, false_implies, true_and, and_true, Bool.false_eq_true, Option.some.injEq, exists_eq_left', Option.toList_some, Option.toList_none, ev_km, ev_k2, ev_k3, ev_k4, ev_k5, ev_l0, ev_l1, sh_1, sh_2, sh_3, sh_4, sh_5, at_X11_talks_11, at_X11_talks_53, at_X11_talks_73, at_X11_talks_77, at_X11_talks_83, at_X11_talks_89, ca_X11_121, ca_X11_149, ca_X11_198, ca_X11_385, cd_X11_talks_0, cd_X11_talks_11, cd_X11_talks_53, cd_X11_talks_73, cd_X11_talks_77, cd_X11_talks_83, cd_X11_talks_89, fl_X11_9, ev_b_23, ev_b_6, ev_b_7, no_0, no_1, no_lt, no_le, no_eq, no_lt0, no_ge0, no_gt0, no_le0, no_eq0, no_0eq, no_eqm, no_meq, no_m0, no_mlt, no_mge, no_mgt, no_mm, no_i01, no_i10, no_in, no_or, no_ifm, no_mul, nI_add, no_sub, pk_div, iI_if, nI_clamp, oI_n, oI_s, not_true_eq_false, not_false_eq_true, forall_const, true_implies, false_and, and_false, or_false, false_or, Classical.not_not, true_or, or_true, no_b, no_eq1, eq_self, and_self, sk_301, sk_302, sl_302, sp_301, mw_302, e0, e1, c1])
          | (with_reducible refine And.intro (fun q => ?_) (fun q => ?_) <;> (try simp (disch := first | omega | assumption) only [no_0, no_1, no_lt, no_le, no_eq, no_lt0, no_ge0, no_gt0, no_le0, no_eq0, no_0eq, no_eqm, no_meq, no_m0, no_mlt, no_mge, no_mgt, no_mm, no_i01, no_i10, no_in, no_or, no_ifm, no_mul, nI_add, no_sub, pk_div, iI_if, nI_clamp, oI_n, oI_s, not_true_eq_false, not_false_eq_true, forall_const, true_implies, false_and, and_false, or_false, false_or, Classical.not_not, true_or, or_true, no_b, no_eq1, eq_self, and_self, sk_301, sk_302, sl_302, sp_301, mw_302, e0, e1, c1] at q))
          | with_reducible refine ev_ci (m_X11_middle hok (by first | with_reducible assumption | exact mw_R | exact ms_R) (by with_reducible assumption) ?_ ?_) ?_
          | with_reducible refine ev_ci (m_X11_of hok (by first | assumption | exact mw_R) ?_ ?_) ?_
          | with_reducible refine ev_ci (m_X11_of hok (by assumption) ?_ ?_) ?_
          | with_reducible refine ev_ci (m_X11_puts hok (by first | assumption | exact mw_R) ?_ ?_) ?_
          | omega
          | with_reducible assumption
          | with_reducible rfl
          | exact d2
          | exact congrArg (mw μ) d1
          | with_reducible refine lp_nx ?_ ?_ ?_ ?_
          | with_reducible refine lp_st ?_ ?_ ?_
          | with_reducible refine ls_c ?_ ?_
          | with_reducible refine vi_c ?_
          | with_reducible refine re_c ?_
          | with_reducible refine vz_c ?_
          | with_reducible refine rz_c ?_
          | exact trivial
          | with_reducible refine And.intro ?_ ?_
          | simp (disch := first | omega | assumption) only [ev_run_c, ev_run_n, ev_fj, ev_stp, ev_lk, ev_fv, ev_as, ev_sz, ev_st1, ev_st2, ev_rm, ev_pk, ev_Jof, ev_go, lv_args, List.map_cons, List.map_nil, List.zip_cons_cons, List.zip_nil_left, List.zip_nil_right, List.nil_append, List.cons_append, ↓reduceIte, reduceCtorEq, Int.reduceToNat, Nat.reduceEqDiff, Nat.reduceAdd, Nat.reduceLT, Nat.reduceLeDiff, Nat.reduceMul, Value.category, false_implies, true_and, and_true, Bool.false_eq_true, Option.some.injEq, exists_eq_left', Option.toList_some, Option.toList_none, ev_km, ev_k2, ev_k3, ev_k4, ev_k5, ev_l0, ev_l1, sh_1, sh_2, sh_3, sh_4, sh_5, at_X11_talks_11, at_X11_talks_53, at_X11_talks_73, at_X11_talks_77, at_X11_talks_83, at_X11_talks_89, ca_X11_121, ca_X11_149, ca_X11_198, ca_X11_385, cd_X11_talks_0, cd_X11_talks_11, cd_X11_talks_53, cd_X11_talks_73, cd_X11_talks_77, cd_X11_talks_83, cd_X11_talks_89, fl_X11_9, ev_b_23, ev_b_6, ev_b_7, no_0, no_1, no_lt, no_le, no_eq, no_lt0, no_ge0, no_gt0, no_le0, no_eq0, no_0eq, no_eqm, no_meq, no_m0, no_mlt, no_mge, no_mgt, no_mm, no_i01, no_i10, no_in, no_or, no_ifm, no_mul, nI_add, no_sub, pk_div, iI_if, nI_clamp, oI_n, oI_s, not_true_eq_false, not_false_eq_true, forall_const, true_implies, false_and, and_false, or_false, false_or, Classical.not_not, true_or, or_true, no_b, no_eq1, eq_self, and_self, sk_301, sk_302, sl_302, sp_301, mw_302, e0, e1, c1]
          | exact rfl
          | (split <;> omega))
      · by_cases c2 : tkv (N (8 + 59 * k + (23 + q))) (mid N q) = N (8 + 59 * k + (23 + q))
        · have d1 := tkN_u c2
          have d2 := chg_0 c2
          unfold tkv at c2
          rw [if_neg c1] at c2
          have c3 : N (8 + 59 * k + (23 + q)) ≤ mid N q + 1 ∧ mid N q ≤ N (8 + 59 * k + (23 + q)) + 1 := by
            split at c2
            · omega
            · split at c2 <;> omega
          by_cases c4 : mid N q ≤ N (8 + 59 * k + (23 + q))
          · have c5 : (0 : Int) ≤ (N (8 + 59 * k + (23 + q)) : Nat) - (mid N q : Nat) := by omega
            repeat' (first
              | (with_reducible refine ev_rid ?_; simp (disch := first | omega | assumption) only [ev_run_c, ev_run_n, ev_fj, ev_stp, ev_lk, ev_fv, ev_as, ev_sz, ev_st1, ev_st2, ev_rm, ev_pk, ev_Jof, ev_go, lv_args, List.map_cons, List.map_nil, List.zip_cons_cons, List.zip_nil_left, List.zip_nil_right, List.nil_append, List.cons_append, ↓reduceIte, reduceCtorEq, Int.reduceToNat, Nat.reduceEqDiff, Nat.reduceAdd, Nat.reduceLT, Nat.reduceLeDiff, Nat.reduceMul, Value.category, false_implies, true_and, and_true, Bool.false_eq_true, Option.some.injEq, exists_eq_left', Option.toList_some, Option.toList_none, ev_km, ev_k2, ev_k3, ev_k4, ev_k5, ev_l0, ev_l1, sh_1, sh_2, sh_3, sh_4, sh_5, at_X11_talks_11, at_X11_talks_53, at_X11_talks_73, at_X11_talks_77, at_X11_talks_83, at_X11_talks_89, ca_X11_121, ca_X11_149, ca_X11_198, ca_X11_385, cd_X11_talks_0, cd_X11_talks_11, cd_X11_talks_53, cd_X11_talks_73, cd_X11_talks_77, cd_X11_talks_83, cd_X11_talks_89, fl_X11_9, ev_b_23, ev_b_6, ev_b_7, no_0, no_1, no_lt, no_le, no_eq, no_lt0, no_ge0, no_gt0, no_le0, no_eq0, no_0eq, no_eqm, no_meq, no_m0, no_mlt, no_mge, no_mgt, no_mm, no_i01, no_i10, no_in, no_or, no_ifm, no_mul, nI_add, pk_div, iI_if, nI_clamp, oI_n, oI_s, not_true_eq_false, not_false_eq_true, forall_const, true_implies, false_and, and_false, or_false, false_or, Classical.not_not, true_or, or_true, no_b, no_eq1, eq_self, and_self, sk_301, sk_302, sl_302, sp_301, mw_302, e0, e1, c1, iI_dif, iI_ge0, c5, iI_0s, iI_leN, iI_ltN, iN_le, iN_lt])
              | (with_reducible refine ev_gid ?_; simp (disch := first | omega | assumption) only [ev_run_c, ev_run_n, ev_fj, ev_stp, ev_lk, ev_fv, ev_as, ev_sz, ev_st1, ev_st2, ev_rm, ev_pk, ev_Jof, ev_go, lv_args, List.map_cons, List.map_nil, List.zip_cons_cons, List.zip_nil_left, List.zip_nil_right, List.nil_append, List.cons_append, ↓reduceIte, reduceCtorEq, Int.reduceToNat, Nat.reduceEqDiff, Nat.reduceAdd, Nat.reduceLT, Nat.reduceLeDiff, Nat.reduceMul, Value.category, false_implies, true_and, and_true, Bool.false_eq_true, Option.some.injEq, exists_eq_left', Option.toList_some, Option.toList_none, ev_km, ev_k2, ev_k3, ev_k4, ev_k5, ev_l0, ev_l1, sh_1, sh_2, sh_3, sh_4, sh_5, at_X11_talks_11, at_X11_talks_53, at_X11_talks_73, at_X11_talks_77, at_X11_talks_83, at_X11_talks_89, ca_X11_121, ca_X11_149, ca_X11_198, ca_X11_385, cd_X11_talks_0, cd_X11_talks_11, cd_X11_talks_53, cd_X11_talks_73, cd_X11_talks_77, cd_X11_talks_83, cd_X11_talks_89, fl_X11_9, ev_b_23, ev_b_6, ev_b_7, no_0, no_1, no_lt, no_le, no_eq, no_lt0, no_ge0, no_gt0, no_le0, no_eq0, no_0eq, no_eqm, no_meq, no_m0, no_mlt, no_mge, no_mgt, no_mm, no_i01, no_i10, no_in, no_or, no_ifm, no_mul, nI_add, pk_div, iI_if, nI_clamp, oI_n, oI_s, not_true_eq_false, not_false_eq_true, forall_const, true_implies, false_and, and_false, or_false, false_or, Classical.not_not, true_or, or_true, no_b, no_eq1, eq_self, and_self, sk_301, sk_302, sl_302, sp_301, mw_302, e0, e1, c1, iI_dif, iI_ge0, c5, iI_0s, iI_leN, iI_ltN, iN_le, iN_lt])
              | (with_reducible refine And.intro (fun q => ?_) (fun q => ?_) <;> (try simp (disch := first | omega | assumption) only [no_0, no_1, no_lt, no_le, no_eq, no_lt0, no_ge0, no_gt0, no_le0, no_eq0, no_0eq, no_eqm, no_meq, no_m0, no_mlt, no_mge, no_mgt, no_mm, no_i01, no_i10, no_in, no_or, no_ifm, no_mul, nI_add, no_sub, pk_div, iI_if, nI_clamp, oI_n, oI_s, not_true_eq_false, not_false_eq_true, forall_const, true_implies, false_and, and_false, or_false, false_or, Classical.not_not, true_or, or_true, no_b, no_eq1, eq_self, and_self, sk_301, sk_302, sl_302, sp_301, mw_302, e0, e1, c1, iI_dif, iI_ge0, c5, iI_0s, iI_leN, iI_ltN, iN_le, iN_lt] at q))
              | with_reducible refine ev_ci (m_X11_middle hok (by first | with_reducible assumption | exact mw_R | exact ms_R) (by with_reducible assumption) ?_ ?_) ?_
              | with_reducible refine ev_ci (m_X11_of hok (by first | assumption | exact mw_R) ?_ ?_) ?_
              | with_reducible refine ev_ci (m_X11_of hok (by assumption) ?_ ?_) ?_
              | with_reducible refine ev_ci (m_X11_puts hok (by first | assumption | exact mw_R) ?_ ?_) ?_
              | omega
              | with_reducible assumption
              | with_reducible rfl
              | exact d2
              | exact congrArg (mw μ) d1
              | with_reducible refine lp_nx ?_ ?_ ?_ ?_
              | with_reducible refine lp_st ?_ ?_ ?_
              | with_reducible refine ls_c ?_ ?_
              | with_reducible refine vi_c ?_
              | with_reducible refine re_c ?_
              | with_reducible refine vz_c ?_
              | with_reducible refine rz_c ?_
              | exact trivial
              | with_reducible refine And.intro ?_ ?_
              | simp (disch := first | omega | assumption) only [ev_run_c, ev_run_n, ev_fj, ev_stp, ev_lk, ev_fv, ev_as, ev_sz, ev_st1, ev_st2, ev_rm, ev_pk, ev_Jof, ev_go, lv_args, List.map_cons, List.map_nil, List.zip_cons_cons, List.zip_nil_left, List.zip_nil_right, List.nil_append, List.cons_append, ↓reduceIte, reduceCtorEq, Int.reduceToNat, Nat.reduceEqDiff, Nat.reduceAdd, Nat.reduceLT, Nat.reduceLeDiff, Nat.reduceMul, Value.category, false_implies, true_and, and_true, Bool.false_eq_true, Option.some.injEq, exists_eq_left', Option.toList_some, Option.toList_none, ev_km, ev_k2, ev_k3, ev_k4, ev_k5, ev_l0, ev_l1, sh_1, sh_2, sh_3, sh_4, sh_5, at_X11_talks_11, at_X11_talks_53, at_X11_talks_73, at_X11_talks_77, at_X11_talks_83, at_X11_talks_89, ca_X11_121, ca_X11_149, ca_X11_198, ca_X11_385, cd_X11_talks_0, cd_X11_talks_11, cd_X11_talks_53, cd_X11_talks_73, cd_X11_talks_77, cd_X11_talks_83, cd_X11_talks_89, fl_X11_9, ev_b_23, ev_b_6, ev_b_7, no_0, no_1, no_lt, no_le, no_eq, no_lt0, no_ge0, no_gt0, no_le0, no_eq0, no_0eq, no_eqm, no_meq, no_m0, no_mlt, no_mge, no_mgt, no_mm, no_i01, no_i10, no_in, no_or, no_ifm, no_mul, nI_add, pk_div, iI_if, nI_clamp, oI_n, oI_s, not_true_eq_false, not_false_eq_true, forall_const, true_implies, false_and, and_false, or_false, false_or, Classical.not_not, true_or, or_true, no_b, no_eq1, eq_self, and_self, sk_301, sk_302, sl_302, sp_301, mw_302, e0, e1, c1, iI_dif, iI_ge0, c5, iI_0s, iI_leN, iI_ltN, iN_le, iN_lt]
              | exact rfl
              | (split <;> omega))
          · have c5 : ¬ (0 : Int) ≤ (N (8 + 59 * k + (23 + q)) : Nat) - (mid N q : Nat) := by omega
            repeat' (first
              | (with_reducible refine ev_rid ?_; simp (disch := first | omega | assumption) only [ev_run_c, ev_run_n, ev_fj, ev_stp, ev_lk, ev_fv, ev_as, ev_sz, ev_st1, ev_st2, ev_rm, ev_pk, ev_Jof, ev_go, lv_args, List.map_cons, List.map_nil, List.zip_cons_cons, List.zip_nil_left, List.zip_nil_right, List.nil_append, List.cons_append, ↓reduceIte, reduceCtorEq, Int.reduceToNat, Nat.reduceEqDiff, Nat.reduceAdd, Nat.reduceLT, Nat.reduceLeDiff, Nat.reduceMul, Value.category, false_implies, true_and, and_true, Bool.false_eq_true, Option.some.injEq, exists_eq_left', Option.toList_some, Option.toList_none, ev_km, ev_k2, ev_k3, ev_k4, ev_k5, ev_l0, ev_l1, sh_1, sh_2, sh_3, sh_4, sh_5, at_X11_talks_11, at_X11_talks_53, at_X11_talks_73, at_X11_talks_77, at_X11_talks_83, at_X11_talks_89, ca_X11_121, ca_X11_149, ca_X11_198, ca_X11_385, cd_X11_talks_0, cd_X11_talks_11, cd_X11_talks_53, cd_X11_talks_73, cd_X11_talks_77, cd_X11_talks_83, cd_X11_talks_89, fl_X11_9, ev_b_23, ev_b_6, ev_b_7, no_0, no_1, no_lt, no_le, no_eq, no_lt0, no_ge0, no_gt0, no_le0, no_eq0, no_0eq, no_eqm, no_meq, no_m0, no_mlt, no_mge, no_mgt, no_mm, no_i01, no_i10, no_in, no_or, no_ifm, no_mul, nI_add, pk_div, iI_if, nI_clamp, oI_n, oI_s, not_true_eq_false, not_false_eq_true, forall_const, true_implies, false_and, and_false, or_false, false_or, Classical.not_not, true_or, or_true, no_b, no_eq1, eq_self, and_self, sk_301, sk_302, sl_302, sp_301, mw_302, e0, e1, c1, iI_dif, iI_ge0, c5, iI_0s, iI_leN, iI_ltN, iN_le, iN_lt])
              | (with_reducible refine ev_gid ?_; simp (disch := first | omega | assumption) only [ev_run_c, ev_run_n, ev_fj, ev_stp, ev_lk, ev_fv, ev_as, ev_sz, ev_st1, ev_st2, ev_rm, ev_pk, ev_Jof, ev_go, lv_args, List.map_cons, List.map_nil, List.zip_cons_cons, List.zip_nil_left, List.zip_nil_right, List.nil_append, List.cons_append, ↓reduceIte, reduceCtorEq, Int.reduceToNat, Nat.reduceEqDiff, Nat.reduceAdd, Nat.reduceLT, Nat.reduceLeDiff, Nat.reduceMul, Value.category, false_implies, true_and, and_true, Bool.false_eq_true, Option.some.injEq, exists_eq_left', Option.toList_some, Option.toList_none, ev_km, ev_k2, ev_k3, ev_k4, ev_k5, ev_l0, ev_l1, sh_1, sh_2, sh_3, sh_4, sh_5, at_X11_talks_11, at_X11_talks_53, at_X11_talks_73, at_X11_talks_77, at_X11_talks_83, at_X11_talks_89, ca_X11_121, ca_X11_149, ca_X11_198, ca_X11_385, cd_X11_talks_0, cd_X11_talks_11, cd_X11_talks_53, cd_X11_talks_73, cd_X11_talks_77, cd_X11_talks_83, cd_X11_talks_89, fl_X11_9, ev_b_23, ev_b_6, ev_b_7, no_0, no_1, no_lt, no_le, no_eq, no_lt0, no_ge0, no_gt0, no_le0, no_eq0, no_0eq, no_eqm, no_meq, no_m0, no_mlt, no_mge, no_mgt, no_mm, no_i01, no_i10, no_in, no_or, no_ifm, no_mul, nI_add, pk_div, iI_if, nI_clamp, oI_n, oI_s, not_true_eq_false, not_false_eq_true, forall_const, true_implies, false_and, and_false, or_false, false_or, Classical.not_not, true_or, or_true, no_b, no_eq1, eq_self, and_self, sk_301, sk_302, sl_302, sp_301, mw_302, e0, e1, c1, iI_dif, iI_ge0, c5, iI_0s, iI_leN, iI_ltN, iN_le, iN_lt])
              | (with_reducible refine And.intro (fun q => ?_) (fun q => ?_) <;> (try simp (disch := first | omega | assumption) only [no_0, no_1, no_lt, no_le, no_eq, no_lt0, no_ge0, no_gt0, no_le0, no_eq0, no_0eq, no_eqm, no_meq, no_m0, no_mlt, no_mge, no_mgt, no_mm, no_i01, no_i10, no_in, no_or, no_ifm, no_mul, nI_add, no_sub, pk_div, iI_if, nI_clamp, oI_n, oI_s, not_true_eq_false, not_false_eq_true, forall_const, true_implies, false_and, and_false, or_false, false_or, Classical.not_not, true_or, or_true, no_b, no_eq1, eq_self, and_self, sk_301, sk_302, sl_302, sp_301, mw_302, e0, e1, c1, iI_dif, iI_ge0, c5, iI_0s, iI_leN, iI_ltN, iN_le, iN_lt] at q))
              | with_reducible refine ev_ci (m_X11_middle hok (by first | with_reducible assumption | exact mw_R | exact ms_R) (by with_reducible assumption) ?_ ?_) ?_
              | with_reducible refine ev_ci (m_X11_of hok (by first | assumption | exact mw_R) ?_ ?_) ?_
              | with_reducible refine ev_ci (m_X11_of hok (by assumption) ?_ ?_) ?_
              | with_reducible refine ev_ci (m_X11_puts hok (by first | assumption | exact mw_R) ?_ ?_) ?_
              | omega
              | with_reducible assumption
              | with_reducible rfl
              | exact d2
              | exact congrArg (mw μ) d1
              | with_reducible refine lp_nx ?_ ?_ ?_ ?_
              | with_reducible refine lp_st ?_ ?_ ?_
              | with_reducible refine ls_c ?_ ?_
              | with_reducible refine vi_c ?_
              | with_reducible refine re_c ?_
              | with_reducible refine vz_c ?_
              | with_reducible refine rz_c ?_
              | exact trivial
              | with_reducible refine And.intro ?_ ?_
              | simp (disch := first | omega | assumption) only [ev_run_c, ev_run_n, ev_fj, ev_stp, ev_lk, ev_fv, ev_as, ev_sz, ev_st1, ev_st2, ev_rm, ev_pk, ev_Jof, ev_go, lv_args, List.map_cons, List.map_nil, List.zip_cons_cons, List.zip_nil_left, List.zip_nil_right, List.nil_append, List.cons_append, ↓reduceIte, reduceCtorEq, Int.reduceToNat, Nat.reduceEqDiff, Nat.reduceAdd, Nat.reduceLT, Nat.reduceLeDiff, Nat.reduceMul, Value.category, false_implies, true_and, and_true, Bool.false_eq_true, Option.some.injEq, exists_eq_left', Option.toList_some, Option.toList_none, ev_km, ev_k2, ev_k3, ev_k4, ev_k5, ev_l0, ev_l1, sh_1, sh_2, sh_3, sh_4, sh_5, at_X11_talks_11, at_X11_talks_53, at_X11_talks_73, at_X11_talks_77, at_X11_talks_83, at_X11_talks_89, ca_X11_121, ca_X11_149, ca_X11_198, ca_X11_385, cd_X11_talks_0, cd_X11_talks_11, cd_X11_talks_53, cd_X11_talks_73, cd_X11_talks_77, cd_X11_talks_83, cd_X11_talks_89, fl_X11_9, ev_b_23, ev_b_6, ev_b_7, no_0, no_1, no_lt, no_le, no_eq, no_lt0, no_ge0, no_gt0, no_le0, no_eq0, no_0eq, no_eqm, no_meq, no_m0, no_mlt, no_mge, no_mgt, no_mm, no_i01, no_i10, no_in, no_or, no_ifm, no_mul, nI_add, pk_div, iI_if, nI_clamp, oI_n, oI_s, not_true_eq_false, not_false_eq_true, forall_const, true_implies, false_and, and_false, or_false, false_or, Classical.not_not, true_or, or_true, no_b, no_eq1, eq_self, and_self, sk_301, sk_302, sl_302, sp_301, mw_302, e0, e1, c1, iI_dif, iI_ge0, c5, iI_0s, iI_leN, iI_ltN, iN_le, iN_lt]
              | exact rfl
              | (split <;> omega))
        · have d1 := tkN_s (N := N) (q := q) (m := mid N q) (k := k)
          have d2 := chg_1 c2
          have c6 := c2
          unfold tkv at c2
          rw [if_neg c1] at c2
          by_cases c4 : mid N q + 1 < N (8 + 59 * k + (23 + q))
          · have c5 : (0 : Int) ≤ (N (8 + 59 * k + (23 + q)) : Nat) - (mid N q : Nat) := by omega
            have c7 : tkv (N (8 + 59 * k + (23 + q))) (mid N q) = N (8 + 59 * k + (23 + q)) - 1 := by unfold tkv; rw [if_neg c1, if_pos c4]
            rw [c7] at d1
            repeat' (first
              | (with_reducible refine ev_rid ?_; simp (disch := first | omega | assumption) only [ev_run_c, ev_run_n, ev_fj, ev_stp, ev_lk, ev_fv, ev_as, ev_sz, ev_st1, ev_st2, ev_rm, ev_pk, ev_Jof, ev_go, lv_args, List.map_cons, List.map_nil, List.zip_cons_cons, List.zip_nil_left, List.zip_nil_right, List.nil_append, List.cons_append, ↓reduceIte, reduceCtorEq, Int.reduceToNat, Nat.reduceEqDiff, Nat.reduceAdd, Nat.reduceLT, Nat.reduceLeDiff, Nat.reduceMul, Value.category, false_implies, true_and, and_true, Bool.false_eq_true, Option.some.injEq, exists_eq_left', Option.toList_some, Option.toList_none, ev_km, ev_k2, ev_k3, ev_k4, ev_k5, ev_l0, ev_l1, sh_1, sh_2, sh_3, sh_4, sh_5, at_X11_talks_11, at_X11_talks_53, at_X11_talks_73, at_X11_talks_77, at_X11_talks_83, at_X11_talks_89, ca_X11_121, ca_X11_149, ca_X11_198, ca_X11_385, cd_X11_talks_0, cd_X11_talks_11, cd_X11_talks_53, cd_X11_talks_73, cd_X11_talks_77, cd_X11_talks_83, cd_X11_talks_89, fl_X11_9, ev_b_23, ev_b_6, ev_b_7, no_0, no_1, no_lt, no_le, no_eq, no_lt0, no_ge0, no_gt0, no_le0, no_eq0, no_0eq, no_eqm, no_meq, no_m0, no_mlt, no_mge, no_mgt, no_mm, no_i01, no_i10, no_in, no_or, no_ifm, no_mul, nI_add, pk_div, iI_if, nI_clamp, oI_n, oI_s, not_true_eq_false, not_false_eq_true, forall_const, true_implies, false_and, and_false, or_false, false_or, Classical.not_not, true_or, or_true, no_b, no_eq1, eq_self, and_self, sk_301, sk_302, sl_302, sp_301, mw_302, e0, e1, c1, iI_dif, iI_ge0, c5, iI_0s, iI_leN, iI_ltN, iN_le, iN_lt, mw_mw, no_sub1, d1])
              | (with_reducible refine ev_gid ?_; simp (disch := first | omega | assumption) only [ev_run_c, ev_run_n, ev_fj, ev_stp, ev_lk, ev_fv, ev_as, ev_sz, ev_st1, ev_st2, ev_rm, ev_pk, ev_Jof, ev_go, lv_args, List.map_cons, List.map_nil, List.zip_cons_cons, List.zip_nil_left, List.zip_nil_right, List.nil_append, List.cons_append, ↓reduceIte, reduceCtorEq, Int.reduceToNat, Nat.reduceEqDiff, Nat.reduceAdd, Nat.reduceLT, Nat.reduceLeDiff, Nat.reduceMul, Value.category, false_implies, true_and, and_true, Bool.false_eq_true, Option.some.injEq, exists_eq_left', Option.toList_some, Option.toList_none, ev_km, ev_k2, ev_k3, ev_k4, ev_k5, ev_l0, ev_l1, sh_1, sh_2, sh_3, sh_4, sh_5, at_X11_talks_11, at_X11_talks_53, at_X11_talks_73, at_X11_talks_77, at_X11_talks_83, at_X11_talks_89, ca_X11_121, ca_X11_149, ca_X11_198, ca_X11_385, cd_X11_talks_0, cd_X11_talks_11, cd_X11_talks_53, cd_X11_talks_73, cd_X11_talks_77, cd_X11_talks_83, cd_X11_talks_89, fl_X11_9, ev_b_23, ev_b_6, ev_b_7, no_0, no_1, no_lt, no_le, no_eq, no_lt0, no_ge0, no_gt0, no_le0, no_eq0, no_0eq, no_eqm, no_meq, no_m0, no_mlt, no_mge, no_mgt, no_mm, no_i01, no_i10, no_in, no_or, no_ifm, no_mul, nI_add, pk_div, iI_if, nI_clamp, oI_n, oI_s, not_true_eq_false, not_false_eq_true, forall_const, true_implies, false_and, and_false, or_false, false_or, Classical.not_not, true_or, or_true, no_b, no_eq1, eq_self, and_self, sk_301, sk_302, sl_302, sp_301, mw_302, e0, e1, c1, iI_dif, iI_ge0, c5, iI_0s, iI_leN, iI_ltN, iN_le, iN_lt, mw_mw, no_sub1, d1])
              | (with_reducible refine And.intro (fun q => ?_) (fun q => ?_) <;> (try simp (disch := first | omega | assumption) only [no_0, no_1, no_lt, no_le, no_eq, no_lt0, no_ge0, no_gt0, no_le0, no_eq0, no_0eq, no_eqm, no_meq, no_m0, no_mlt, no_mge, no_mgt, no_mm, no_i01, no_i10, no_in, no_or, no_ifm, no_mul, nI_add, no_sub, pk_div, iI_if, nI_clamp, oI_n, oI_s, not_true_eq_false, not_false_eq_true, forall_const, true_implies, false_and, and_false, or_false, false_or, Classical.not_not, true_or, or_true, no_b, no_eq1, eq_self, and_self, sk_301, sk_302, sl_302, sp_301, mw_302, e0, e1, c1, iI_dif, iI_ge0, c5, iI_0s, iI_leN, iI_ltN, iN_le, iN_lt, mw_mw, no_sub1, d1] at q))
              | with_reducible refine ev_ci (m_X11_middle hok (by first | with_reducible assumption | exact mw_R | exact ms_R) (by with_reducible assumption) ?_ ?_) ?_
              | with_reducible refine ev_ci (m_X11_of hok (by first | assumption | exact mw_R) ?_ ?_) ?_
              | with_reducible refine ev_ci (m_X11_of hok (by assumption) ?_ ?_) ?_
              | with_reducible refine ev_ci (m_X11_puts hok (by first | assumption | exact mw_R) ?_ ?_) ?_
              | omega
              | with_reducible assumption
              | with_reducible rfl
              | exact d2
              | with_reducible refine lp_nx ?_ ?_ ?_ ?_
              | with_reducible refine lp_st ?_ ?_ ?_
              | with_reducible refine ls_c ?_ ?_
              | with_reducible refine vi_c ?_
              | with_reducible refine re_c ?_
              | with_reducible refine vz_c ?_
              | with_reducible refine rz_c ?_
              | exact trivial
              | with_reducible refine And.intro ?_ ?_
              | simp (disch := first | omega | assumption) only [ev_run_c, ev_run_n, ev_fj, ev_stp, ev_lk, ev_fv, ev_as, ev_sz, ev_st1, ev_st2, ev_rm, ev_pk, ev_Jof, ev_go, lv_args, List.map_cons, List.map_nil, List.zip_cons_cons, List.zip_nil_left, List.zip_nil_right, List.nil_append, List.cons_append, ↓reduceIte, reduceCtorEq, Int.reduceToNat, Nat.reduceEqDiff, Nat.reduceAdd, Nat.reduceLT, Nat.reduceLeDiff, Nat.reduceMul, Value.category, false_implies, true_and, and_true, Bool.false_eq_true, Option.some.injEq, exists_eq_left', Option.toList_some, Option.toList_none, ev_km, ev_k2, ev_k3, ev_k4, ev_k5, ev_l0, ev_l1, sh_1, sh_2, sh_3, sh_4, sh_5, at_X11_talks_11, at_X11_talks_53, at_X11_talks_73, at_X11_talks_77, at_X11_talks_83, at_X11_talks_89, ca_X11_121, ca_X11_149, ca_X11_198, ca_X11_385, cd_X11_talks_0, cd_X11_talks_11, cd_X11_talks_53, cd_X11_talks_73, cd_X11_talks_77, cd_X11_talks_83, cd_X11_talks_89, fl_X11_9, ev_b_23, ev_b_6, ev_b_7, no_0, no_1, no_lt, no_le, no_eq, no_lt0, no_ge0, no_gt0, no_le0, no_eq0, no_0eq, no_eqm, no_meq, no_m0, no_mlt, no_mge, no_mgt, no_mm, no_i01, no_i10, no_in, no_or, no_ifm, no_mul, nI_add, pk_div, iI_if, nI_clamp, oI_n, oI_s, not_true_eq_false, not_false_eq_true, forall_const, true_implies, false_and, and_false, or_false, false_or, Classical.not_not, true_or, or_true, no_b, no_eq1, eq_self, and_self, sk_301, sk_302, sl_302, sp_301, mw_302, e0, e1, c1, iI_dif, iI_ge0, c5, iI_0s, iI_leN, iI_ltN, iN_le, iN_lt, mw_mw, no_sub1, d1]
              | exact rfl
              | (split <;> omega))
          · have c8 : N (8 + 59 * k + (23 + q)) + 1 < mid N q := by
              rw [if_neg c4] at c2
              split at c2 <;> omega
            have c5 : ¬ (0 : Int) ≤ (N (8 + 59 * k + (23 + q)) : Nat) - (mid N q : Nat) := by omega
            have c7 : tkv (N (8 + 59 * k + (23 + q))) (mid N q) = N (8 + 59 * k + (23 + q)) + 1 := by unfold tkv; rw [if_neg c1, if_neg c4, if_pos c8]
            rw [c7] at d1
            repeat' (first
              | (with_reducible refine ev_rid ?_; simp (disch := first | omega | assumption) only [ev_run_c, ev_run_n, ev_fj, ev_stp, ev_lk, ev_fv, ev_as, ev_sz, ev_st1, ev_st2, ev_rm, ev_pk, ev_Jof, ev_go, lv_args, List.map_cons, List.map_nil, List.zip_cons_cons, List.zip_nil_left, List.zip_nil_right, List.nil_append, List.cons_append, ↓reduceIte, reduceCtorEq, Int.reduceToNat, Nat.reduceEqDiff, Nat.reduceAdd, Nat.reduceLT, Nat.reduceLeDiff, Nat.reduceMul, Value.category, false_implies, true_and, and_true, Bool.false_eq_true, Option.some.injEq, exists_eq_left', Option.toList_some, Option.toList_none, ev_km, ev_k2, ev_k3, ev_k4, ev_k5, ev_l0, ev_l1, sh_1, sh_2, sh_3, sh_4, sh_5, at_X11_talks_11, at_X11_talks_53, at_X11_talks_73, at_X11_talks_77, at_X11_talks_83, at_X11_talks_89, ca_X11_121, ca_X11_149, ca_X11_198, ca_X11_385, cd_X11_talks_0, cd_X11_talks_11, cd_X11_talks_53, cd_X11_talks_73, cd_X11_talks_77, cd_X11_talks_83, cd_X11_talks_89, fl_X11_9, ev_b_23, ev_b_6, ev_b_7, no_0, no_1, no_lt, no_le, no_eq, no_lt0, no_ge0, no_gt0, no_le0, no_eq0, no_0eq, no_eqm, no_meq, no_m0, no_mlt, no_mge, no_mgt, no_mm, no_i01, no_i10, no_in, no_or, no_ifm, no_mul, nI_add, pk_div, iI_if, nI_clamp, oI_n, oI_s, not_true_eq_false, not_false_eq_true, forall_const, true_implies, false_and, and_false, or_false, false_or, Classical.not_not, true_or, or_true, no_b, no_eq1, eq_self, and_self, sk_301, sk_302, sl_302, sp_301, mw_302, e0, e1, c1, iI_dif, iI_ge0, c5, iI_0s, iI_leN, iI_ltN, iN_le, iN_lt, mw_mw, no_sub1, d1])
              | (with_reducible refine ev_gid ?_; simp (disch := first | omega | assumption) only [ev_run_c, ev_run_n, ev_fj, ev_stp, ev_lk, ev_fv, ev_as, ev_sz, ev_st1, ev_st2, ev_rm, ev_pk, ev_Jof, ev_go, lv_args, List.map_cons, List.map_nil, List.zip_cons_cons, List.zip_nil_left, List.zip_nil_right, List.nil_append, List.cons_append, ↓reduceIte, reduceCtorEq, Int.reduceToNat, Nat.reduceEqDiff, Nat.reduceAdd, Nat.reduceLT, Nat.reduceLeDiff, Nat.reduceMul, Value.category, false_implies, true_and, and_true, Bool.false_eq_true, Option.some.injEq, exists_eq_left', Option.toList_some, Option.toList_none, ev_km, ev_k2, ev_k3, ev_k4, ev_k5, ev_l0, ev_l1, sh_1, sh_2, sh_3, sh_4, sh_5, at_X11_talks_11, at_X11_talks_53, at_X11_talks_73, at_X11_talks_77, at_X11_talks_83, at_X11_talks_89, ca_X11_121, ca_X11_149, ca_X11_198, ca_X11_385, cd_X11_talks_0, cd_X11_talks_11, cd_X11_talks_53, cd_X11_talks_73, cd_X11_talks_77, cd_X11_talks_83, cd_X11_talks_89, fl_X11_9, ev_b_23, ev_b_6, ev_b_7, no_0, no_1, no_lt, no_le, no_eq, no_lt0, no_ge0, no_gt0, no_le0, no_eq0, no_0eq, no_eqm, no_meq, no_m0, no_mlt, no_mge, no_mgt, no_mm, no_i01, no_i10, no_in, no_or, no_ifm, no_mul, nI_add, pk_div, iI_if, nI_clamp, oI_n, oI_s, not_true_eq_false, not_false_eq_true, forall_const, true_implies, false_and, and_false, or_false, false_or, Classical.not_not, true_or, or_true, no_b, no_eq1, eq_self, and_self, sk_301, sk_302, sl_302, sp_301, mw_302, e0, e1, c1, iI_dif, iI_ge0, c5, iI_0s, iI_leN, iI_ltN, iN_le, iN_lt, mw_mw, no_sub1, d1])
              | (with_reducible refine And.intro (fun q => ?_) (fun q => ?_) <;> (try simp (disch := first | omega | assumption) only [no_0, no_1, no_lt, no_le, no_eq, no_lt0, no_ge0, no_gt0, no_le0, no_eq0, no_0eq, no_eqm, no_meq, no_m0, no_mlt, no_mge, no_mgt, no_mm, no_i01, no_i10, no_in, no_or, no_ifm, no_mul, nI_add, no_sub, pk_div, iI_if, nI_clamp, oI_n, oI_s, not_true_eq_false, not_false_eq_true, forall_const, true_implies, false_and, and_false, or_false, false_or, Classical.not_not, true_or, or_true, no_b, no_eq1, eq_self, and_self, sk_301, sk_302, sl_302, sp_301, mw_302, e0, e1, c1, iI_dif, iI_ge0, c5, iI_0s, iI_leN, iI_ltN, iN_le, iN_lt, mw_mw, no_sub1, d1] at q))
              | with_reducible refine ev_ci (m_X11_middle hok (by first | with_reducible assumption | exact mw_R | exact ms_R) (by with_reducible assumption) ?_ ?_) ?_
              | with_reducible refine ev_ci (m_X11_of hok (by first | assumption | exact mw_R) ?_ ?_) ?_
              | with_reducible refine ev_ci (m_X11_of hok (by assumption) ?_ ?_) ?_
              | with_reducible refine ev_ci (m_X11_puts hok (by first | assumption | exact mw_R) ?_ ?_) ?_
              | omega
              | with_reducible assumption
              | with_reducible rfl
              | exact d2
              | with_reducible refine lp_nx ?_ ?_ ?_ ?_
              | with_reducible refine lp_st ?_ ?_ ?_
              | with_reducible refine ls_c ?_ ?_
              | with_reducible refine vi_c ?_
              | with_reducible refine re_c ?_
              | with_reducible refine vz_c ?_
              | with_reducible refine rz_c ?_
              | exact trivial
              | with_reducible refine And.intro ?_ ?_
              | simp (disch := first | omega | assumption) only [ev_run_c, ev_run_n, ev_fj, ev_stp, ev_lk, ev_fv, ev_as, ev_sz, ev_st1, ev_st2, ev_rm, ev_pk, ev_Jof, ev_go, lv_args, List.map_cons, List.map_nil, List.zip_cons_cons, List.zip_nil_left, List.zip_nil_right, List.nil_append, List.cons_append, ↓reduceIte, reduceCtorEq, Int.reduceToNat, Nat.reduceEqDiff, Nat.reduceAdd, Nat.reduceLT, Nat.reduceLeDiff, Nat.reduceMul, Value.category, false_implies, true_and, and_true, Bool.false_eq_true, Option.some.injEq, exists_eq_left', Option.toList_some, Option.toList_none, ev_km, ev_k2, ev_k3, ev_k4, ev_k5, ev_l0, ev_l1, sh_1, sh_2, sh_3, sh_4, sh_5, at_X11_talks_11, at_X11_talks_53, at_X11_talks_73, at_X11_talks_77, at_X11_talks_83, at_X11_talks_89, ca_X11_121, ca_X11_149, ca_X11_198, ca_X11_385, cd_X11_talks_0, cd_X11_talks_11, cd_X11_talks_53, cd_X11_talks_73, cd_X11_talks_77, cd_X11_talks_83, cd_X11_talks_89, fl_X11_9, ev_b_23, ev_b_6, ev_b_7, no_0, no_1, no_lt, no_le, no_eq, no_lt0, no_ge0, no_gt0, no_le0, no_eq0, no_0eq, no_eqm, no_meq, no_m0, no_mlt, no_mge, no_mgt, no_mm, no_i01, no_i10, no_in, no_or, no_ifm, no_mul, nI_add, pk_div, iI_if, nI_clamp, oI_n, oI_s, not_true_eq_false, not_false_eq_true, forall_const, true_implies, false_and, and_false, or_false, false_or, Classical.not_not, true_or, or_true, no_b, no_eq1, eq_self, and_self, sk_301, sk_302, sl_302, sp_301, mw_302, e0, e1, c1, iI_dif, iI_ge0, c5, iI_0s, iI_leN, iI_ltN, iN_le, iN_lt, mw_mw, no_sub1, d1]
              | exact rfl
              | (split <;> omega))
    · have hkn : N 0 = k := by omega
      subst hkn
      have e6 := hlo 6 (by omega)
      have e7 : up (tkN N q (mid N q) (N 0)) 6 (N 6 + 1) 7 = N 7 := by rw [up_ne (by omega)]; exact hlo 7 (by omega)
      repeat' (first
        | (with_reducible refine ev_rid ?_; simp (disch := first | omega | assumption) only [ev_run_c, ev_run_n, ev_fj, ev_stp, ev_lk, ev_fv, ev_as, ev_sz, ev_st1, ev_st2, ev_rm, ev_pk, ev_Jof, ev_go, lv_args, List.map_cons, List.map_nil, List.zip_cons_cons, List.zip_nil_left, List.zip_nil_right, List.nil_append, List.cons_append, ↓reduceIte, reduceCtorEq, Int.reduceToNat, Nat.reduceEqDiff, Nat.reduceAdd, Nat.reduceLT, Nat.reduceLeDiff, Nat.reduceMul, Value.category, false_implies, true_and, and_true, Bool.false_eq_true, Option.some.injEq, exists_eq_left', Option.toList_some, Option.toList_none, ev_km, ev_k2, ev_k3, ev_k4, ev_k5, ev_l0, ev_l1, sh_1, sh_2, sh_3, sh_4, sh_5, at_X11_talks_11, at_X11_talks_53, at_X11_talks_73, at_X11_talks_77, at_X11_talks_83, at_X11_talks_89, ca_X11_121, ca_X11_149, ca_X11_198, ca_X11_385, cd_X11_talks_0, cd_X11_talks_11, cd_X11_talks_53, cd_X11_talks_73, cd_X11_talks_77, cd_X11_talks_83, cd_X11_talks_89, fl_X11_9, ev_b_23, ev_b_6, ev_b_7, no_0, no_1, no_lt, no_le, no_eq, no_lt0, no_ge0, no_gt0, no_le0, no_eq0, no_0eq, no_eqm, no_meq, no_m0, no_mlt, no_mge, no_mgt, no_mm, no_i01, no_i10, no_in, no_or, no_ifm, no_mul, nI_add, no_sub, pk_div, iI_if, nI_clamp, oI_n, oI_s, not_true_eq_false, not_false_eq_true, forall_const, true_implies, false_and, and_false, or_false, false_or, Classical.not_not, true_or, or_true, no_b, no_eq1, eq_self, and_self, sk_301, sk_302, sl_302, sp_301, mw_302, e0, e6, e7, mw_w])
        | (with_reducible refine ev_gid ?_; simp (disch := first | omega | assumption) only [ev_run_c, ev_run_n, ev_fj, ev_stp, ev_lk, ev_fv, ev_as, ev_sz, ev_st1, ev_st2, ev_rm, ev_pk, ev_Jof, ev_go, lv_args, List.map_cons, List.map_nil, List.zip_cons_cons, List.zip_nil_left, List.zip_nil_right, List.nil_append, List.cons_append, ↓reduceIte, reduceCtorEq, Int.reduceToNat, Nat.reduceEqDiff, Nat.reduceAdd, Nat.reduceLT, Nat.reduceLeDiff, Nat.reduceMul, Value.category, false_implies, true_and, and_true, Bool.false_eq_true, Option.some.injEq, exists_eq_left', Option.toList_some, Option.toList_none, ev_km, ev_k2, ev_k3, ev_k4, ev_k5, ev_l0, ev_l1, sh_1, sh_2, sh_3, sh_4, sh_5, at_X11_talks_11, at_X11_talks_53, at_X11_talks_73, at_X11_talks_77, at_X11_talks_83, at_X11_talks_89, ca_X11_121, ca_X11_149, ca_X11_198, ca_X11_385, cd_X11_talks_0, cd_X11_talks_11, cd_X11_talks_53, cd_X11_talks_73, cd_X11_talks_77, cd_X11_talks_83, cd_X11_talks_89, fl_X11_9, ev_b_23, ev_b_6, ev_b_7, no_0, no_1, no_lt, no_le, no_eq, no_lt0, no_ge0, no_gt0, no_le0, no_eq0, no_0eq, no_eqm, no_meq, no_m0, no_mlt, no_mge, no_mgt, no_mm, no_i01, no_i10, no_in, no_or, no_ifm, no_mul, nI_add, no_sub, pk_div, iI_if, nI_clamp, oI_n, oI_s, not_true_eq_false, not_false_eq_true, forall_const, true_implies, false_and, and_false, or_false, false_or, Classical.not_not, true_or, or_true, no_b, no_eq1, eq_self, and_self, sk_301, sk_302, sl_302, sp_301, mw_302, e0, e6, e7, mw_w])
        | (with_reducible refine And.intro (fun q => ?_) (fun q => ?_) <;> (try simp (disch := first | omega | assumption) only [no_0, no_1, no_lt, no_le, no_eq, no_lt0, no_ge0, no_gt0, no_le0, no_eq0, no_0eq, no_eqm, no_meq, no_m0, no_mlt, no_mge, no_mgt, no_mm, no_i01, no_i10, no_in, no_or, no_ifm, no_mul, nI_add, no_sub, pk_div, iI_if, nI_clamp, oI_n, oI_s, not_true_eq_false, not_false_eq_true, forall_const, true_implies, false_and, and_false, or_false, false_or, Classical.not_not, true_or, or_true, no_b, no_eq1, eq_self, and_self, sk_301, sk_302, sl_302, sp_301, mw_302, e0, e6, e7, mw_w] at q))
        | with_reducible refine ev_ci (m_X11_middle hok (by first | with_reducible assumption | exact mw_R | exact ms_R) (by with_reducible assumption) ?_ ?_) ?_
        | with_reducible refine ev_ci (m_X11_of hok (by first | assumption | exact mw_R) ?_ ?_) ?_
        | with_reducible refine ev_ci (m_X11_of hok (by assumption) ?_ ?_) ?_
        | with_reducible refine ev_ci (m_X11_puts hok (by first | assumption | exact mw_R) ?_ ?_) ?_
        | omega
        | with_reducible assumption
        | with_reducible rfl
        | with_reducible refine lp_nx ?_ ?_ ?_ ?_
        | with_reducible refine lp_st ?_ ?_ ?_
        | with_reducible refine ls_c ?_ ?_
        | with_reducible refine vi_c ?_
        | with_reducible refine re_c ?_
        | with_reducible refine vz_c ?_
        | with_reducible refine rz_c ?_
        | exact trivial
        | with_reducible refine And.intro ?_ ?_
        | simp (disch := first | omega | assumption) only [ev_run_c, ev_run_n, ev_fj, ev_stp, ev_lk, ev_fv, ev_as, ev_sz, ev_st1, ev_st2, ev_rm, ev_pk, ev_Jof, ev_go, lv_args, List.map_cons, List.map_nil, List.zip_cons_cons, List.zip_nil_left, List.zip_nil_right, List.nil_append, List.cons_append, ↓reduceIte, reduceCtorEq, Int.reduceToNat, Nat.reduceEqDiff, Nat.reduceAdd, Nat.reduceLT, Nat.reduceLeDiff, Nat.reduceMul, Value.category, false_implies, true_and, and_true, Bool.false_eq_true, Option.some.injEq, exists_eq_left', Option.toList_some, Option.toList_none, ev_km, ev_k2, ev_k3, ev_k4, ev_k5, ev_l0, ev_l1, sh_1, sh_2, sh_3, sh_4, sh_5, at_X11_talks_11, at_X11_talks_53, at_X11_talks_73, at_X11_talks_77, at_X11_talks_83, at_X11_talks_89, ca_X11_121, ca_X11_149, ca_X11_198, ca_X11_385, cd_X11_talks_0, cd_X11_talks_11, cd_X11_talks_53, cd_X11_talks_73, cd_X11_talks_77, cd_X11_talks_83, cd_X11_talks_89, fl_X11_9, ev_b_23, ev_b_6, ev_b_7, no_0, no_1, no_lt, no_le, no_eq, no_lt0, no_ge0, no_gt0, no_le0, no_eq0, no_0eq, no_eqm, no_meq, no_m0, no_mlt, no_mge, no_mgt, no_mm, no_i01, no_i10, no_in, no_or, no_ifm, no_mul, nI_add, no_sub, pk_div, iI_if, nI_clamp, oI_n, oI_s, not_true_eq_false, not_false_eq_true, forall_const, true_implies, false_and, and_false, or_false, false_or, Classical.not_not, true_or, or_true, no_b, no_eq1, eq_self, and_self, sk_301, sk_302, sl_302, sp_301, mw_302, e0, e6, e7, mw_w]
        | exact rfl
        | (split <;> omega))
  · rw [at_X11_talks_0]
    repeat' (first
      | (with_reducible refine ev_rid ?_; simp (disch := first | omega | assumption) only [ev_run_c, ev_run_n, ev_fj, ev_stp, ev_lk, ev_fv, ev_as, ev_sz, ev_st1, ev_st2, ev_rm, ev_pk, ev_Jof, ev_go, lv_args, List.map_cons, List.map_nil, List.zip_cons_cons, List.zip_nil_left, List.zip_nil_right, List.nil_append, List.cons_append, ↓reduceIte, reduceCtorEq, Int.reduceToNat, Nat.reduceEqDiff, Nat.reduceAdd, Nat.reduceLT, Nat.reduceLeDiff, Nat.reduceMul, Value.category, false_implies, true_and, and_true, Bool.false_eq_true, Option.some.injEq, exists_eq_left', Option.toList_some, Option.toList_none, ev_km, ev_k2, ev_k3, ev_k4, ev_k5, ev_l0, ev_l1, sh_1, sh_2, sh_3, sh_4, sh_5, at_X11_talks_11, at_X11_talks_53, at_X11_talks_73, at_X11_talks_77, at_X11_talks_83, at_X11_talks_89, ca_X11_121, ca_X11_149, ca_X11_198, ca_X11_385, cd_X11_talks_0, cd_X11_talks_11, cd_X11_talks_53, cd_X11_talks_73, cd_X11_talks_77, cd_X11_talks_83, cd_X11_talks_89, fl_X11_9, ev_b_23, ev_b_6, ev_b_7, no_0, no_1, no_lt, no_le, no_eq, no_lt0, no_ge0, no_gt0, no_le0, no_eq0, no_0eq, no_eqm, no_meq, no_m0, no_mlt, no_mge, no_mgt, no_mm, no_i01, no_i10, no_in, no_or, no_ifm, no_mul, nI_add, no_sub, pk_div, iI_if, nI_clamp, oI_n, oI_s, not_true_eq_false, not_false_eq_true, forall_const, true_implies, false_and, and_false, or_false, false_or, Classical.not_not, true_or, or_true, no_b, no_eq1, eq_self, and_self, sk_301, sk_302, sl_302, sp_301])
      | (with_reducible refine ev_gid ?_; simp (disch := first | omega | assumption) only [ev_run_c, ev_run_n, ev_fj, ev_stp, ev_lk, ev_fv, ev_as, ev_sz, ev_st1, ev_st2, ev_rm, ev_pk, ev_Jof, ev_go, lv_args, List.map_cons, List.map_nil, List.zip_cons_cons, List.zip_nil_left, List.zip_nil_right, List.nil_append, List.cons_append, ↓reduceIte, reduceCtorEq, Int.reduceToNat, Nat.reduceEqDiff, Nat.reduceAdd, Nat.reduceLT, Nat.reduceLeDiff, Nat.reduceMul, Value.category, false_implies, true_and, and_true, Bool.false_eq_true, Option.some.injEq, exists_eq_left', Option.toList_some, Option.toList_none, ev_km, ev_k2, ev_k3, ev_k4, ev_k5, ev_l0, ev_l1, sh_1, sh_2, sh_3, sh_4, sh_5, at_X11_talks_11, at_X11_talks_53, at_X11_talks_73, at_X11_talks_77, at_X11_talks_83, at_X11_talks_89, ca_X11_121, ca_X11_149, ca_X11_198, ca_X11_385, cd_X11_talks_0, cd_X11_talks_11, cd_X11_talks_53, cd_X11_talks_73, cd_X11_talks_77, cd_X11_talks_83, cd_X11_talks_89, fl_X11_9, ev_b_23, ev_b_6, ev_b_7, no_0, no_1, no_lt, no_le, no_eq, no_lt0, no_ge0, no_gt0, no_le0, no_eq0, no_0eq, no_eqm, no_meq, no_m0, no_mlt, no_mge, no_mgt, no_mm, no_i01, no_i10, no_in, no_or, no_ifm, no_mul, nI_add, no_sub, pk_div, iI_if, nI_clamp, oI_n, oI_s, not_true_eq_false, not_false_eq_true, forall_const, true_implies, false_and, and_false, or_false, false_or, Classical.not_not, true_or, or_true, no_b, no_eq1, eq_self, and_self, sk_301, sk_302, sl_302, sp_301])
      | (with_reducible refine And.intro (fun q => ?_) (fun q => ?_) <;> (try simp (disch := first | omega | assumption) only [no_0, no_1, no_lt, no_le, no_eq, no_lt0, no_ge0, no_gt0, no_le0, no_eq0, no_0eq, no_eqm, no_meq, no_m0, no_mlt, no_mge, no_mgt, no_mm, no_i01, no_i10, no_in, no_or, no_ifm, no_mul, nI_add, no_sub, pk_div, iI_if, nI_clamp, oI_n, oI_s, not_true_eq_false, not_false_eq_true, forall_const, true_implies, false_and, and_false, or_false, false_or, Classical.not_not, true_or, or_true, no_b, no_eq1, eq_self, and_self, sk_301, sk_302, sl_302, sp_301] at q))
      | with_reducible refine ev_ci (m_X11_middle hok (by first | with_reducible assumption | exact mw_R | exact ms_R) (by with_reducible assumption) ?_ ?_) ?_
      | with_reducible refine ev_ci (m_X11_of hok (by first | assumption | exact mw_R) ?_ ?_) ?_
      | with_reducible refine ev_ci (m_X11_of hok (by assumption) ?_ ?_) ?_
      | with_reducible refine ev_ci (m_X11_puts hok (by first | assumption | exact mw_R) ?_ ?_) ?_
      | omega
      | with_reducible assumption
      | with_reducible rfl
      | (rw [tkN_0]; exact (mw_self hN).symm)
      | with_reducible refine lp_nx ?_ ?_ ?_ ?_
      | with_reducible refine lp_st ?_ ?_ ?_
      | with_reducible refine ls_c ?_ ?_
      | with_reducible refine vi_c ?_
      | with_reducible refine re_c ?_
      | with_reducible refine vz_c ?_
      | with_reducible refine rz_c ?_
      | exact trivial
      | with_reducible refine And.intro ?_ ?_
      | simp (disch := first | omega | assumption) only [ev_run_c, ev_run_n, ev_fj, ev_stp, ev_lk, ev_fv, ev_as, ev_sz, ev_st1, ev_st2, ev_rm, ev_pk, ev_Jof, ev_go, lv_args, List.map_cons, List.map_nil, List.zip_cons_cons, List.zip_nil_left, List.zip_nil_right, List.nil_append, List.cons_append, ↓reduceIte, reduceCtorEq, Int.reduceToNat, Nat.reduceEqDiff, Nat.reduceAdd, Nat.reduceLT, Nat.reduceLeDiff, Nat.reduceMul, Value.category, false_implies, true_and, and_true, Bool.false_eq_true, Option.some.injEq, exists_eq_left', Option.toList_some, Option.toList_none, ev_km, ev_k2, ev_k3, ev_k4, ev_k5, ev_l0, ev_l1, sh_1, sh_2, sh_3, sh_4, sh_5, at_X11_talks_11, at_X11_talks_53, at_X11_talks_73, at_X11_talks_77, at_X11_talks_83, at_X11_talks_89, ca_X11_121, ca_X11_149, ca_X11_198, ca_X11_385, cd_X11_talks_0, cd_X11_talks_11, cd_X11_talks_53, cd_X11_talks_73, cd_X11_talks_77, cd_X11_talks_83, cd_X11_talks_89, fl_X11_9, ev_b_23, ev_b_6, ev_b_7, no_0, no_1, no_lt, no_le, no_eq, no_lt0, no_ge0, no_gt0, no_le0, no_eq0, no_0eq, no_eqm, no_meq, no_m0, no_mlt, no_mge, no_mgt, no_mm, no_i01, no_i10, no_in, no_or, no_ifm, no_mul, nI_add, no_sub, pk_div, iI_if, nI_clamp, oI_n, oI_s, not_true_eq_false, not_false_eq_true, forall_const, true_implies, false_and, and_false, or_false, false_or, Classical.not_not, true_or, or_true, no_b, no_eq1, eq_self, and_self, sk_301, sk_302, sl_302, sp_301]
      | exact rfl
      | (split <;> omega))
end MTalk
