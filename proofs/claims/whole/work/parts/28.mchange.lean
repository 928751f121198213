/-! ===== the reference: changes that can be undone ===== -/
section MChg2
variable {G : ev_G} {N : Nat → Nat} {μ : ev_M} {σ : ev_A}
def psh (H : Nat → Nat → Nat) (N : Nat → Nat) : Nat → Nat → Nat
  | 0 => N
  | i + 1 => H i
def shf (μ : ev_M) (n : Nat) : ev_M := (fun c x => if c = 304 ∧ x < n then μ.1 304 (x + 1042) else μ.1 c x, μ.2)
theorem shf_0 : shf μ 0 = μ := Prod.ext (funext fun c => funext fun x => if_neg (by omega)) rfl
theorem shf_s {n : Nat} : (ev_up (shf μ n).1 304 n ((shf μ n).1 304 (n + 1042)), (shf μ n).2) = shf μ (n + 1) := by
  refine Prod.ext (funext fun c => funext fun x => ?_) rfl
  show (if c = 304 ∧ x = n then (if 304 = 304 ∧ n + 1042 < n then μ.1 304 (n + 1042 + 1042) else μ.1 304 (n + 1042)) else if c = 304 ∧ x < n then μ.1 304 (x + 1042) else μ.1 c x) = if c = 304 ∧ x < n + 1 then μ.1 304 (x + 1042) else μ.1 c x
  rw [if_neg (show ¬ (304 = 304 ∧ n + 1042 < n) by omega)]
  by_cases h1 : c = 304 ∧ x = n
  · rw [if_pos h1, if_pos (by omega), h1.2]
  · rw [if_neg h1]
    by_cases h2 : c = 304 ∧ x < n
    · rw [if_pos h2, if_pos (by omega)]
    · rw [if_neg h2, if_neg (by omega)]
def u7 (μ : ev_M) (v : Nat) : ev_M := (ev_up μ.1 301 7 (nI v), μ.2)
theorem u7_0 {v : Nat} : (u7 μ v).1 301 7 = nI v := by
  show ev_up μ.1 301 7 (nI v) 301 7 = nI v
  exact e_us
theorem u7_1 {v a k : Nat} (h : ¬ (a = 301 ∧ k = 7)) : (u7 μ v).1 a k = μ.1 a k := if_neg h
theorem u7_d {v : Nat} : (ev_up μ.1 301 7 (nI v), μ.2) = u7 μ v := rfl
/-- what undoing changes -/
def F7 (μ μ' : ev_M) : Prop := (∀ a k, a ≠ 304 → ¬ (a = 301 ∧ k = 7) → μ'.1 a k = μ.1 a k) ∧ μ'.2 = μ.2
theorem F7_q {μ' : ev_M} (h : F7 μ μ') : Fq μ μ' := ⟨fun a k h1 => h.1 a k (by omega) (by omega), h.2⟩
theorem MS_7 {μ' : ev_M} {H' : Nat → Nat → Nat} {k' : Nat} (h : MS σ μ) (hf : F7 μ μ') (hk : μ'.1 301 7 = nI k') (hU : MU H' k' μ') : MS (aN σ, aE σ, H', k', σ.2.2.2.2) μ' := by
  obtain ⟨h1, h2, h3, h4, h5, h6, h7, h8, h9, h10, h11, h12⟩ := h
  have e : ∀ a k, a ≠ 304 → ¬ (a = 301 ∧ k = 7) → μ'.1 a k = μ.1 a k := hf.1
  refine ⟨?_, ?_, hk, hU, ?_, ?_, ?_, ?_, ?_, ?_, ?_, ?_⟩
  · intro k hk; rw [e _ _ (by omega) (by omega)]; exact h1 k hk
  · rw [e _ _ (by omega) (by omega)]; exact h2
  · intro s hs; rw [e _ _ (by omega) (by omega)]; exact h5 s hs
  · intro s hs h j hj; rw [e _ _ (by omega) (by omega)]; exact h6 s hs h j hj
  · rw [e _ _ (by omega) (by omega)]; exact h7
  · intro i hi; rw [e _ _ (by omega) (by omega)]; exact h8 i hi
  · rw [e _ _ (by omega) (by omega)]; exact h9
  · rw [e _ _ (by omega) (by omega)]; exact h10
  · rw [e _ _ (by omega) (by omega)]; exact h11
  · intro i hi; rw [e _ _ (by omega) (by omega)]; exact h12 i hi
theorem cpy_o {a i b j n c x : Nat} (h : ¬ (c = b ∧ j ≤ x ∧ x < j + n)) : (cpy μ a i b j n).1 c x = μ.1 c x := if_neg h
theorem cpy_i {a i b j n x : Nat} (h1 : j ≤ x) (h2 : x < j + n) : (cpy μ a i b j n).1 b x = μ.1 a (i + (x - j)) := if_pos ⟨rfl, h1, h2⟩
set_option maxRecDepth 20000 in
set_option maxHeartbeats 1000000 in
theorem m_X11_remembers (hok : ev_ok sh_S G) (h : MS σ μ) (hk : aK σ ≤ 8) : ∃ μ', ev_T sh_S G mi_X11_remembers [.ref 301] μ (.inl (none, μ')) ∧ MS (aN σ, aE σ, psh (aH σ) (aN σ), min (aK σ + 1) 8, σ.2.2.2.2) μ' ∧ Fq μ μ' ∧ μ'.1 301 0 = μ.1 301 0 := by
  have h3 : μ.1 301 7 = nI (aK σ) := h.2.2.1
  have h4 : MU (aH σ) (aK σ) μ := h.2.2.2.1
  have h1 : MR (aN σ) μ := h.1
  rcases Nat.lt_or_ge (aK σ) 8 with h8 | h8
  · have e0 : min (aK σ + 1) 8 = aK σ + 1 := by omega
    rw [e0]
    have hF : F7 μ (u7 (cpy μ 302 0 304 (aK σ * 1042) 1042) (aK σ + 1)) := ⟨fun a k h5 h6 => by rw [u7_1 h6, cpy_o (by omega)], rfl⟩
    refine ⟨u7 (cpy μ 302 0 304 (aK σ * 1042) 1042) (aK σ + 1), ?_, MS_7 h hF u7_0 ?_, F7_q hF, hF.1 _ _ (by omega) (by omega)⟩
    · have e1 : (cpy μ 302 0 304 (aK σ * 1042) 1042).1 301 7 = nI (aK σ) := by rw [cpy_o (by omega)]; exact h3
      refine ev_tri hok (okM_X11_remembers 0) (Nat.le_of_ble_eq_true rfl) 400 ?_
      rw [at_X11_remembers_0]
      repeat' (first
        | (with_reducible refine ev_rid ?_; simp (disch := first | omega | assumption) only [ev_run_c, ev_run_n, ev_fj, ev_stp, ev_lk, ev_fv, ev_as, ev_sz, ev_st1, ev_st2, ev_rm, ev_pk, ev_Jof, ev_go, lv_args, List.map_cons, List.map_nil, List.zip_cons_cons, List.zip_nil_left, List.zip_nil_right, List.nil_append, List.cons_append, ↓reduceIte, reduceCtorEq, Int.reduceToNat, Nat.reduceEqDiff, Nat.reduceAdd, Nat.reduceLT, Nat.reduceLeDiff, Nat.reduceMul, Nat.reduceSub, Value.category, false_implies, true_and, and_true, Bool.false_eq_true, Option.some.injEq, exists_eq_left', Option.toList_some, Option.toList_none, ev_km, ev_k2, ev_k3, ev_k4, ev_k5, ev_l0, ev_l1, sh_1, sh_2, sh_3, sh_4, sh_5, at_X11_remembers_11, at_X11_remembers_40, at_X11_remembers_50, ca_X11_51, cd_X11_remembers_0, cd_X11_remembers_11, cd_X11_remembers_40, cd_X11_remembers_50, fl_X11_16, fl_X11_322, fl_X11_9, ev_b_8, ev_h_1042, ev_h_7294, no_0, no_1, no_lt, no_le, no_eq, no_lt0, no_ge0, no_gt0, no_le0, no_eq0, no_0eq, no_eqm, no_meq, no_m0, no_mlt, no_mge, no_mgt, no_mm, no_i01, no_i10, no_in, no_or, no_ifm, no_mul, nI_add, no_sub, pk_div, iI_if, nI_clamp, oI_n, oI_s, not_true_eq_false, not_false_eq_true, forall_const, true_implies, false_and, and_false, or_false, false_or, Classical.not_not, true_or, or_true, no_b, no_eq1, eq_self, and_self, sk_301, sk_302, sl_302, sp_301, h3, sk_304, sl_304, sp_304, e1, u7_d])
        | (with_reducible refine ev_gid ?_; simp (disch := first | omega | assumption) only [ev_run_c, ev_run_n, ev_fj, ev_stp, ev_lk, ev_fv, ev_as, ev_sz, ev_st1, ev_st2, ev_rm, ev_pk, ev_Jof, ev_go, lv_args, List.map_cons, List.map_nil, List.zip_cons_cons, List.zip_nil_left, List.zip_nil_right, List.nil_append, List.cons_append, ↓reduceIte, reduceCtorEq, Int.reduceToNat, Nat.reduceEqDiff, Nat.reduceAdd, Nat.reduceLT, Nat.reduceLeDiff, Nat.reduceMul, Nat.reduceSub, Value.category, false_implies, true_and, and_true, Bool.false_eq_true, Option.some.injEq, exists_eq_left', Option.toList_some, Option.toList_none, ev_km, ev_k2, ev_k3, ev_k4, ev_k5, ev_l0, ev_l1, sh_1, sh_2, sh_3, sh_4, sh_5, at_X11_remembers_11, at_X11_remembers_40, at_X11_remembers_50, ca_X11_51, cd_X11_remembers_0, cd_X11_remembers_11, cd_X11_remembers_40, cd_X11_remembers_50, fl_X11_16, fl_X11_322, fl_X11_9, ev_b_8, ev_h_1042, ev_h_7294, no_0, no_1, no_lt, no_le, no_eq, no_lt0, no_ge0, no_gt0, no_le0, no_eq0, no_0eq, no_eqm, no_meq, no_m0, no_mlt, no_mge, no_mgt, no_mm, no_i01, no_i10, no_in, no_or, no_ifm, no_mul, nI_add, no_sub, pk_div, iI_if, nI_clamp, oI_n, oI_s, not_true_eq_false, not_false_eq_true, forall_const, true_implies, false_and, and_false, or_false, false_or, Classical.not_not, true_or, or_true, no_b, no_eq1, eq_self, and_self, sk_301, sk_302, sl_302, sp_301, h3, sk_304, sl_304, sp_304, e1, u7_d])
        | (with_reducible refine And.intro (fun q => ?_) (fun q => ?_) <;> (try simp (disch := first | omega | assumption) only [no_0, no_1, no_lt, no_le, no_eq, no_lt0, no_ge0, no_gt0, no_le0, no_eq0, no_0eq, no_eqm, no_meq, no_m0, no_mlt, no_mge, no_mgt, no_mm, no_i01, no_i10, no_in, no_or, no_ifm, no_mul, nI_add, no_sub, pk_div, iI_if, nI_clamp, oI_n, oI_s, not_true_eq_false, not_false_eq_true, forall_const, true_implies, false_and, and_false, or_false, false_or, Classical.not_not, true_or, or_true, no_b, no_eq1, eq_self, and_self, sk_301, sk_302, sl_302, sp_301, h3, sk_304, sl_304, sp_304, e1, u7_d] at q))
        | with_reducible refine ev_ci (m_X11_lays hok ?_ ?_ ?_ ?_ ?_ ?_ ?_ ?_ ?_) ?_
        | omega
        | with_reducible assumption
        | with_reducible rfl
        | with_reducible refine lp_nx ?_ ?_ ?_ ?_
        | with_reducible refine lp_st ?_ ?_ ?_
        | with_reducible refine ls_c ?_ ?_
        | with_reducible refine vi_c ?_
        | with_reducible refine re_c ?_
        | with_reducible refine vz_c ?_
        | with_reducible refine rz_c ?_
        | exact trivial
        | with_reducible refine And.intro ?_ ?_
        | simp (disch := first | omega | assumption) only [ev_run_c, ev_run_n, ev_fj, ev_stp, ev_lk, ev_fv, ev_as, ev_sz, ev_st1, ev_st2, ev_rm, ev_pk, ev_Jof, ev_go, lv_args, List.map_cons, List.map_nil, List.zip_cons_cons, List.zip_nil_left, List.zip_nil_right, List.nil_append, List.cons_append, ↓reduceIte, reduceCtorEq, Int.reduceToNat, Nat.reduceEqDiff, Nat.reduceAdd, Nat.reduceLT, Nat.reduceLeDiff, Nat.reduceMul, Nat.reduceSub, Value.category, false_implies, true_and, and_true, Bool.false_eq_true, Option.some.injEq, exists_eq_left', Option.toList_some, Option.toList_none, ev_km, ev_k2, ev_k3, ev_k4, ev_k5, ev_l0, ev_l1, sh_1, sh_2, sh_3, sh_4, sh_5, at_X11_remembers_11, at_X11_remembers_40, at_X11_remembers_50, ca_X11_51, cd_X11_remembers_0, cd_X11_remembers_11, cd_X11_remembers_40, cd_X11_remembers_50, fl_X11_16, fl_X11_322, fl_X11_9, ev_b_8, ev_h_1042, ev_h_7294, no_0, no_1, no_lt, no_le, no_eq, no_lt0, no_ge0, no_gt0, no_le0, no_eq0, no_0eq, no_eqm, no_meq, no_m0, no_mlt, no_mge, no_mgt, no_mm, no_i01, no_i10, no_in, no_or, no_ifm, no_mul, nI_add, no_sub, pk_div, iI_if, nI_clamp, oI_n, oI_s, not_true_eq_false, not_false_eq_true, forall_const, true_implies, false_and, and_false, or_false, false_or, Classical.not_not, true_or, or_true, no_b, no_eq1, eq_self, and_self, sk_301, sk_302, sl_302, sp_301, h3, sk_304, sl_304, sp_304, e1, u7_d]
        | (split <;> omega))
    · intro i hi j hj
      rw [u7_1 (by omega)]
      cases i with
      | zero =>
        rw [cpy_i (by omega) (by omega)]
        rw [show 0 + (1042 * (aK σ + 1 - 1 - 0) + j - aK σ * 1042) = j by omega]
        exact h1 j hj
      | succ i =>
        rw [cpy_o (by omega), show aK σ + 1 - 1 - (i + 1) = aK σ - 1 - i by omega]
        exact h4 i (by omega) j hj
  · have e8 : aK σ = 8 := by omega
    have e0 : min (aK σ + 1) 8 = 8 := by omega
    rw [e0]
    rw [e8] at h3 h4
    have hF : F7 μ (u7 (cpy (u7 (shf μ 7294) 7) 302 0 304 7294 1042) 8) := ⟨fun a k h5 h6 => by
      rw [u7_1 h6, cpy_o (by omega), u7_1 h6]
      exact if_neg (fun q => h5 q.1), rfl⟩
    refine ⟨u7 (cpy (u7 (shf μ 7294) 7) 302 0 304 7294 1042) 8, ?_, MS_7 h hF u7_0 ?_, F7_q hF, hF.1 _ _ (by omega) (by omega)⟩
    · refine ev_tri1 hok (okM_X11_remembers 0) (Nat.le_of_ble_eq_true rfl) 11 [0, 1] 7294 400 (fun k => [.ref 301, .int (nI k)]) (fun k => shf μ k) (fun _ => True) ?_ ?_
      · intro k hk _
        rw [at_X11_remembers_11]
        have e := shf_s (μ := μ) (n := k)
        rcases Nat.lt_or_ge k 7294 with hkn | hkn
        · repeat' (first
            | (with_reducible refine ev_rid ?_; simp (disch := first | omega | assumption) only [ev_run_c, ev_run_n, ev_fj, ev_stp, ev_lk, ev_fv, ev_as, ev_sz, ev_st1, ev_st2, ev_rm, ev_pk, ev_Jof, ev_go, lv_args, List.map_cons, List.map_nil, List.zip_cons_cons, List.zip_nil_left, List.zip_nil_right, List.nil_append, List.cons_append, ↓reduceIte, reduceCtorEq, Int.reduceToNat, Nat.reduceEqDiff, Nat.reduceAdd, Nat.reduceLT, Nat.reduceLeDiff, Nat.reduceMul, Nat.reduceSub, Value.category, false_implies, true_and, and_true, Bool.false_eq_true, Option.some.injEq, exists_eq_left', Option.toList_some, Option.toList_none, ev_km, ev_k2, ev_k3, ev_k4, ev_k5, ev_l0, ev_l1, sh_1, sh_2, sh_3, sh_4, sh_5, at_X11_remembers_11, at_X11_remembers_40, at_X11_remembers_50, ca_X11_51, cd_X11_remembers_0, cd_X11_remembers_11, cd_X11_remembers_40, cd_X11_remembers_50, fl_X11_16, fl_X11_322, fl_X11_9, ev_b_8, ev_h_1042, ev_h_7294, no_0, no_1, no_lt, no_le, no_eq, no_lt0, no_ge0, no_gt0, no_le0, no_eq0, no_0eq, no_eqm, no_meq, no_m0, no_mlt, no_mge, no_mgt, no_mm, no_i01, no_i10, no_in, no_or, no_ifm, no_mul, nI_add, no_sub, pk_div, iI_if, nI_clamp, oI_n, oI_s, not_true_eq_false, not_false_eq_true, forall_const, true_implies, false_and, and_false, or_false, false_or, Classical.not_not, true_or, or_true, no_b, no_eq1, eq_self, and_self, sk_301, sk_302, sl_302, sp_301, sk_304, sl_304, sp_304, e])
            | (with_reducible refine ev_gid ?_; simp (disch := first | omega | assumption) only [ev_run_c, ev_run_n, ev_fj, ev_stp, ev_lk, ev_fv, ev_as, ev_sz, ev_st1, ev_st2, ev_rm, ev_pk, ev_Jof, ev_go, lv_args, List.map_cons, List.map_nil, List.zip_cons_cons, List.zip_nil_left, List.zip_nil_right, List.nil_append, List.cons_append, ↓reduceIte, reduceCtorEq, Int.reduceToNat, Nat.reduceEqDiff, Nat.reduceAdd, Nat.reduceLT, Nat.reduceLeDiff, Nat.reduceMul, Nat.reduceSub, Value.category, false_implies, true_and, and_true, Bool.false_eq_true, Option.some.injEq, exists_eq_left', Option.toList_some, Option.toList_none, ev_km, ev_k2, ev_k3, ev_k4, ev_k5, ev_l0, ev_l1, sh_1, sh_2, sh_3, sh_4, sh_5, at_X11_remembers_11, at_X11_remembers_40, at_X11_remembers_50, ca_X11_51, cd_X11_remembers_0, cd_X11_remembers_11, cd_X11_remembers_40, cd_X11_remembers_50, fl_X11_16, fl_X11_322, fl_X11_9, ev_b_8, ev_h_1042, ev_h_7294, no_0, no_1, no_lt, no_le, no_eq, no_lt0, no_ge0, no_gt0, no_le0, no_eq0, no_0eq, no_eqm, no_meq, no_m0, no_mlt, no_mge, no_mgt, no_mm, no_i01, no_i10, no_in, no_or, no_ifm, no_mul, nI_add, no_sub, pk_div, iI_if, nI_clamp, oI_n, oI_s, not_true_eq_false, not_false_eq_true, forall_const, true_implies, false_and, and_false, or_false, false_or, Classical.not_not, true_or, or_true, no_b, no_eq1, eq_self, and_self, sk_301, sk_302, sl_302, sp_301, sk_304, sl_304, sp_304, e])
            | (with_reducible refine And.intro (fun q => ?_) (fun q => ?_) <;> (try simp (disch := first | omega | assumption) only [no_0, no_1, no_lt, no_le, no_eq, no_lt0, no_ge0, no_gt0, no_le0, no_eq0, no_0eq, no_eqm, no_meq, no_m0, no_mlt, no_mge, no_mgt, no_mm, no_i01, no_i10, no_in, no_or, no_ifm, no_mul, nI_add, no_sub, pk_div, iI_if, nI_clamp, oI_n, oI_s, not_true_eq_false, not_false_eq_true, forall_const, true_implies, false_and, and_false, or_false, false_or, Classical.not_not, true_or, or_true, no_b, no_eq1, eq_self, and_self, sk_301, sk_302, sl_302, sp_301, sk_304, sl_304, sp_304, e] at q))
            | with_reducible refine ev_ci (m_X11_lays hok ?_ ?_ ?_ ?_ ?_ ?_ ?_ ?_ ?_) ?_
            | omega
            | with_reducible assumption
            | with_reducible rfl
            | with_reducible refine lp_nx ?_ ?_ ?_ ?_
            | with_reducible refine lp_st ?_ ?_ ?_
            | with_reducible refine ls_c ?_ ?_
            | with_reducible refine vi_c ?_
            | with_reducible refine re_c ?_
            | with_reducible refine vz_c ?_
            | with_reducible refine rz_c ?_
            | exact trivial
            | with_reducible refine And.intro ?_ ?_
            | simp (disch := first | omega | assumption) only [ev_run_c, ev_run_n, ev_fj, ev_stp, ev_lk, ev_fv, ev_as, ev_sz, ev_st1, ev_st2, ev_rm, ev_pk, ev_Jof, ev_go, lv_args, List.map_cons, List.map_nil, List.zip_cons_cons, List.zip_nil_left, List.zip_nil_right, List.nil_append, List.cons_append, ↓reduceIte, reduceCtorEq, Int.reduceToNat, Nat.reduceEqDiff, Nat.reduceAdd, Nat.reduceLT, Nat.reduceLeDiff, Nat.reduceMul, Nat.reduceSub, Value.category, false_implies, true_and, and_true, Bool.false_eq_true, Option.some.injEq, exists_eq_left', Option.toList_some, Option.toList_none, ev_km, ev_k2, ev_k3, ev_k4, ev_k5, ev_l0, ev_l1, sh_1, sh_2, sh_3, sh_4, sh_5, at_X11_remembers_11, at_X11_remembers_40, at_X11_remembers_50, ca_X11_51, cd_X11_remembers_0, cd_X11_remembers_11, cd_X11_remembers_40, cd_X11_remembers_50, fl_X11_16, fl_X11_322, fl_X11_9, ev_b_8, ev_h_1042, ev_h_7294, no_0, no_1, no_lt, no_le, no_eq, no_lt0, no_ge0, no_gt0, no_le0, no_eq0, no_0eq, no_eqm, no_meq, no_m0, no_mlt, no_mge, no_mgt, no_mm, no_i01, no_i10, no_in, no_or, no_ifm, no_mul, nI_add, no_sub, pk_div, iI_if, nI_clamp, oI_n, oI_s, not_true_eq_false, not_false_eq_true, forall_const, true_implies, false_and, and_false, or_false, false_or, Classical.not_not, true_or, or_true, no_b, no_eq1, eq_self, and_self, sk_301, sk_302, sl_302, sp_301, sk_304, sl_304, sp_304, e]
            | (split <;> omega))
        · have e2 : k = 7294 := by omega
          subst e2
          have e3 : (shf μ 7294).1 301 7 = nI 8 := by
            show (if 301 = 304 ∧ 7 < 7294 then μ.1 304 (7 + 1042) else μ.1 301 7) = nI 8
            rw [if_neg (by omega)]; exact h3
          have e4 : (cpy (u7 (shf μ 7294) 7) 302 0 304 7294 1042).1 301 7 = nI 7 := by rw [cpy_o (by omega)]; exact u7_0
          repeat' (first
            | (with_reducible refine ev_rid ?_; simp (disch := first | omega | assumption) only [ev_run_c, ev_run_n, ev_fj, ev_stp, ev_lk, ev_fv, ev_as, ev_sz, ev_st1, ev_st2, ev_rm, ev_pk, ev_Jof, ev_go, lv_args, List.map_cons, List.map_nil, List.zip_cons_cons, List.zip_nil_left, List.zip_nil_right, List.nil_append, List.cons_append, ↓reduceIte, reduceCtorEq, Int.reduceToNat, Nat.reduceEqDiff, Nat.reduceAdd, Nat.reduceLT, Nat.reduceLeDiff, Nat.reduceMul, Nat.reduceSub, Value.category, false_implies, true_and, and_true, Bool.false_eq_true, Option.some.injEq, exists_eq_left', Option.toList_some, Option.toList_none, ev_km, ev_k2, ev_k3, ev_k4, ev_k5, ev_l0, ev_l1, sh_1, sh_2, sh_3, sh_4, sh_5, at_X11_remembers_11, at_X11_remembers_40, at_X11_remembers_50, ca_X11_51, cd_X11_remembers_0, cd_X11_remembers_11, cd_X11_remembers_40, cd_X11_remembers_50, fl_X11_16, fl_X11_322, fl_X11_9, ev_b_8, ev_h_1042, ev_h_7294, no_0, no_1, no_lt, no_le, no_eq, no_lt0, no_ge0, no_gt0, no_le0, no_eq0, no_0eq, no_eqm, no_meq, no_m0, no_mlt, no_mge, no_mgt, no_mm, no_i01, no_i10, no_in, no_or, no_ifm, no_mul, nI_add, no_sub, pk_div, iI_if, nI_clamp, oI_n, oI_s, not_true_eq_false, not_false_eq_true, forall_const, true_implies, false_and, and_false, or_false, false_or, Classical.not_not, true_or, or_true, no_b, no_eq1, eq_self, and_self, sk_301, sk_302, sl_302, sp_301, sk_304, sl_304, sp_304, e3, e4, u7_d, u7_0])
            | (with_reducible refine ev_gid ?_; simp (disch := first | omega | assumption) only [ev_run_c, ev_run_n, ev_fj, ev_stp, ev_lk, ev_fv, ev_as, ev_sz, ev_st1, ev_st2, ev_rm, ev_pk, ev_Jof, ev_go, lv_args, List.map_cons, List.map_nil, List.zip_cons_cons, List.zip_nil_left, List.zip_nil_right, List.nil_append, List.cons_append, ↓reduceIte, reduceCtorEq, Int.reduceToNat, Nat.reduceEqDiff, Nat.reduceAdd, Nat.reduceLT, Nat.reduceLeDiff, Nat.reduceMul, Nat.reduceSub, Value.category, false_implies, true_and, and_true, Bool.false_eq_true, Option.some.injEq, exists_eq_left', Option.toList_some, Option.toList_none, ev_km, ev_k2, ev_k3, ev_k4, ev_k5, ev_l0, ev_l1, sh_1, sh_2, sh_3, sh_4, sh_5, at_X11_remembers_11, at_X11_remembers_40, at_X11_remembers_50, ca_X11_51, cd_X11_remembers_0, cd_X11_remembers_11, cd_X11_remembers_40, cd_X11_remembers_50, fl_X11_16, fl_X11_322, fl_X11_9, ev_b_8, ev_h_1042, ev_h_7294, no_0, no_1, no_lt, no_le, no_eq, no_lt0, no_ge0, no_gt0, no_le0, no_eq0, no_0eq, no_eqm, no_meq, no_m0, no_mlt, no_mge, no_mgt, no_mm, no_i01, no_i10, no_in, no_or, no_ifm, no_mul, nI_add, no_sub, pk_div, iI_if, nI_clamp, oI_n, oI_s, not_true_eq_false, not_false_eq_true, forall_const, true_implies, false_and, and_false, or_false, false_or, Classical.not_not, true_or, or_true, no_b, no_eq1, eq_self, and_self, sk_301, sk_302, sl_302, sp_301, sk_304, sl_304, sp_304, e3, e4, u7_d, u7_0])
            | (with_reducible refine And.intro (fun q => ?_) (fun q => ?_) <;> (try simp (disch := first | omega | assumption) only [no_0, no_1, no_lt, no_le, no_eq, no_lt0, no_ge0, no_gt0, no_le0, no_eq0, no_0eq, no_eqm, no_meq, no_m0, no_mlt, no_mge, no_mgt, no_mm, no_i01, no_i10, no_in, no_or, no_ifm, no_mul, nI_add, no_sub, pk_div, iI_if, nI_clamp, oI_n, oI_s, not_true_eq_false, not_false_eq_true, forall_const, true_implies, false_and, and_false, or_false, false_or, Classical.not_not, true_or, or_true, no_b, no_eq1, eq_self, and_self, sk_301, sk_302, sl_302, sp_301, sk_304, sl_304, sp_304, e3, e4, u7_d, u7_0] at q))
            | with_reducible refine ev_ci (m_X11_lays hok ?_ ?_ ?_ ?_ ?_ ?_ ?_ ?_ ?_) ?_
            | omega
            | with_reducible assumption
            | with_reducible rfl
            | with_reducible refine lp_nx ?_ ?_ ?_ ?_
            | with_reducible refine lp_st ?_ ?_ ?_
            | with_reducible refine ls_c ?_ ?_
            | with_reducible refine vi_c ?_
            | with_reducible refine re_c ?_
            | with_reducible refine vz_c ?_
            | with_reducible refine rz_c ?_
            | exact trivial
            | with_reducible refine And.intro ?_ ?_
            | simp (disch := first | omega | assumption) only [ev_run_c, ev_run_n, ev_fj, ev_stp, ev_lk, ev_fv, ev_as, ev_sz, ev_st1, ev_st2, ev_rm, ev_pk, ev_Jof, ev_go, lv_args, List.map_cons, List.map_nil, List.zip_cons_cons, List.zip_nil_left, List.zip_nil_right, List.nil_append, List.cons_append, ↓reduceIte, reduceCtorEq, Int.reduceToNat, Nat.reduceEqDiff, Nat.reduceAdd, Nat.reduceLT, Nat.reduceLeDiff, Nat.reduceMul, Nat.reduceSub, Value.category, false_implies, true_and, and_true, Bool.false_eq_true, Option.some.injEq, exists_eq_left', Option.toList_some, Option.toList_none, ev_km, ev_k2, ev_k3, ev_k4, ev_k5, ev_l0, ev_l1, sh_1, sh_2, sh_3, sh_4, sh_5, at_X11_remembers_11, at_X11_remembers_40, at_X11_remembers_50, ca_X11_51, cd_X11_remembers_0, cd_X11_remembers_11, cd_X11_remembers_40, cd_X11_remembers_50, fl_X11_16, fl_X11_322, fl_X11_9, ev_b_8, ev_h_1042, ev_h_7294, no_0, no_1, no_lt, no_le, no_eq, no_lt0, no_ge0, no_gt0, no_le0, no_eq0, no_0eq, no_eqm, no_meq, no_m0, no_mlt, no_mge, no_mgt, no_mm, no_i01, no_i10, no_in, no_or, no_ifm, no_mul, nI_add, no_sub, pk_div, iI_if, nI_clamp, oI_n, oI_s, not_true_eq_false, not_false_eq_true, forall_const, true_implies, false_and, and_false, or_false, false_or, Classical.not_not, true_or, or_true, no_b, no_eq1, eq_self, and_self, sk_301, sk_302, sl_302, sp_301, sk_304, sl_304, sp_304, e3, e4, u7_d, u7_0]
            | (split <;> omega))
      · rw [at_X11_remembers_0]
        repeat' (first
          | (with_reducible refine ev_rid ?_; simp (disch := first | omega | assumption) only [ev_run_c, ev_run_n, ev_fj, ev_stp, ev_lk, ev_fv, ev_as, ev_sz, ev_st1, ev_st2, ev_rm, ev_pk, ev_Jof, ev_go, lv_args, List.map_cons, List.map_nil, List.zip_cons_cons, List.zip_nil_left, List.zip_nil_right, List.nil_append, List.cons_append, ↓reduceIte, reduceCtorEq, Int.reduceToNat, Nat.reduceEqDiff, Nat.reduceAdd, Nat.reduceLT, Nat.reduceLeDiff, Nat.reduceMul, Nat.reduceSub, Value.category, false_implies, true_and, and_true, Bool.false_eq_true, Option.some.injEq, exists_eq_left', Option.toList_some, Option.toList_none, ev_km, ev_k2, ev_k3, ev_k4, ev_k5, ev_l0, ev_l1, sh_1, sh_2, sh_3, sh_4, sh_5, at_X11_remembers_11, at_X11_remembers_40, at_X11_remembers_50, ca_X11_51, cd_X11_remembers_0, cd_X11_remembers_11, cd_X11_remembers_40, cd_X11_remembers_50, fl_X11_16, fl_X11_322, fl_X11_9, ev_b_8, ev_h_1042, ev_h_7294, no_0, no_1, no_lt, no_le, no_eq, no_lt0, no_ge0, no_gt0, no_le0, no_eq0, no_0eq, no_eqm, no_meq, no_m0, no_mlt, no_mge, no_mgt, no_mm, no_i01, no_i10, no_in, no_or, no_ifm, no_mul, nI_add, no_sub, pk_div, iI_if, nI_clamp, oI_n, oI_s, not_true_eq_false, not_false_eq_true, forall_const, true_implies, false_and, and_false, or_false, false_or, Classical.not_not, true_or, or_true, no_b, no_eq1, eq_self, and_self, sk_301, sk_302, sl_302, sp_301, h3])
          | (with_reducible refine ev_gid ?_; simp (disch := first | omega | assumption) only [ev_run_c, ev_run_n, ev_fj, ev_stp, ev_lk, ev_fv, ev_as, ev_sz, ev_st1, ev_st2, ev_rm, ev_pk, ev_Jof, ev_go, lv_args, List.map_cons, List.map_nil, List.zip_cons_cons, List.zip_nil_left, List.zip_nil_right, List.nil_append, List.cons_append, ↓reduceIte, reduceCtorEq, Int.reduceToNat, Nat.reduceEqDiff, Nat.reduceAdd, Nat.reduceLT, Nat.reduceLeDiff, Nat.reduceMul, Nat.reduceSub, Value.category, false_implies, true_and, and_true, Bool.false_eq_true, Option.some.injEq, exists_eq_left', Option.toList_some, Option.toList_none, ev_km, ev_k2, ev_k3, ev_k4, ev_k5, ev_l0, ev_l1, sh_1, sh_2, sh_3, sh_4, sh_5, at_X11_remembers_11, at_X11_remembers_40, at_X11_remembers_50, ca_X11_51, cd_X11_remembers_0, cd_X11_remembers_11, cd_X11_remembers_40, cd_X11_remembers_50, fl_X11_16, fl_X11_322, fl_X11_9, ev_b_8, ev_h_1042, ev_h_7294, no_0, no_1, no_lt, no_le, no_eq, no_lt0, no_ge0, no_gt0, no_le0, no_eq0, no_0eq, no_eqm, no_meq, no_m0, no_mlt, no_mge, no_mgt, no_mm, no_i01, no_i10, no_in, no_or, no_ifm, no_mul, nI_add, no_sub, pk_div, iI_if, nI_clamp, oI_n, oI_s, not_true_eq_false, not_false_eq_true, forall_const, true_implies, false_and, and_false, or_false, false_or, Classical.not_not, true_or, or_true, no_b, no_eq1, eq_self, and_self, sk_301, sk_302, sl_302, sp_301, h3])
          | (with_reducible refine And.intro (fun q => ?_) (fun q => ?_) <;> (try simp (disch := first | omega | assumption) only [no_0, no_1, no_lt, no_le, no_eq, no_lt0, no_ge0, no_gt0, no_le0, no_eq0, no_0eq, no_eqm, no_meq, no_m0, no_mlt, no_mge, no_mgt, no_mm, no_i01, no_i10, no_in, no_or, no_ifm, no_mul, nI_add, no_sub, pk_div, iI_if, nI_clamp, oI_n, oI_s, not_true_eq_false, not_false_eq_true, forall_const, true_implies, false_and, and_false, or_false, false_or, Classical.not_not, true_or, or_true, no_b, no_eq1, eq_self, and_self, sk_301, sk_302, sl_302, sp_301, h3] at q))
          | with_reducible refine ev_ci (m_X11_lays hok ?_ ?_ ?_ ?_ ?_ ?_ ?_ ?_ ?_) ?_
          | omega
          | with_reducible assumption
          | with_reducible rfl
          | exact shf_0.symm
          | with_reducible refine lp_nx ?_ ?_ ?_ ?_
          | with_reducible refine lp_st ?_ ?_ ?_
          | with_reducible refine ls_c ?_ ?_
          | with_reducible refine vi_c ?_
          | with_reducible refine re_c ?_
          | with_reducible refine vz_c ?_
          | with_reducible refine rz_c ?_
          | exact trivial
          | with_reducible refine And.intro ?_ ?_
          | simp (disch := first | omega | assumption) only [ev_run_c, ev_run_n, ev_fj, ev_stp, ev_lk, ev_fv, ev_as, ev_sz, ev_st1, ev_st2, ev_rm, ev_pk, ev_Jof, ev_go, lv_args, List.map_cons, List.map_nil, List.zip_cons_cons, List.zip_nil_left, List.zip_nil_right, List.nil_append, List.cons_append, ↓reduceIte, reduceCtorEq, Int.reduceToNat, Nat.reduceEqDiff, Nat.reduceAdd, Nat.reduceLT, Nat.reduceLeDiff, Nat.reduceMul, Nat.reduceSub, Value.category, false_implies, true_and, and_true, Bool.false_eq_true, Option.some.injEq, exists_eq_left', Option.toList_some, Option.toList_none, ev_km, ev_k2, ev_k3, ev_k4, ev_k5, ev_l0, ev_l1, sh_1, sh_2, sh_3, sh_4, sh_5, at_X11_remembers_11, at_X11_remembers_40, at_X11_remembers_50, ca_X11_51, cd_X11_remembers_0, cd_X11_remembers_11, cd_X11_remembers_40, cd_X11_remembers_50, fl_X11_16, fl_X11_322, fl_X11_9, ev_b_8, ev_h_1042, ev_h_7294, no_0, no_1, no_lt, no_le, no_eq, no_lt0, no_ge0, no_gt0, no_le0, no_eq0, no_0eq, no_eqm, no_meq, no_m0, no_mlt, no_mge, no_mgt, no_mm, no_i01, no_i10, no_in, no_or, no_ifm, no_mul, nI_add, no_sub, pk_div, iI_if, nI_clamp, oI_n, oI_s, not_true_eq_false, not_false_eq_true, forall_const, true_implies, false_and, and_false, or_false, false_or, Classical.not_not, true_or, or_true, no_b, no_eq1, eq_self, and_self, sk_301, sk_302, sl_302, sp_301, h3]
          | exact rfl
          | (split <;> omega))
    · intro i hi j hj
      rw [u7_1 (by omega)]
      cases i with
      | zero =>
        rw [cpy_i (by omega) (by omega), u7_1 (by omega)]
        rw [show 0 + (1042 * (8 - 1 - 0) + j - 7294) = j by omega]
        show (if 302 = 304 ∧ j < 7294 then μ.1 304 (j + 1042) else μ.1 302 j) = _
        rw [if_neg (by omega)]
        exact h1 j hj
      | succ i =>
        rw [cpy_o (by omega), u7_1 (by omega)]
        show (if 304 = 304 ∧ 1042 * (8 - 1 - (i + 1)) + j < 7294 then μ.1 304 (1042 * (8 - 1 - (i + 1)) + j + 1042) else _) = _
        rw [if_pos (by omega), show 1042 * (8 - 1 - (i + 1)) + j + 1042 = 1042 * (8 - 1 - i) + j by omega]
        exact h4 i (by omega) j hj
/-- the state after a change that gives a new row -/
def chS (σ : ev_A) (N' : Nat → Nat) : ev_A := (N', aE σ, psh (aH σ) (aN σ), min (aK σ + 1) 8, σ.2.2.2.2)
theorem OKA_ch {N' : Nat → Nat} (h : OKA σ) (hI : INV N') : OKA (chS σ N') := by
  obtain ⟨h1, h2, h3, h4, h5⟩ := h
  refine ⟨hI, h2, Nat.min_le_right _ _, ?_, h5⟩
  intro i hi
  have hi : i < min (aK σ + 1) 8 := hi
  cases i with
  | zero => exact h1
  | succ i => exact h4 i (by omega)
def s_bid (σ : ev_A) (x y z : Int32) : Nat × Int32 × ev_A := if aE σ = 0 then (1, nI 0, σ) else match rx (aN σ 0) x with
  | none => (2, nI 0, σ)
  | some i => match rx (aN σ 1) y with
    | none => (2, nI 0, σ)
    | some j => if aN σ (8 + 59 * i + 1) = 0 then (3, nI 0, σ) else match rx 4 z with
      | none => (3, nI 0, σ)
      | some b => (0, nI (aN σ (8 + 59 * i + (13 + j))), chS σ (up (aN σ) (8 + 59 * i + (13 + j)) b))
def s_res (y : ev_Mi) (args : List Value) (μ : ev_M) (G : ev_G) (r : Nat × Int32 × ev_A) : Prop := ∃ μ', ev_T sh_S G y args μ (.inl (some (.int r.2.1), μ')) ∧ MS r.2.2 μ' ∧ Fq μ μ' ∧ μ'.1 301 0 = nI r.1
theorem c2_ab {x y : Int32} {n m i j : Nat} (h : rx n x = some i) (g : rx m y = some j) : c2 1 n m x y = 0 := c2_s h g
set_option maxHeartbeats 2000000 in
theorem M_bid (hok : ev_ok sh_S G) (h : MS σ μ) (hA : OKA σ) (x y z : Int32) : s_res mi_X11_bid [.ref 301, .int x, .int y, .int z] μ G (s_bid σ x y z) := by
  have hN : MR (aN σ) μ := h.1
  have he : μ.1 301 6 = nI (aE σ) := h.2.1
  have he2 : aE σ < 2 := hA.2.1
  have hI : INV (aN σ) := hA.1
  have hh := iv_h hI
  have d3 : nI 3 = dI 4 := by decide
  obtain ⟨μ1, hr, hM1, hq1, ht1⟩ := m_X11_remembers hok (MS_th (t := 0) h) hA.2.2.1
  have hN1 : MR (aN σ) μ1 := hM1.1
  have fail : ∀ t, ev_T sh_S G mi_X11_bid [.ref 301, .int x, .int y, .int z] μ (.inl (some (.int (nI 0)), th μ t)) → s_res mi_X11_bid [.ref 301, .int x, .int y, .int z] μ G (t, nI 0, σ) := fun t ht => ⟨th μ t, ht, MS_th h, Fq_m Fm_th, th_0⟩
  unfold s_bid
  rcases (show aE σ = 0 ∨ aE σ = 1 by omega) with e0 | e0
  · rw [if_pos e0]
    rw [e0] at he
    refine fail 1 ?_
    have hc : c2 0 (aN σ 0) (aN σ 1) x y = 1 := rfl
    refine ev_tri hok (okM_X11_bid 0) (Nat.le_of_ble_eq_true rfl) 400 ?_
    rw [at_X11_bid_0]
    repeat' (first
      | (with_reducible refine ev_rid ?_; simp (disch := first | omega | assumption) only [ev_run_c, ev_run_n, ev_fj, ev_stp, ev_lk, ev_fv, ev_as, ev_sz, ev_st1, ev_st2, ev_rm, ev_pk, ev_Jof, ev_go, lv_args, List.map_cons, List.map_nil, List.zip_cons_cons, List.zip_nil_left, List.zip_nil_right, List.nil_append, List.cons_append, ↓reduceIte, reduceCtorEq, Int.reduceToNat, Nat.reduceEqDiff, Nat.reduceAdd, Nat.reduceLT, Nat.reduceLeDiff, Nat.reduceMul, Nat.reduceSub, Value.category, false_implies, true_and, and_true, Bool.false_eq_true, Option.some.injEq, exists_eq_left', Option.toList_some, Option.toList_none, ev_km, ev_k2, ev_k3, ev_k4, ev_k5, ev_l0, ev_l1, sh_1, sh_2, sh_3, sh_4, sh_5, at_X11_bid_41, at_X11_bid_42, at_X11_bid_50, ca_X11_121, ca_X11_140, ca_X11_149, ca_X11_404, ca_X11_43, ca_X11_454, ca_X11_72, cd_X11_bid_0, cd_X11_bid_41, cd_X11_bid_42, cd_X11_bid_50, fl_X11_47, ev_b_13, no_0, no_1, no_lt, no_le, no_eq, no_lt0, no_ge0, no_gt0, no_le0, no_eq0, no_0eq, no_eqm, no_meq, no_m0, no_mlt, no_mge, no_mgt, no_mm, no_i01, no_i10, no_in, no_or, no_ifm, no_mul, nI_add, no_sub, pk_div, iI_if, nI_clamp, oI_n, oI_s, not_true_eq_false, not_false_eq_true, forall_const, true_implies, false_and, and_false, or_false, false_or, Classical.not_not, true_or, or_true, no_b, no_eq1, eq_self, and_self, sk_301, sk_302, sl_302, sp_301, he, hc, thc_1])
      | (with_reducible refine ev_gid ?_; simp (disch := first | omega | assumption) only [ev_run_c, ev_run_n, ev_fj, ev_stp, ev_lk, ev_fv, ev_as, ev_sz, ev_st1, ev_st2, ev_rm, ev_pk, ev_Jof, ev_go, lv_args, List.map_cons, List.map_nil, List.zip_cons_cons, List.zip_nil_left, List.zip_nil_right, List.nil_append, List.cons_append, ↓reduceIte, reduceCtorEq, Int.reduceToNat, Nat.reduceEqDiff, Nat.reduceAdd, Nat.reduceLT, Nat.reduceLeDiff, Nat.reduceMul, Nat.reduceSub, Value.category, false_implies, true_and, and_true, Bool.false_eq_true, Option.some.injEq, exists_eq_left', Option.toList_some, Option.toList_none, ev_km, ev_k2, ev_k3, ev_k4, ev_k5, ev_l0, ev_l1, sh_1, sh_2, sh_3, sh_4, sh_5, at_X11_bid_41, at_X11_bid_42, at_X11_bid_50, ca_X11_121, ca_X11_140, ca_X11_149, ca_X11_404, ca_X11_43, ca_X11_454, ca_X11_72, cd_X11_bid_0, cd_X11_bid_41, cd_X11_bid_42, cd_X11_bid_50, fl_X11_47, ev_b_13, no_0, no_1, no_lt, no_le, no_eq, no_lt0, no_ge0, no_gt0, no_le0, no_eq0, no_0eq, no_eqm, no_meq, no_m0, no_mlt, no_mge, no_mgt, no_mm, no_i01, no_i10, no_in, no_or, no_ifm, no_mul, nI_add, no_sub, pk_div, iI_if, nI_clamp, oI_n, oI_s, not_true_eq_false, not_false_eq_true, forall_const, true_implies, false_and, and_false, or_false, false_or, Classical.not_not, true_or, or_true, no_b, no_eq1, eq_self, and_self, sk_301, sk_302, sl_302, sp_301, he, hc, thc_1])
      | (with_reducible refine And.intro (fun q => ?_) (fun q => ?_) <;> (try simp (disch := first | omega | assumption) only [no_0, no_1, no_lt, no_le, no_eq, no_lt0, no_ge0, no_gt0, no_le0, no_eq0, no_0eq, no_eqm, no_meq, no_m0, no_mlt, no_mge, no_mgt, no_mm, no_i01, no_i10, no_in, no_or, no_ifm, no_mul, nI_add, no_sub, pk_div, iI_if, nI_clamp, oI_n, oI_s, not_true_eq_false, not_false_eq_true, forall_const, true_implies, false_and, and_false, or_false, false_or, Classical.not_not, true_or, or_true, no_b, no_eq1, eq_self, and_self, sk_301, sk_302, sl_302, sp_301, he, hc, thc_1] at q))
      | with_reducible refine ev_ci (m_X11_areBoth hok (by first | with_reducible assumption | exact th_R (by with_reducible assumption) | exact mw_R | exact ms_R) (by with_reducible assumption) ?_ ?_ _ _) ?_
      | with_reducible refine ev_ci (m_X11_isTasting hok (by first | with_reducible assumption | exact th_R (by with_reducible assumption) | exact mw_R | exact ms_R) ?_ ?_) ?_
      | with_reducible refine ev_ci (m_X11_inI hok _ _ _) ?_
      | with_reducible refine ev_ci (m_X11_in hok _ _ _ ?_ ?_ ?_) ?_
      | with_reducible refine ev_ci (m_X11_may hok _ _ _ ?_ ?_ ?_) ?_
      | with_reducible refine ev_ci (by with_reducible assumption) ?_
      | with_reducible refine ev_ci (m_X11_of hok (by first | with_reducible assumption | exact th_R (by with_reducible assumption) | exact mw_R | exact ms_R) ?_ ?_) ?_
      | with_reducible refine ev_ci (m_X11_puts hok (by first | assumption | exact mw_R) ?_ ?_) ?_
      | omega
      | with_reducible assumption
      | with_reducible rfl
      | with_reducible refine lp_nx ?_ ?_ ?_ ?_
      | with_reducible refine lp_st ?_ ?_ ?_
      | with_reducible refine ls_c ?_ ?_
      | with_reducible refine vi_c ?_
      | with_reducible refine re_c ?_
      | with_reducible refine vz_c ?_
      | with_reducible refine rz_c ?_
      | exact trivial
      | with_reducible refine And.intro ?_ ?_
      | simp (disch := first | omega | assumption) only [ev_run_c, ev_run_n, ev_fj, ev_stp, ev_lk, ev_fv, ev_as, ev_sz, ev_st1, ev_st2, ev_rm, ev_pk, ev_Jof, ev_go, lv_args, List.map_cons, List.map_nil, List.zip_cons_cons, List.zip_nil_left, List.zip_nil_right, List.nil_append, List.cons_append, ↓reduceIte, reduceCtorEq, Int.reduceToNat, Nat.reduceEqDiff, Nat.reduceAdd, Nat.reduceLT, Nat.reduceLeDiff, Nat.reduceMul, Nat.reduceSub, Value.category, false_implies, true_and, and_true, Bool.false_eq_true, Option.some.injEq, exists_eq_left', Option.toList_some, Option.toList_none, ev_km, ev_k2, ev_k3, ev_k4, ev_k5, ev_l0, ev_l1, sh_1, sh_2, sh_3, sh_4, sh_5, at_X11_bid_41, at_X11_bid_42, at_X11_bid_50, ca_X11_121, ca_X11_140, ca_X11_149, ca_X11_404, ca_X11_43, ca_X11_454, ca_X11_72, cd_X11_bid_0, cd_X11_bid_41, cd_X11_bid_42, cd_X11_bid_50, fl_X11_47, ev_b_13, no_0, no_1, no_lt, no_le, no_eq, no_lt0, no_ge0, no_gt0, no_le0, no_eq0, no_0eq, no_eqm, no_meq, no_m0, no_mlt, no_mge, no_mgt, no_mm, no_i01, no_i10, no_in, no_or, no_ifm, no_mul, nI_add, no_sub, pk_div, iI_if, nI_clamp, oI_n, oI_s, not_true_eq_false, not_false_eq_true, forall_const, true_implies, false_and, and_false, or_false, false_or, Classical.not_not, true_or, or_true, no_b, no_eq1, eq_self, and_self, sk_301, sk_302, sl_302, sp_301, he, hc, thc_1]
      | (split <;> omega))
  · rw [if_neg (by omega)]
    rw [e0] at he
    cases hx : rx (aN σ 0) x with
    | none =>
      refine fail 2 ?_
      have hc : c2 1 (aN σ 0) (aN σ 1) x y = 2 := c2_n hx
      refine ev_tri hok (okM_X11_bid 0) (Nat.le_of_ble_eq_true rfl) 400 ?_
      rw [at_X11_bid_0]
      repeat' (first
        | (with_reducible refine ev_rid ?_; simp (disch := first | omega | assumption) only [ev_run_c, ev_run_n, ev_fj, ev_stp, ev_lk, ev_fv, ev_as, ev_sz, ev_st1, ev_st2, ev_rm, ev_pk, ev_Jof, ev_go, lv_args, List.map_cons, List.map_nil, List.zip_cons_cons, List.zip_nil_left, List.zip_nil_right, List.nil_append, List.cons_append, ↓reduceIte, reduceCtorEq, Int.reduceToNat, Nat.reduceEqDiff, Nat.reduceAdd, Nat.reduceLT, Nat.reduceLeDiff, Nat.reduceMul, Nat.reduceSub, Value.category, false_implies, true_and, and_true, Bool.false_eq_true, Option.some.injEq, exists_eq_left', Option.toList_some, Option.toList_none, ev_km, ev_k2, ev_k3, ev_k4, ev_k5, ev_l0, ev_l1, sh_1, sh_2, sh_3, sh_4, sh_5, at_X11_bid_41, at_X11_bid_42, at_X11_bid_50, ca_X11_121, ca_X11_140, ca_X11_149, ca_X11_404, ca_X11_43, ca_X11_454, ca_X11_72, cd_X11_bid_0, cd_X11_bid_41, cd_X11_bid_42, cd_X11_bid_50, fl_X11_47, ev_b_13, no_0, no_1, no_lt, no_le, no_eq, no_lt0, no_ge0, no_gt0, no_le0, no_eq0, no_0eq, no_eqm, no_meq, no_m0, no_mlt, no_mge, no_mgt, no_mm, no_i01, no_i10, no_in, no_or, no_ifm, no_mul, nI_add, no_sub, pk_div, iI_if, nI_clamp, oI_n, oI_s, not_true_eq_false, not_false_eq_true, forall_const, true_implies, false_and, and_false, or_false, false_or, Classical.not_not, true_or, or_true, no_b, no_eq1, eq_self, and_self, sk_301, sk_302, sl_302, sp_301, he, hc, thc_2])
        | (with_reducible refine ev_gid ?_; simp (disch := first | omega | assumption) only [ev_run_c, ev_run_n, ev_fj, ev_stp, ev_lk, ev_fv, ev_as, ev_sz, ev_st1, ev_st2, ev_rm, ev_pk, ev_Jof, ev_go, lv_args, List.map_cons, List.map_nil, List.zip_cons_cons, List.zip_nil_left, List.zip_nil_right, List.nil_append, List.cons_append, ↓reduceIte, reduceCtorEq, Int.reduceToNat, Nat.reduceEqDiff, Nat.reduceAdd, Nat.reduceLT, Nat.reduceLeDiff, Nat.reduceMul, Nat.reduceSub, Value.category, false_implies, true_and, and_true, Bool.false_eq_true, Option.some.injEq, exists_eq_left', Option.toList_some, Option.toList_none, ev_km, ev_k2, ev_k3, ev_k4, ev_k5, ev_l0, ev_l1, sh_1, sh_2, sh_3, sh_4, sh_5, at_X11_bid_41, at_X11_bid_42, at_X11_bid_50, ca_X11_121, ca_X11_140, ca_X11_149, ca_X11_404, ca_X11_43, ca_X11_454, ca_X11_72, cd_X11_bid_0, cd_X11_bid_41, cd_X11_bid_42, cd_X11_bid_50, fl_X11_47, ev_b_13, no_0, no_1, no_lt, no_le, no_eq, no_lt0, no_ge0, no_gt0, no_le0, no_eq0, no_0eq, no_eqm, no_meq, no_m0, no_mlt, no_mge, no_mgt, no_mm, no_i01, no_i10, no_in, no_or, no_ifm, no_mul, nI_add, no_sub, pk_div, iI_if, nI_clamp, oI_n, oI_s, not_true_eq_false, not_false_eq_true, forall_const, true_implies, false_and, and_false, or_false, false_or, Classical.not_not, true_or, or_true, no_b, no_eq1, eq_self, and_self, sk_301, sk_302, sl_302, sp_301, he, hc, thc_2])
        | (with_reducible refine And.intro (fun q => ?_) (fun q => ?_) <;> (try simp (disch := first | omega | assumption) only [no_0, no_1, no_lt, no_le, no_eq, no_lt0, no_ge0, no_gt0, no_le0, no_eq0, no_0eq, no_eqm, no_meq, no_m0, no_mlt, no_mge, no_mgt, no_mm, no_i01, no_i10, no_in, no_or, no_ifm, no_mul, nI_add, no_sub, pk_div, iI_if, nI_clamp, oI_n, oI_s, not_true_eq_false, not_false_eq_true, forall_const, true_implies, false_and, and_false, or_false, false_or, Classical.not_not, true_or, or_true, no_b, no_eq1, eq_self, and_self, sk_301, sk_302, sl_302, sp_301, he, hc, thc_2] at q))
        | with_reducible refine ev_ci (m_X11_areBoth hok (by first | with_reducible assumption | exact th_R (by with_reducible assumption) | exact mw_R | exact ms_R) (by with_reducible assumption) ?_ ?_ _ _) ?_
        | with_reducible refine ev_ci (m_X11_isTasting hok (by first | with_reducible assumption | exact th_R (by with_reducible assumption) | exact mw_R | exact ms_R) ?_ ?_) ?_
        | with_reducible refine ev_ci (m_X11_inI hok _ _ _) ?_
        | with_reducible refine ev_ci (m_X11_in hok _ _ _ ?_ ?_ ?_) ?_
        | with_reducible refine ev_ci (m_X11_may hok _ _ _ ?_ ?_ ?_) ?_
        | with_reducible refine ev_ci (by with_reducible assumption) ?_
        | with_reducible refine ev_ci (m_X11_of hok (by first | with_reducible assumption | exact th_R (by with_reducible assumption) | exact mw_R | exact ms_R) ?_ ?_) ?_
        | with_reducible refine ev_ci (m_X11_puts hok (by first | assumption | exact mw_R) ?_ ?_) ?_
        | omega
        | with_reducible assumption
        | with_reducible rfl
        | with_reducible refine lp_nx ?_ ?_ ?_ ?_
        | with_reducible refine lp_st ?_ ?_ ?_
        | with_reducible refine ls_c ?_ ?_
        | with_reducible refine vi_c ?_
        | with_reducible refine re_c ?_
        | with_reducible refine vz_c ?_
        | with_reducible refine rz_c ?_
        | exact trivial
        | with_reducible refine And.intro ?_ ?_
        | simp (disch := first | omega | assumption) only [ev_run_c, ev_run_n, ev_fj, ev_stp, ev_lk, ev_fv, ev_as, ev_sz, ev_st1, ev_st2, ev_rm, ev_pk, ev_Jof, ev_go, lv_args, List.map_cons, List.map_nil, List.zip_cons_cons, List.zip_nil_left, List.zip_nil_right, List.nil_append, List.cons_append, ↓reduceIte, reduceCtorEq, Int.reduceToNat, Nat.reduceEqDiff, Nat.reduceAdd, Nat.reduceLT, Nat.reduceLeDiff, Nat.reduceMul, Nat.reduceSub, Value.category, false_implies, true_and, and_true, Bool.false_eq_true, Option.some.injEq, exists_eq_left', Option.toList_some, Option.toList_none, ev_km, ev_k2, ev_k3, ev_k4, ev_k5, ev_l0, ev_l1, sh_1, sh_2, sh_3, sh_4, sh_5, at_X11_bid_41, at_X11_bid_42, at_X11_bid_50, ca_X11_121, ca_X11_140, ca_X11_149, ca_X11_404, ca_X11_43, ca_X11_454, ca_X11_72, cd_X11_bid_0, cd_X11_bid_41, cd_X11_bid_42, cd_X11_bid_50, fl_X11_47, ev_b_13, no_0, no_1, no_lt, no_le, no_eq, no_lt0, no_ge0, no_gt0, no_le0, no_eq0, no_0eq, no_eqm, no_meq, no_m0, no_mlt, no_mge, no_mgt, no_mm, no_i01, no_i10, no_in, no_or, no_ifm, no_mul, nI_add, no_sub, pk_div, iI_if, nI_clamp, oI_n, oI_s, not_true_eq_false, not_false_eq_true, forall_const, true_implies, false_and, and_false, or_false, false_or, Classical.not_not, true_or, or_true, no_b, no_eq1, eq_self, and_self, sk_301, sk_302, sl_302, sp_301, he, hc, thc_2]
        | (split <;> omega))
    | some i =>
      cases hy : rx (aN σ 1) y with
      | none =>
        refine fail 2 ?_
        have hc : c2 1 (aN σ 0) (aN σ 1) x y = 2 := c2_m hx hy
        refine ev_tri hok (okM_X11_bid 0) (Nat.le_of_ble_eq_true rfl) 400 ?_
        rw [at_X11_bid_0]
        repeat' (first
          | (with_reducible refine ev_rid ?_; simp (disch := first | omega | assumption) only [ev_run_c, ev_run_n, ev_fj, ev_stp, ev_lk, ev_fv, ev_as, ev_sz, ev_st1, ev_st2, ev_rm, ev_pk, ev_Jof, ev_go, lv_args, List.map_cons, List.map_nil, List.zip_cons_cons, List.zip_nil_left, List.zip_nil_right, List.nil_append, List.cons_append, ↓reduceIte, reduceCtorEq, Int.reduceToNat, Nat.reduceEqDiff, Nat.reduceAdd, Nat.reduceLT, Nat.reduceLeDiff, Nat.reduceMul, Nat.reduceSub, Value.category, false_implies, true_and, and_true, Bool.false_eq_true, Option.some.injEq, exists_eq_left', Option.toList_some, Option.toList_none, ev_km, ev_k2, ev_k3, ev_k4, ev_k5, ev_l0, ev_l1, sh_1, sh_2, sh_3, sh_4, sh_5, at_X11_bid_41, at_X11_bid_42, at_X11_bid_50, ca_X11_121, ca_X11_140, ca_X11_149, ca_X11_404, ca_X11_43, ca_X11_454, ca_X11_72, cd_X11_bid_0, cd_X11_bid_41, cd_X11_bid_42, cd_X11_bid_50, fl_X11_47, ev_b_13, no_0, no_1, no_lt, no_le, no_eq, no_lt0, no_ge0, no_gt0, no_le0, no_eq0, no_0eq, no_eqm, no_meq, no_m0, no_mlt, no_mge, no_mgt, no_mm, no_i01, no_i10, no_in, no_or, no_ifm, no_mul, nI_add, no_sub, pk_div, iI_if, nI_clamp, oI_n, oI_s, not_true_eq_false, not_false_eq_true, forall_const, true_implies, false_and, and_false, or_false, false_or, Classical.not_not, true_or, or_true, no_b, no_eq1, eq_self, and_self, sk_301, sk_302, sl_302, sp_301, he, hc, thc_2])
          | (with_reducible refine ev_gid ?_; simp (disch := first | omega | assumption) only [ev_run_c, ev_run_n, ev_fj, ev_stp, ev_lk, ev_fv, ev_as, ev_sz, ev_st1, ev_st2, ev_rm, ev_pk, ev_Jof, ev_go, lv_args, List.map_cons, List.map_nil, List.zip_cons_cons, List.zip_nil_left, List.zip_nil_right, List.nil_append, List.cons_append, ↓reduceIte, reduceCtorEq, Int.reduceToNat, Nat.reduceEqDiff, Nat.reduceAdd, Nat.reduceLT, Nat.reduceLeDiff, Nat.reduceMul, Nat.reduceSub, Value.category, false_implies, true_and, and_true, Bool.false_eq_true, Option.some.injEq, exists_eq_left', Option.toList_some, Option.toList_none, ev_km, ev_k2, ev_k3, ev_k4, ev_k5, ev_l0, ev_l1, sh_1, sh_2, sh_3, sh_4, sh_5, at_X11_bid_41, at_X11_bid_42, at_X11_bid_50, ca_X11_121, ca_X11_140, ca_X11_149, ca_X11_404, ca_X11_43, ca_X11_454, ca_X11_72, cd_X11_bid_0, cd_X11_bid_41, cd_X11_bid_42, cd_X11_bid_50, fl_X11_47, ev_b_13, no_0, no_1, no_lt, no_le, no_eq, no_lt0, no_ge0, no_gt0, no_le0, no_eq0, no_0eq, no_eqm, no_meq, no_m0, no_mlt, no_mge, no_mgt, no_mm, no_i01, no_i10, no_in, no_or, no_ifm, no_mul, nI_add, no_sub, pk_div, iI_if, nI_clamp, oI_n, oI_s, not_true_eq_false, not_false_eq_true, forall_const, true_implies, false_and, and_false, or_false, false_or, Classical.not_not, true_or, or_true, no_b, no_eq1, eq_self, and_self, sk_301, sk_302, sl_302, sp_301, he, hc, thc_2])
          | (with_reducible refine And.intro (fun q => ?_) (fun q => ?_) <;> (try simp (disch := first | omega | assumption) only [no_0, no_1, no_lt, no_le, no_eq, no_lt0, no_ge0, no_gt0, no_le0, no_eq0, no_0eq, no_eqm, no_meq, no_m0, no_mlt, no_mge, no_mgt, no_mm, no_i01, no_i10, no_in, no_or, no_ifm, no_mul, nI_add, no_sub, pk_div, iI_if, nI_clamp, oI_n, oI_s, not_true_eq_false, not_false_eq_true, forall_const, true_implies, false_and, and_false, or_false, false_or, Classical.not_not, true_or, or_true, no_b, no_eq1, eq_self, and_self, sk_301, sk_302, sl_302, sp_301, he, hc, thc_2] at q))
          | with_reducible refine ev_ci (m_X11_areBoth hok (by first | with_reducible assumption | exact th_R (by with_reducible assumption) | exact mw_R | exact ms_R) (by with_reducible assumption) ?_ ?_ _ _) ?_
          | with_reducible refine ev_ci (m_X11_isTasting hok (by first | with_reducible assumption | exact th_R (by with_reducible assumption) | exact mw_R | exact ms_R) ?_ ?_) ?_
          | with_reducible refine ev_ci (m_X11_inI hok _ _ _) ?_
          | with_reducible refine ev_ci (m_X11_in hok _ _ _ ?_ ?_ ?_) ?_
          | with_reducible refine ev_ci (m_X11_may hok _ _ _ ?_ ?_ ?_) ?_
          | with_reducible refine ev_ci (by with_reducible assumption) ?_
          | with_reducible refine ev_ci (m_X11_of hok (by first | with_reducible assumption | exact th_R (by with_reducible assumption) | exact mw_R | exact ms_R) ?_ ?_) ?_
          | with_reducible refine ev_ci (m_X11_puts hok (by first | assumption | exact mw_R) ?_ ?_) ?_
          | omega
          | with_reducible assumption
          | with_reducible rfl
          | with_reducible refine lp_nx ?_ ?_ ?_ ?_
          | with_reducible refine lp_st ?_ ?_ ?_
          | with_reducible refine ls_c ?_ ?_
          | with_reducible refine vi_c ?_
          | with_reducible refine re_c ?_
          | with_reducible refine vz_c ?_
          | with_reducible refine rz_c ?_
          | exact trivial
          | with_reducible refine And.intro ?_ ?_
          | simp (disch := first | omega | assumption) only [ev_run_c, ev_run_n, ev_fj, ev_stp, ev_lk, ev_fv, ev_as, ev_sz, ev_st1, ev_st2, ev_rm, ev_pk, ev_Jof, ev_go, lv_args, List.map_cons, List.map_nil, List.zip_cons_cons, List.zip_nil_left, List.zip_nil_right, List.nil_append, List.cons_append, ↓reduceIte, reduceCtorEq, Int.reduceToNat, Nat.reduceEqDiff, Nat.reduceAdd, Nat.reduceLT, Nat.reduceLeDiff, Nat.reduceMul, Nat.reduceSub, Value.category, false_implies, true_and, and_true, Bool.false_eq_true, Option.some.injEq, exists_eq_left', Option.toList_some, Option.toList_none, ev_km, ev_k2, ev_k3, ev_k4, ev_k5, ev_l0, ev_l1, sh_1, sh_2, sh_3, sh_4, sh_5, at_X11_bid_41, at_X11_bid_42, at_X11_bid_50, ca_X11_121, ca_X11_140, ca_X11_149, ca_X11_404, ca_X11_43, ca_X11_454, ca_X11_72, cd_X11_bid_0, cd_X11_bid_41, cd_X11_bid_42, cd_X11_bid_50, fl_X11_47, ev_b_13, no_0, no_1, no_lt, no_le, no_eq, no_lt0, no_ge0, no_gt0, no_le0, no_eq0, no_0eq, no_eqm, no_meq, no_m0, no_mlt, no_mge, no_mgt, no_mm, no_i01, no_i10, no_in, no_or, no_ifm, no_mul, nI_add, no_sub, pk_div, iI_if, nI_clamp, oI_n, oI_s, not_true_eq_false, not_false_eq_true, forall_const, true_implies, false_and, and_false, or_false, false_or, Classical.not_not, true_or, or_true, no_b, no_eq1, eq_self, and_self, sk_301, sk_302, sl_302, sp_301, he, hc, thc_2]
          | (split <;> omega))
      | some j =>
        have hc : c2 1 (aN σ 0) (aN σ 1) x y = 0 := c2_s hx hy
        obtain ⟨hi, rfl⟩ := rx_s (by omega) hx
        obtain ⟨hj, rfl⟩ := rx_s (by omega) hy
        have hp := iv_p hI i (by omega)
        dsimp only
        by_cases hl : aN σ (8 + 59 * i + 1) = 0
        · rw [if_pos hl]
          refine fail 3 ?_
          refine ev_tri hok (okM_X11_bid 0) (Nat.le_of_ble_eq_true rfl) 400 ?_
          rw [at_X11_bid_0]
          repeat' (first
            | (with_reducible refine ev_rid ?_; simp (disch := first | omega | assumption) only [ev_run_c, ev_run_n, ev_fj, ev_stp, ev_lk, ev_fv, ev_as, ev_sz, ev_st1, ev_st2, ev_rm, ev_pk, ev_Jof, ev_go, lv_args, List.map_cons, List.map_nil, List.zip_cons_cons, List.zip_nil_left, List.zip_nil_right, List.nil_append, List.cons_append, ↓reduceIte, reduceCtorEq, Int.reduceToNat, Nat.reduceEqDiff, Nat.reduceAdd, Nat.reduceLT, Nat.reduceLeDiff, Nat.reduceMul, Nat.reduceSub, Value.category, false_implies, true_and, and_true, Bool.false_eq_true, Option.some.injEq, exists_eq_left', Option.toList_some, Option.toList_none, ev_km, ev_k2, ev_k3, ev_k4, ev_k5, ev_l0, ev_l1, sh_1, sh_2, sh_3, sh_4, sh_5, at_X11_bid_41, at_X11_bid_42, at_X11_bid_50, ca_X11_121, ca_X11_140, ca_X11_149, ca_X11_404, ca_X11_43, ca_X11_454, ca_X11_72, cd_X11_bid_0, cd_X11_bid_41, cd_X11_bid_42, cd_X11_bid_50, fl_X11_47, ev_b_13, no_0, no_1, no_lt, no_le, no_eq, no_lt0, no_ge0, no_gt0, no_le0, no_eq0, no_0eq, no_eqm, no_meq, no_m0, no_mlt, no_mge, no_mgt, no_mm, no_i01, no_i10, no_in, no_or, no_ifm, no_mul, nI_add, no_sub, pk_div, iI_if, nI_clamp, oI_n, oI_s, not_true_eq_false, not_false_eq_true, forall_const, true_implies, false_and, and_false, or_false, false_or, Classical.not_not, true_or, or_true, no_b, no_eq1, eq_self, and_self, sk_301, sk_302, sl_302, sp_301, he, hc, thc_3, hl])
            | (with_reducible refine ev_gid ?_; simp (disch := first | omega | assumption) only [ev_run_c, ev_run_n, ev_fj, ev_stp, ev_lk, ev_fv, ev_as, ev_sz, ev_st1, ev_st2, ev_rm, ev_pk, ev_Jof, ev_go, lv_args, List.map_cons, List.map_nil, List.zip_cons_cons, List.zip_nil_left, List.zip_nil_right, List.nil_append, List.cons_append, ↓reduceIte, reduceCtorEq, Int.reduceToNat, Nat.reduceEqDiff, Nat.reduceAdd, Nat.reduceLT, Nat.reduceLeDiff, Nat.reduceMul, Nat.reduceSub, Value.category, false_implies, true_and, and_true, Bool.false_eq_true, Option.some.injEq, exists_eq_left', Option.toList_some, Option.toList_none, ev_km, ev_k2, ev_k3, ev_k4, ev_k5, ev_l0, ev_l1, sh_1, sh_2, sh_3, sh_4, sh_5, at_X11_bid_41, at_X11_bid_42, at_X11_bid_50, ca_X11_121, ca_X11_140, ca_X11_149, ca_X11_404, ca_X11_43, ca_X11_454, ca_X11_72, cd_X11_bid_0, cd_X11_bid_41, cd_X11_bid_42, cd_X11_bid_50, fl_X11_47, ev_b_13, no_0, no_1, no_lt, no_le, no_eq, no_lt0, no_ge0, no_gt0, no_le0, no_eq0, no_0eq, no_eqm, no_meq, no_m0, no_mlt, no_mge, no_mgt, no_mm, no_i01, no_i10, no_in, no_or, no_ifm, no_mul, nI_add, no_sub, pk_div, iI_if, nI_clamp, oI_n, oI_s, not_true_eq_false, not_false_eq_true, forall_const, true_implies, false_and, and_false, or_false, false_or, Classical.not_not, true_or, or_true, no_b, no_eq1, eq_self, and_self, sk_301, sk_302, sl_302, sp_301, he, hc, thc_3, hl])
            | (with_reducible refine And.intro (fun q => ?_) (fun q => ?_) <;> (try simp (disch := first | omega | assumption) only [no_0, no_1, no_lt, no_le, no_eq, no_lt0, no_ge0, no_gt0, no_le0, no_eq0, no_0eq, no_eqm, no_meq, no_m0, no_mlt, no_mge, no_mgt, no_mm, no_i01, no_i10, no_in, no_or, no_ifm, no_mul, nI_add, no_sub, pk_div, iI_if, nI_clamp, oI_n, oI_s, not_true_eq_false, not_false_eq_true, forall_const, true_implies, false_and, and_false, or_false, false_or, Classical.not_not, true_or, or_true, no_b, no_eq1, eq_self, and_self, sk_301, sk_302, sl_302, sp_301, he, hc, thc_3, hl] at q))
            | with_reducible refine ev_ci (m_X11_areBoth hok (by first | with_reducible assumption | exact th_R (by with_reducible assumption) | exact mw_R | exact ms_R) (by with_reducible assumption) ?_ ?_ _ _) ?_
            | with_reducible refine ev_ci (m_X11_isTasting hok (by first | with_reducible assumption | exact th_R (by with_reducible assumption) | exact mw_R | exact ms_R) ?_ ?_) ?_
            | with_reducible refine ev_ci (m_X11_inI hok _ _ _) ?_
            | with_reducible refine ev_ci (m_X11_in hok _ _ _ ?_ ?_ ?_) ?_
            | with_reducible refine ev_ci (m_X11_may hok _ _ _ ?_ ?_ ?_) ?_
            | with_reducible refine ev_ci (by with_reducible assumption) ?_
            | with_reducible refine ev_ci (m_X11_of hok (by first | with_reducible assumption | exact th_R (by with_reducible assumption) | exact mw_R | exact ms_R) ?_ ?_) ?_
            | with_reducible refine ev_ci (m_X11_puts hok (by first | assumption | exact mw_R) ?_ ?_) ?_
            | omega
            | with_reducible assumption
            | with_reducible rfl
            | with_reducible refine lp_nx ?_ ?_ ?_ ?_
            | with_reducible refine lp_st ?_ ?_ ?_
            | with_reducible refine ls_c ?_ ?_
            | with_reducible refine vi_c ?_
            | with_reducible refine re_c ?_
            | with_reducible refine vz_c ?_
            | with_reducible refine rz_c ?_
            | exact trivial
            | with_reducible refine And.intro ?_ ?_
            | simp (disch := first | omega | assumption) only [ev_run_c, ev_run_n, ev_fj, ev_stp, ev_lk, ev_fv, ev_as, ev_sz, ev_st1, ev_st2, ev_rm, ev_pk, ev_Jof, ev_go, lv_args, List.map_cons, List.map_nil, List.zip_cons_cons, List.zip_nil_left, List.zip_nil_right, List.nil_append, List.cons_append, ↓reduceIte, reduceCtorEq, Int.reduceToNat, Nat.reduceEqDiff, Nat.reduceAdd, Nat.reduceLT, Nat.reduceLeDiff, Nat.reduceMul, Nat.reduceSub, Value.category, false_implies, true_and, and_true, Bool.false_eq_true, Option.some.injEq, exists_eq_left', Option.toList_some, Option.toList_none, ev_km, ev_k2, ev_k3, ev_k4, ev_k5, ev_l0, ev_l1, sh_1, sh_2, sh_3, sh_4, sh_5, at_X11_bid_41, at_X11_bid_42, at_X11_bid_50, ca_X11_121, ca_X11_140, ca_X11_149, ca_X11_404, ca_X11_43, ca_X11_454, ca_X11_72, cd_X11_bid_0, cd_X11_bid_41, cd_X11_bid_42, cd_X11_bid_50, fl_X11_47, ev_b_13, no_0, no_1, no_lt, no_le, no_eq, no_lt0, no_ge0, no_gt0, no_le0, no_eq0, no_0eq, no_eqm, no_meq, no_m0, no_mlt, no_mge, no_mgt, no_mm, no_i01, no_i10, no_in, no_or, no_ifm, no_mul, nI_add, no_sub, pk_div, iI_if, nI_clamp, oI_n, oI_s, not_true_eq_false, not_false_eq_true, forall_const, true_implies, false_and, and_false, or_false, false_or, Classical.not_not, true_or, or_true, no_b, no_eq1, eq_self, and_self, sk_301, sk_302, sl_302, sp_301, he, hc, thc_3, hl]
            | (split <;> omega))
        · rw [if_neg hl]
          cases hz : rx 4 z with
          | none =>
            refine fail 3 ?_
            have e2 := rx_n (by omega) hz
            refine ev_tri hok (okM_X11_bid 0) (Nat.le_of_ble_eq_true rfl) 400 ?_
            rw [at_X11_bid_0]
            repeat' (first
              | (with_reducible refine ev_rid ?_; simp (disch := first | omega | assumption) only [ev_run_c, ev_run_n, ev_fj, ev_stp, ev_lk, ev_fv, ev_as, ev_sz, ev_st1, ev_st2, ev_rm, ev_pk, ev_Jof, ev_go, lv_args, List.map_cons, List.map_nil, List.zip_cons_cons, List.zip_nil_left, List.zip_nil_right, List.nil_append, List.cons_append, ↓reduceIte, reduceCtorEq, Int.reduceToNat, Nat.reduceEqDiff, Nat.reduceAdd, Nat.reduceLT, Nat.reduceLeDiff, Nat.reduceMul, Nat.reduceSub, Value.category, false_implies, true_and, and_true, Bool.false_eq_true, Option.some.injEq, exists_eq_left', Option.toList_some, Option.toList_none, ev_km, ev_k2, ev_k3, ev_k4, ev_k5, ev_l0, ev_l1, sh_1, sh_2, sh_3, sh_4, sh_5, at_X11_bid_41, at_X11_bid_42, at_X11_bid_50, ca_X11_121, ca_X11_140, ca_X11_149, ca_X11_404, ca_X11_43, ca_X11_454, ca_X11_72, cd_X11_bid_0, cd_X11_bid_41, cd_X11_bid_42, cd_X11_bid_50, fl_X11_47, ev_b_13, no_0, no_1, no_lt, no_le, no_eq, no_lt0, no_ge0, no_gt0, no_le0, no_eq0, no_0eq, no_eqm, no_meq, no_m0, no_mlt, no_mge, no_mgt, no_mm, no_i01, no_i10, no_in, no_or, no_ifm, no_mul, nI_add, no_sub, pk_div, iI_if, nI_clamp, oI_n, oI_s, not_true_eq_false, not_false_eq_true, forall_const, true_implies, false_and, and_false, or_false, false_or, Classical.not_not, true_or, or_true, no_b, no_eq1, eq_self, and_self, sk_301, sk_302, sl_302, sp_301, he, hc, thc_3, hl, d3, e2])
              | (with_reducible refine ev_gid ?_; simp (disch := first | omega | assumption) only [ev_run_c, ev_run_n, ev_fj, ev_stp, ev_lk, ev_fv, ev_as, ev_sz, ev_st1, ev_st2, ev_rm, ev_pk, ev_Jof, ev_go, lv_args, List.map_cons, List.map_nil, List.zip_cons_cons, List.zip_nil_left, List.zip_nil_right, List.nil_append, List.cons_append, ↓reduceIte, reduceCtorEq, Int.reduceToNat, Nat.reduceEqDiff, Nat.reduceAdd, Nat.reduceLT, Nat.reduceLeDiff, Nat.reduceMul, Nat.reduceSub, Value.category, false_implies, true_and, and_true, Bool.false_eq_true, Option.some.injEq, exists_eq_left', Option.toList_some, Option.toList_none, ev_km, ev_k2, ev_k3, ev_k4, ev_k5, ev_l0, ev_l1, sh_1, sh_2, sh_3, sh_4, sh_5, at_X11_bid_41, at_X11_bid_42, at_X11_bid_50, ca_X11_121, ca_X11_140, ca_X11_149, ca_X11_404, ca_X11_43, ca_X11_454, ca_X11_72, cd_X11_bid_0, cd_X11_bid_41, cd_X11_bid_42, cd_X11_bid_50, fl_X11_47, ev_b_13, no_0, no_1, no_lt, no_le, no_eq, no_lt0, no_ge0, no_gt0, no_le0, no_eq0, no_0eq, no_eqm, no_meq, no_m0, no_mlt, no_mge, no_mgt, no_mm, no_i01, no_i10, no_in, no_or, no_ifm, no_mul, nI_add, no_sub, pk_div, iI_if, nI_clamp, oI_n, oI_s, not_true_eq_false, not_false_eq_true, forall_const, true_implies, false_and, and_false, or_false, false_or, Classical.not_not, true_or, or_true, no_b, no_eq1, eq_self, and_self, sk_301, sk_302, sl_302, sp_301, he, hc, thc_3, hl, d3, e2])
              | (with_reducible refine And.intro (fun q => ?_) (fun q => ?_) <;> (try simp (disch := first | omega | assumption) only [no_0, no_1, no_lt, no_le, no_eq, no_lt0, no_ge0, no_gt0, no_le0, no_eq0, no_0eq, no_eqm, no_meq, no_m0, no_mlt, no_mge, no_mgt, no_mm, no_i01, no_i10, no_in, no_or, no_ifm, no_mul, nI_add, no_sub, pk_div, iI_if, nI_clamp, oI_n, oI_s, not_true_eq_false, not_false_eq_true, forall_const, true_implies, false_and, and_false, or_false, false_or, Classical.not_not, true_or, or_true, no_b, no_eq1, eq_self, and_self, sk_301, sk_302, sl_302, sp_301, he, hc, thc_3, hl, d3, e2] at q))
              | with_reducible refine ev_ci (m_X11_areBoth hok (by first | with_reducible assumption | exact th_R (by with_reducible assumption) | exact mw_R | exact ms_R) (by with_reducible assumption) ?_ ?_ _ _) ?_
              | with_reducible refine ev_ci (m_X11_isTasting hok (by first | with_reducible assumption | exact th_R (by with_reducible assumption) | exact mw_R | exact ms_R) ?_ ?_) ?_
              | with_reducible refine ev_ci (m_X11_inI hok _ _ _) ?_
              | with_reducible refine ev_ci (m_X11_in hok _ _ _ ?_ ?_ ?_) ?_
              | with_reducible refine ev_ci (m_X11_may hok _ _ _ ?_ ?_ ?_) ?_
              | with_reducible refine ev_ci (by with_reducible assumption) ?_
              | with_reducible refine ev_ci (m_X11_of hok (by first | with_reducible assumption | exact th_R (by with_reducible assumption) | exact mw_R | exact ms_R) ?_ ?_) ?_
              | with_reducible refine ev_ci (m_X11_puts hok (by first | assumption | exact mw_R) ?_ ?_) ?_
              | omega
              | with_reducible assumption
              | with_reducible rfl
              | with_reducible refine lp_nx ?_ ?_ ?_ ?_
              | with_reducible refine lp_st ?_ ?_ ?_
              | with_reducible refine ls_c ?_ ?_
              | with_reducible refine vi_c ?_
              | with_reducible refine re_c ?_
              | with_reducible refine vz_c ?_
              | with_reducible refine rz_c ?_
              | exact trivial
              | with_reducible refine And.intro ?_ ?_
              | simp (disch := first | omega | assumption) only [ev_run_c, ev_run_n, ev_fj, ev_stp, ev_lk, ev_fv, ev_as, ev_sz, ev_st1, ev_st2, ev_rm, ev_pk, ev_Jof, ev_go, lv_args, List.map_cons, List.map_nil, List.zip_cons_cons, List.zip_nil_left, List.zip_nil_right, List.nil_append, List.cons_append, ↓reduceIte, reduceCtorEq, Int.reduceToNat, Nat.reduceEqDiff, Nat.reduceAdd, Nat.reduceLT, Nat.reduceLeDiff, Nat.reduceMul, Nat.reduceSub, Value.category, false_implies, true_and, and_true, Bool.false_eq_true, Option.some.injEq, exists_eq_left', Option.toList_some, Option.toList_none, ev_km, ev_k2, ev_k3, ev_k4, ev_k5, ev_l0, ev_l1, sh_1, sh_2, sh_3, sh_4, sh_5, at_X11_bid_41, at_X11_bid_42, at_X11_bid_50, ca_X11_121, ca_X11_140, ca_X11_149, ca_X11_404, ca_X11_43, ca_X11_454, ca_X11_72, cd_X11_bid_0, cd_X11_bid_41, cd_X11_bid_42, cd_X11_bid_50, fl_X11_47, ev_b_13, no_0, no_1, no_lt, no_le, no_eq, no_lt0, no_ge0, no_gt0, no_le0, no_eq0, no_0eq, no_eqm, no_meq, no_m0, no_mlt, no_mge, no_mgt, no_mm, no_i01, no_i10, no_in, no_or, no_ifm, no_mul, nI_add, no_sub, pk_div, iI_if, nI_clamp, oI_n, oI_s, not_true_eq_false, not_false_eq_true, forall_const, true_implies, false_and, and_false, or_false, false_or, Classical.not_not, true_or, or_true, no_b, no_eq1, eq_self, and_self, sk_301, sk_302, sl_302, sp_301, he, hc, thc_3, hl, d3, e2]
              | (split <;> omega))
          | some b =>
            obtain ⟨hb, rfl⟩ := rx_s (by omega) hz
            have e2 := rx_y (n := 4) (by omega) hb
            refine ⟨mw μ1 (up (aN σ) (8 + 59 * i + (13 + j)) b), ?_, MS_m hM1 Fm_mw mw_R, Fq_tr (Fq_m Fm_th) (Fq_tr hq1 (Fq_m Fm_mw)), ?_⟩
            · refine ev_tri hok (okM_X11_bid 0) (Nat.le_of_ble_eq_true rfl) 400 ?_
              rw [at_X11_bid_0]
              repeat' (first
                | (with_reducible refine ev_rid ?_; simp (disch := first | omega | assumption) only [ev_run_c, ev_run_n, ev_fj, ev_stp, ev_lk, ev_fv, ev_as, ev_sz, ev_st1, ev_st2, ev_rm, ev_pk, ev_Jof, ev_go, lv_args, List.map_cons, List.map_nil, List.zip_cons_cons, List.zip_nil_left, List.zip_nil_right, List.nil_append, List.cons_append, ↓reduceIte, reduceCtorEq, Int.reduceToNat, Nat.reduceEqDiff, Nat.reduceAdd, Nat.reduceLT, Nat.reduceLeDiff, Nat.reduceMul, Nat.reduceSub, Value.category, false_implies, true_and, and_true, Bool.false_eq_true, Option.some.injEq, exists_eq_left', Option.toList_some, Option.toList_none, ev_km, ev_k2, ev_k3, ev_k4, ev_k5, ev_l0, ev_l1, sh_1, sh_2, sh_3, sh_4, sh_5, at_X11_bid_41, at_X11_bid_42, at_X11_bid_50, ca_X11_121, ca_X11_140, ca_X11_149, ca_X11_404, ca_X11_43, ca_X11_454, ca_X11_72, cd_X11_bid_0, cd_X11_bid_41, cd_X11_bid_42, cd_X11_bid_50, fl_X11_47, ev_b_13, no_0, no_1, no_lt, no_lt0, no_ge0, no_gt0, no_le0, no_eq0, no_0eq, no_eqm, no_meq, no_m0, no_mlt, no_mge, no_mgt, no_mm, no_i01, no_i10, no_in, no_or, no_ifm, no_mul, nI_add, no_sub, pk_div, iI_if, nI_clamp, oI_n, oI_s, not_true_eq_false, not_false_eq_true, forall_const, true_implies, false_and, and_false, or_false, false_or, Classical.not_not, true_or, or_true, no_b, no_eq1, eq_self, and_self, sk_301, sk_302, sl_302, sp_301, he, hc, thc_0, hl, d3, e2])
                | (with_reducible refine ev_gid ?_; simp (disch := first | omega | assumption) only [ev_run_c, ev_run_n, ev_fj, ev_stp, ev_lk, ev_fv, ev_as, ev_sz, ev_st1, ev_st2, ev_rm, ev_pk, ev_Jof, ev_go, lv_args, List.map_cons, List.map_nil, List.zip_cons_cons, List.zip_nil_left, List.zip_nil_right, List.nil_append, List.cons_append, ↓reduceIte, reduceCtorEq, Int.reduceToNat, Nat.reduceEqDiff, Nat.reduceAdd, Nat.reduceLT, Nat.reduceLeDiff, Nat.reduceMul, Nat.reduceSub, Value.category, false_implies, true_and, and_true, Bool.false_eq_true, Option.some.injEq, exists_eq_left', Option.toList_some, Option.toList_none, ev_km, ev_k2, ev_k3, ev_k4, ev_k5, ev_l0, ev_l1, sh_1, sh_2, sh_3, sh_4, sh_5, at_X11_bid_41, at_X11_bid_42, at_X11_bid_50, ca_X11_121, ca_X11_140, ca_X11_149, ca_X11_404, ca_X11_43, ca_X11_454, ca_X11_72, cd_X11_bid_0, cd_X11_bid_41, cd_X11_bid_42, cd_X11_bid_50, fl_X11_47, ev_b_13, no_0, no_1, no_lt, no_lt0, no_ge0, no_gt0, no_le0, no_eq0, no_0eq, no_eqm, no_meq, no_m0, no_mlt, no_mge, no_mgt, no_mm, no_i01, no_i10, no_in, no_or, no_ifm, no_mul, nI_add, no_sub, pk_div, iI_if, nI_clamp, oI_n, oI_s, not_true_eq_false, not_false_eq_true, forall_const, true_implies, false_and, and_false, or_false, false_or, Classical.not_not, true_or, or_true, no_b, no_eq1, eq_self, and_self, sk_301, sk_302, sl_302, sp_301, he, hc, thc_0, hl, d3, e2])
                | (with_reducible refine And.intro (fun q => ?_) (fun q => ?_) <;> (try simp (disch := first | omega | assumption) only [no_0, no_1, no_lt, no_le, no_eq, no_lt0, no_ge0, no_gt0, no_le0, no_eq0, no_0eq, no_eqm, no_meq, no_m0, no_mlt, no_mge, no_mgt, no_mm, no_i01, no_i10, no_in, no_or, no_ifm, no_mul, nI_add, no_sub, pk_div, iI_if, nI_clamp, oI_n, oI_s, not_true_eq_false, not_false_eq_true, forall_const, true_implies, false_and, and_false, or_false, false_or, Classical.not_not, true_or, or_true, no_b, no_eq1, eq_self, and_self, sk_301, sk_302, sl_302, sp_301, he, hc, thc_0, hl, d3, e2] at q))
                | with_reducible refine ev_ci (m_X11_areBoth hok (by first | with_reducible assumption | exact th_R (by with_reducible assumption) | exact mw_R | exact ms_R) (by with_reducible assumption) ?_ ?_ _ _) ?_
                | with_reducible refine ev_ci (m_X11_isTasting hok (by first | with_reducible assumption | exact th_R (by with_reducible assumption) | exact mw_R | exact ms_R) ?_ ?_) ?_
                | with_reducible refine ev_ci (m_X11_inI hok _ _ _) ?_
                | with_reducible refine ev_ci (m_X11_in hok _ _ _ ?_ ?_ ?_) ?_
                | with_reducible refine ev_ci (m_X11_may hok _ _ _ ?_ ?_ ?_) ?_
                | with_reducible refine ev_ci (by with_reducible assumption) ?_
                | with_reducible refine ev_ci (m_X11_of hok (by first | with_reducible assumption | exact th_R (by with_reducible assumption) | exact mw_R | exact ms_R) ?_ ?_) ?_
                | with_reducible refine ev_ci (m_X11_puts hok (by first | assumption | exact mw_R) ?_ ?_) ?_
                | omega
                | with_reducible assumption
                | with_reducible rfl
                | with_reducible refine lp_nx ?_ ?_ ?_ ?_
                | with_reducible refine lp_st ?_ ?_ ?_
                | with_reducible refine ls_c ?_ ?_
                | with_reducible refine vi_c ?_
                | with_reducible refine re_c ?_
                | with_reducible refine vz_c ?_
                | with_reducible refine rz_c ?_
                | exact trivial
                | with_reducible refine And.intro ?_ ?_
                | simp (disch := first | omega | assumption) only [ev_run_c, ev_run_n, ev_fj, ev_stp, ev_lk, ev_fv, ev_as, ev_sz, ev_st1, ev_st2, ev_rm, ev_pk, ev_Jof, ev_go, lv_args, List.map_cons, List.map_nil, List.zip_cons_cons, List.zip_nil_left, List.zip_nil_right, List.nil_append, List.cons_append, ↓reduceIte, reduceCtorEq, Int.reduceToNat, Nat.reduceEqDiff, Nat.reduceAdd, Nat.reduceLT, Nat.reduceLeDiff, Nat.reduceMul, Nat.reduceSub, Value.category, false_implies, true_and, and_true, Bool.false_eq_true, Option.some.injEq, exists_eq_left', Option.toList_some, Option.toList_none, ev_km, ev_k2, ev_k3, ev_k4, ev_k5, ev_l0, ev_l1, sh_1, sh_2, sh_3, sh_4, sh_5, at_X11_bid_41, at_X11_bid_42, at_X11_bid_50, ca_X11_121, ca_X11_140, ca_X11_149, ca_X11_404, ca_X11_43, ca_X11_454, ca_X11_72, cd_X11_bid_0, cd_X11_bid_41, cd_X11_bid_42, cd_X11_bid_50, fl_X11_47, ev_b_13, no_0, no_1, no_lt, no_lt0, no_ge0, no_gt0, no_le0, no_eq0, no_0eq, no_eqm, no_meq, no_m0, no_mlt, no_mge, no_mgt, no_mm, no_i01, no_i10, no_in, no_or, no_ifm, no_mul, nI_add, no_sub, pk_div, iI_if, nI_clamp, oI_n, oI_s, not_true_eq_false, not_false_eq_true, forall_const, true_implies, false_and, and_false, or_false, false_or, Classical.not_not, true_or, or_true, no_b, no_eq1, eq_self, and_self, sk_301, sk_302, sl_302, sp_301, he, hc, thc_0, hl, d3, e2]
                | (split <;> omega))
            · rw [mw_1 (by omega), ht1]; exact th_0
end MChg2
