/-! ===== the reference: filling ===== -/
section MFill
variable {G : ev_G} {N : Nat → Nat} {μ : ev_M}
theorem sk_308 : sh_kd 308 = 12 := by decide +kernel
theorem sl_308 : sh_ln 308 = 10 := by decide +kernel
theorem sp_308 : sh_pt 301 18 = 308 := by decide +kernel
def MG (g : Nat → Nat) (μ : ev_M) : Prop := ∀ k, k < 10 → μ.1 308 k = nI (g k)
/-- the first that is something, from k on, m places -/
def foF {α : Type} (f : Nat → Option α) : Nat → Nat → Option α
  | _, 0 => none
  | k, m + 1 => match f k with
    | some x => some x
    | none => foF f (k + 1) m
theorem foF_y {α : Type} {f : Nat → Option α} {k n : Nat} {x : α} (h : k < n) (hf : f k = some x) : foF f k (n - k) = some x := by
  rw [show n - k = (n - (k + 1)) + 1 by omega]
  unfold foF
  rw [hf]
theorem foF_n {α : Type} {f : Nat → Option α} {k n : Nat} (h : k < n) (hf : f k = none) : foF f k (n - k) = foF f (k + 1) (n - (k + 1)) := by
  rw [show n - k = (n - (k + 1)) + 1 by omega]
  show (match f k with | some x => some x | none => foF f (k + 1) (n - (k + 1))) = _
  rw [hf]
theorem foF_e {α : Type} {f : Nat → Option α} {k n : Nat} (h : n ≤ k) : foF f k (n - k) = none := by
  rw [show n - k = 0 by omega]
  rfl
theorem foF_in {α : Type} {f : Nat → Option α} {k m : Nat} {x : α} (h : foF f k m = some x) : ∃ j, k ≤ j ∧ j < k + m ∧ f j = some x := by
  induction m generalizing k with
  | zero => cases h
  | succ m ih =>
    have h : (match f k with | some x => some x | none => foF f (k + 1) m) = some x := h
    cases hf : f k with
    | some y =>
      rw [hf] at h
      exact ⟨k, Nat.le_refl k, by omega, hf.trans h⟩
    | none =>
      rw [hf] at h
      obtain ⟨j, h1, h2, h3⟩ := ih h
      exact ⟨j, by omega, by omega, h3⟩
theorem foF_ext {α : Type} {f g : Nat → Option α} {k m : Nat} (h : ∀ j, k ≤ j → j < k + m → f j = g j) : foF f k m = foF g k m := by
  induction m generalizing k with
  | zero => rfl
  | succ m ih =>
    show (match f k with | some x => some x | none => foF f (k + 1) m) = (match g k with | some x => some x | none => foF g (k + 1) m)
    rw [h k (Nat.le_refl k) (by omega), ih (fun j h1 h2 => h j (by omega) (by omega))]
def ned (N g : Nat → Nat) : Nat → Option Nat
  | 0 => none
  | n + 1 => if g n = 0 ∧ N (952 + 9 * n + 5) ≠ 3 then (match ned N g n with
    | none => some n
    | some f => if N (952 + 9 * n + 5) < N (952 + 9 * f + 5) then some n else some f) else ned N g n
theorem ned_0 {g : Nat → Nat} {n : Nat} (h : ¬ (g n = 0 ∧ N (952 + 9 * n + 5) ≠ 3)) : ned N g (n + 1) = ned N g n := by
  show (if g n = 0 ∧ N (952 + 9 * n + 5) ≠ 3 then _ else _) = _
  rw [if_neg h]
theorem ned_1 {g : Nat → Nat} {n : Nat} (h1 : g n = 0) (h2 : N (952 + 9 * n + 5) ≠ 3) (h : ned N g n = none) : ned N g (n + 1) = some n := by
  show (if g n = 0 ∧ N (952 + 9 * n + 5) ≠ 3 then _ else _) = _
  rw [if_pos ⟨h1, h2⟩, h]
theorem ned_2 {g : Nat → Nat} {n f : Nat} (h1 : g n = 0) (h2 : N (952 + 9 * n + 5) ≠ 3) (h : ned N g n = some f) (h3 : N (952 + 9 * n + 5) < N (952 + 9 * f + 5)) : ned N g (n + 1) = some n := by
  show (if g n = 0 ∧ N (952 + 9 * n + 5) ≠ 3 then _ else _) = _
  rw [if_pos ⟨h1, h2⟩, h]
  exact if_pos h3
theorem ned_3 {g : Nat → Nat} {n f : Nat} (h1 : g n = 0) (h2 : N (952 + 9 * n + 5) ≠ 3) (h : ned N g n = some f) (h3 : ¬ N (952 + 9 * n + 5) < N (952 + 9 * f + 5)) : ned N g (n + 1) = some f := by
  show (if g n = 0 ∧ N (952 + 9 * n + 5) ≠ 3 then _ else _) = _
  rw [if_pos ⟨h1, h2⟩, h]
  exact if_neg h3
theorem ned_is {g : Nat → Nat} {n p : Nat} (h : ned N g n = some p) : p < n ∧ g p = 0 ∧ N (952 + 9 * p + 5) ≠ 3 := by
  induction n with
  | zero => cases h
  | succ n ih =>
    by_cases h1 : g n = 0 ∧ N (952 + 9 * n + 5) ≠ 3
    · cases h2 : ned N g n with
      | none =>
        rw [ned_1 h1.1 h1.2 h2] at h
        cases h
        exact ⟨by omega, h1⟩
      | some f =>
        by_cases h3 : N (952 + 9 * n + 5) < N (952 + 9 * f + 5)
        · rw [ned_2 h1.1 h1.2 h2 h3] at h
          cases h
          exact ⟨by omega, h1⟩
        · rw [ned_3 h1.1 h1.2 h2 h3] at h
          cases h
          have := ih h2
          exact ⟨by omega, this.2⟩
    · rw [ned_0 h1] at h
      have := ih h
      exact ⟨by omega, this.2⟩
set_option maxHeartbeats 1000000 in
theorem m_X11_neediest (hok : ev_ok sh_S G) (hN : MR N μ) (hI : INV N) {g : Nat → Nat} (hg : MG g μ) (hg1 : ∀ k, k < 10 → g k < 2) : ev_T sh_S G mi_X11_neediest [.ref 301] μ (.inl (some (.int (oI (ned N g (N 1)))), μ)) := by
  have hh := iv_h hI
  have hN' : ∀ k, k < 1042 → μ.1 302 k = nI (N k) := hN
  have hg' : ∀ k, k < 10 → μ.1 308 k = nI (g k) := hg
  refine ev_tri1 hok (okM_X11_neediest 0) (Nat.le_of_ble_eq_true rfl) 4 [0, 1, 2] (N 1) 400 (fun k => [.ref 301, .int (oI (ned N g k)), .int (nI k)]) (fun _ => μ) (fun _ => True) ?_ ?_
  · intro k hk _
    rw [at_X11_neediest_4]
    rcases Nat.lt_or_ge k (N 1) with hkn | hkn
    · have h1 := iv_q hI k (by omega)
      have h2 := hg1 k (by omega)
      cases hb : ned N g k with
      | none =>
        repeat' (first
          | (with_reducible refine ev_rid ?_; simp (disch := first | omega | assumption) only [ev_run_c, ev_run_n, ev_fj, ev_stp, ev_lk, ev_fv, ev_as, ev_sz, ev_st1, ev_st2, ev_rm, ev_pk, ev_Jof, ev_go, lv_args, List.map_cons, List.map_nil, List.zip_cons_cons, List.zip_nil_left, List.zip_nil_right, List.nil_append, List.cons_append, ↓reduceIte, reduceCtorEq, Int.reduceToNat, Nat.reduceEqDiff, Nat.reduceAdd, Nat.reduceLT, Nat.reduceLeDiff, Nat.reduceMul, Value.category, false_implies, true_and, and_true, Bool.false_eq_true, Option.some.injEq, exists_eq_left', Option.toList_some, Option.toList_none, ev_km, ev_k2, ev_k3, ev_k4, ev_k5, ev_l0, ev_l1, sh_1, sh_2, sh_3, sh_4, sh_5, at_X11_neediest_36, at_X11_neediest_4, at_X11_neediest_56, at_X11_neediest_58, at_X11_neediest_64, ca_X11_195, cd_X11_neediest_0, cd_X11_neediest_36, cd_X11_neediest_4, cd_X11_neediest_56, cd_X11_neediest_58, cd_X11_neediest_64, fl_X11_34, fl_X11_9, no_0, no_1, no_lt, no_le, no_eq, no_lt0, no_ge0, no_gt0, no_le0, no_eq0, no_0eq, no_eqm, no_meq, no_m0, no_mlt, no_mge, no_mgt, no_mm, no_i01, no_i10, no_in, no_or, no_ifm, no_mul, nI_add, no_sub, pk_div, iI_if, nI_clamp, oI_n, oI_s, not_true_eq_false, not_false_eq_true, forall_const, true_implies, false_and, and_false, or_false, false_or, Classical.not_not, true_or, or_true, no_b, no_eq1, eq_self, and_self, sk_301, sk_302, sl_302, sp_301, hN', sk_308, sl_308, sp_308, hg'])
          | (with_reducible refine ev_gid ?_; simp (disch := first | omega | assumption) only [ev_run_c, ev_run_n, ev_fj, ev_stp, ev_lk, ev_fv, ev_as, ev_sz, ev_st1, ev_st2, ev_rm, ev_pk, ev_Jof, ev_go, lv_args, List.map_cons, List.map_nil, List.zip_cons_cons, List.zip_nil_left, List.zip_nil_right, List.nil_append, List.cons_append, ↓reduceIte, reduceCtorEq, Int.reduceToNat, Nat.reduceEqDiff, Nat.reduceAdd, Nat.reduceLT, Nat.reduceLeDiff, Nat.reduceMul, Value.category, false_implies, true_and, and_true, Bool.false_eq_true, Option.some.injEq, exists_eq_left', Option.toList_some, Option.toList_none, ev_km, ev_k2, ev_k3, ev_k4, ev_k5, ev_l0, ev_l1, sh_1, sh_2, sh_3, sh_4, sh_5, at_X11_neediest_36, at_X11_neediest_4, at_X11_neediest_56, at_X11_neediest_58, at_X11_neediest_64, ca_X11_195, cd_X11_neediest_0, cd_X11_neediest_36, cd_X11_neediest_4, cd_X11_neediest_56, cd_X11_neediest_58, cd_X11_neediest_64, fl_X11_34, fl_X11_9, no_0, no_1, no_lt, no_le, no_eq, no_lt0, no_ge0, no_gt0, no_le0, no_eq0, no_0eq, no_eqm, no_meq, no_m0, no_mlt, no_mge, no_mgt, no_mm, no_i01, no_i10, no_in, no_or, no_ifm, no_mul, nI_add, no_sub, pk_div, iI_if, nI_clamp, oI_n, oI_s, not_true_eq_false, not_false_eq_true, forall_const, true_implies, false_and, and_false, or_false, false_or, Classical.not_not, true_or, or_true, no_b, no_eq1, eq_self, and_self, sk_301, sk_302, sl_302, sp_301, hN', sk_308, sl_308, sp_308, hg'])
          | (with_reducible refine And.intro (fun q => ?_) (fun q => ?_) <;> (try simp (disch := first | omega | assumption) only [no_0, no_1, no_lt, no_le, no_eq, no_lt0, no_ge0, no_gt0, no_le0, no_eq0, no_0eq, no_eqm, no_meq, no_m0, no_mlt, no_mge, no_mgt, no_mm, no_i01, no_i10, no_in, no_or, no_ifm, no_mul, nI_add, no_sub, pk_div, iI_if, nI_clamp, oI_n, oI_s, not_true_eq_false, not_false_eq_true, forall_const, true_implies, false_and, and_false, or_false, false_or, Classical.not_not, true_or, or_true, no_b, no_eq1, eq_self, and_self, sk_301, sk_302, sl_302, sp_301, hN', sk_308, sl_308, sp_308, hg'] at q))
          | with_reducible refine ev_ci (m_X11_ofCake hok (by first | assumption | exact mw_R) ?_ ?_) ?_
          | with_reducible refine ev_ci (m_X11_ofCake hok (by assumption) ?_ ?_) ?_
          | omega
          | assumption
          | with_reducible rfl
          | refine vo_s (ned_1 ‹_› ‹_› hb)
          | (refine vo_n ?_; rw [ned_0 (by omega)]; exact hb)
          | with_reducible refine lp_nx ?_ ?_ ?_ ?_
          | with_reducible refine lp_st ?_ ?_ ?_
          | with_reducible refine ls_c ?_ ?_
          | with_reducible refine vi_c ?_
          | with_reducible refine re_c ?_
          | with_reducible refine vz_c ?_
          | with_reducible refine rz_c ?_
          | exact trivial
          | with_reducible refine And.intro ?_ ?_
          | simp (disch := first | omega | assumption) only [ev_run_c, ev_run_n, ev_fj, ev_stp, ev_lk, ev_fv, ev_as, ev_sz, ev_st1, ev_st2, ev_rm, ev_pk, ev_Jof, ev_go, lv_args, List.map_cons, List.map_nil, List.zip_cons_cons, List.zip_nil_left, List.zip_nil_right, List.nil_append, List.cons_append, ↓reduceIte, reduceCtorEq, Int.reduceToNat, Nat.reduceEqDiff, Nat.reduceAdd, Nat.reduceLT, Nat.reduceLeDiff, Nat.reduceMul, Value.category, false_implies, true_and, and_true, Bool.false_eq_true, Option.some.injEq, exists_eq_left', Option.toList_some, Option.toList_none, ev_km, ev_k2, ev_k3, ev_k4, ev_k5, ev_l0, ev_l1, sh_1, sh_2, sh_3, sh_4, sh_5, at_X11_neediest_36, at_X11_neediest_4, at_X11_neediest_56, at_X11_neediest_58, at_X11_neediest_64, ca_X11_195, cd_X11_neediest_0, cd_X11_neediest_36, cd_X11_neediest_4, cd_X11_neediest_56, cd_X11_neediest_58, cd_X11_neediest_64, fl_X11_34, fl_X11_9, no_0, no_1, no_lt, no_le, no_eq, no_lt0, no_ge0, no_gt0, no_le0, no_eq0, no_0eq, no_eqm, no_meq, no_m0, no_mlt, no_mge, no_mgt, no_mm, no_i01, no_i10, no_in, no_or, no_ifm, no_mul, nI_add, no_sub, pk_div, iI_if, nI_clamp, oI_n, oI_s, not_true_eq_false, not_false_eq_true, forall_const, true_implies, false_and, and_false, or_false, false_or, Classical.not_not, true_or, or_true, no_b, no_eq1, eq_self, and_self, sk_301, sk_302, sl_302, sp_301, hN', sk_308, sl_308, sp_308, hg']
          | exact rfl
          | (split <;> omega))
      | some f =>
        have h3 := ned_is hb
        have h4 := iv_q hI f (by omega)
        repeat' (first
          | (with_reducible refine ev_rid ?_; simp (disch := first | omega | assumption) only [ev_run_c, ev_run_n, ev_fj, ev_stp, ev_lk, ev_fv, ev_as, ev_sz, ev_st1, ev_st2, ev_rm, ev_pk, ev_Jof, ev_go, lv_args, List.map_cons, List.map_nil, List.zip_cons_cons, List.zip_nil_left, List.zip_nil_right, List.nil_append, List.cons_append, ↓reduceIte, reduceCtorEq, Int.reduceToNat, Nat.reduceEqDiff, Nat.reduceAdd, Nat.reduceLT, Nat.reduceLeDiff, Nat.reduceMul, Value.category, false_implies, true_and, and_true, Bool.false_eq_true, Option.some.injEq, exists_eq_left', Option.toList_some, Option.toList_none, ev_km, ev_k2, ev_k3, ev_k4, ev_k5, ev_l0, ev_l1, sh_1, sh_2, sh_3, sh_4, sh_5, at_X11_neediest_36, at_X11_neediest_4, at_X11_neediest_56, at_X11_neediest_58, at_X11_neediest_64, ca_X11_195, cd_X11_neediest_0, cd_X11_neediest_36, cd_X11_neediest_4, cd_X11_neediest_56, cd_X11_neediest_58, cd_X11_neediest_64, fl_X11_34, fl_X11_9, no_0, no_1, no_lt, no_le, no_eq, no_lt0, no_ge0, no_gt0, no_le0, no_eq0, no_0eq, no_eqm, no_meq, no_m0, no_mlt, no_mge, no_mgt, no_mm, no_i01, no_i10, no_in, no_or, no_ifm, no_mul, nI_add, no_sub, pk_div, iI_if, nI_clamp, oI_n, oI_s, not_true_eq_false, not_false_eq_true, forall_const, true_implies, false_and, and_false, or_false, false_or, Classical.not_not, true_or, or_true, no_b, no_eq1, eq_self, and_self, sk_301, sk_302, sl_302, sp_301, hN', sk_308, sl_308, sp_308, hg'])
          | (with_reducible refine ev_gid ?_; simp (disch := first | omega | assumption) only [ev_run_c, ev_run_n, ev_fj, ev_stp, ev_lk, ev_fv, ev_as, ev_sz, ev_st1, ev_st2, ev_rm, ev_pk, ev_Jof, ev_go, lv_args, List.map_cons, List.map_nil, List.zip_cons_cons, List.zip_nil_left, List.zip_nil_right, List.nil_append, List.cons_append, ↓reduceIte, reduceCtorEq, Int.reduceToNat, Nat.reduceEqDiff, Nat.reduceAdd, Nat.reduceLT, Nat.reduceLeDiff, Nat.reduceMul, Value.category, false_implies, true_and, and_true, Bool.false_eq_true, Option.some.injEq, exists_eq_left', Option.toList_some, Option.toList_none, ev_km, ev_k2, ev_k3, ev_k4, ev_k5, ev_l0, ev_l1, sh_1, sh_2, sh_3, sh_4, sh_5, at_X11_neediest_36, at_X11_neediest_4, at_X11_neediest_56, at_X11_neediest_58, at_X11_neediest_64, ca_X11_195, cd_X11_neediest_0, cd_X11_neediest_36, cd_X11_neediest_4, cd_X11_neediest_56, cd_X11_neediest_58, cd_X11_neediest_64, fl_X11_34, fl_X11_9, no_0, no_1, no_lt, no_le, no_eq, no_lt0, no_ge0, no_gt0, no_le0, no_eq0, no_0eq, no_eqm, no_meq, no_m0, no_mlt, no_mge, no_mgt, no_mm, no_i01, no_i10, no_in, no_or, no_ifm, no_mul, nI_add, no_sub, pk_div, iI_if, nI_clamp, oI_n, oI_s, not_true_eq_false, not_false_eq_true, forall_const, true_implies, false_and, and_false, or_false, false_or, Classical.not_not, true_or, or_true, no_b, no_eq1, eq_self, and_self, sk_301, sk_302, sl_302, sp_301, hN', sk_308, sl_308, sp_308, hg'])
          | (with_reducible refine And.intro (fun q => ?_) (fun q => ?_) <;> (try simp (disch := first | omega | assumption) only [no_0, no_1, no_lt, no_le, no_eq, no_lt0, no_ge0, no_gt0, no_le0, no_eq0, no_0eq, no_eqm, no_meq, no_m0, no_mlt, no_mge, no_mgt, no_mm, no_i01, no_i10, no_in, no_or, no_ifm, no_mul, nI_add, no_sub, pk_div, iI_if, nI_clamp, oI_n, oI_s, not_true_eq_false, not_false_eq_true, forall_const, true_implies, false_and, and_false, or_false, false_or, Classical.not_not, true_or, or_true, no_b, no_eq1, eq_self, and_self, sk_301, sk_302, sl_302, sp_301, hN', sk_308, sl_308, sp_308, hg'] at q))
          | with_reducible refine ev_ci (m_X11_ofCake hok (by first | assumption | exact mw_R) ?_ ?_) ?_
          | with_reducible refine ev_ci (m_X11_ofCake hok (by assumption) ?_ ?_) ?_
          | omega
          | assumption
          | with_reducible rfl
          | refine vo_s (ned_2 ‹_› ‹_› hb (by omega))
          | refine vo_s (ned_3 ‹_› ‹_› hb (by omega))
          | (refine vo_s ?_; rw [ned_0 (by omega)]; exact hb)
          | with_reducible refine lp_nx ?_ ?_ ?_ ?_
          | with_reducible refine lp_st ?_ ?_ ?_
          | with_reducible refine ls_c ?_ ?_
          | with_reducible refine vi_c ?_
          | with_reducible refine re_c ?_
          | with_reducible refine vz_c ?_
          | with_reducible refine rz_c ?_
          | exact trivial
          | with_reducible refine And.intro ?_ ?_
          | simp (disch := first | omega | assumption) only [ev_run_c, ev_run_n, ev_fj, ev_stp, ev_lk, ev_fv, ev_as, ev_sz, ev_st1, ev_st2, ev_rm, ev_pk, ev_Jof, ev_go, lv_args, List.map_cons, List.map_nil, List.zip_cons_cons, List.zip_nil_left, List.zip_nil_right, List.nil_append, List.cons_append, ↓reduceIte, reduceCtorEq, Int.reduceToNat, Nat.reduceEqDiff, Nat.reduceAdd, Nat.reduceLT, Nat.reduceLeDiff, Nat.reduceMul, Value.category, false_implies, true_and, and_true, Bool.false_eq_true, Option.some.injEq, exists_eq_left', Option.toList_some, Option.toList_none, ev_km, ev_k2, ev_k3, ev_k4, ev_k5, ev_l0, ev_l1, sh_1, sh_2, sh_3, sh_4, sh_5, at_X11_neediest_36, at_X11_neediest_4, at_X11_neediest_56, at_X11_neediest_58, at_X11_neediest_64, ca_X11_195, cd_X11_neediest_0, cd_X11_neediest_36, cd_X11_neediest_4, cd_X11_neediest_56, cd_X11_neediest_58, cd_X11_neediest_64, fl_X11_34, fl_X11_9, no_0, no_1, no_lt, no_le, no_eq, no_lt0, no_ge0, no_gt0, no_le0, no_eq0, no_0eq, no_eqm, no_meq, no_m0, no_mlt, no_mge, no_mgt, no_mm, no_i01, no_i10, no_in, no_or, no_ifm, no_mul, nI_add, no_sub, pk_div, iI_if, nI_clamp, oI_n, oI_s, not_true_eq_false, not_false_eq_true, forall_const, true_implies, false_and, and_false, or_false, false_or, Classical.not_not, true_or, or_true, no_b, no_eq1, eq_self, and_self, sk_301, sk_302, sl_302, sp_301, hN', sk_308, sl_308, sp_308, hg']
          | exact rfl
          | (split <;> omega))
    · have hkn : N 1 = k := by omega
      subst hkn
      repeat' (first
        | (with_reducible refine ev_rid ?_; simp (disch := first | omega | assumption) only [ev_run_c, ev_run_n, ev_fj, ev_stp, ev_lk, ev_fv, ev_as, ev_sz, ev_st1, ev_st2, ev_rm, ev_pk, ev_Jof, ev_go, lv_args, List.map_cons, List.map_nil, List.zip_cons_cons, List.zip_nil_left, List.zip_nil_right, List.nil_append, List.cons_append, ↓reduceIte, reduceCtorEq, Int.reduceToNat, Nat.reduceEqDiff, Nat.reduceAdd, Nat.reduceLT, Nat.reduceLeDiff, Nat.reduceMul, Value.category, false_implies, true_and, and_true, Bool.false_eq_true, Option.some.injEq, exists_eq_left', Option.toList_some, Option.toList_none, ev_km, ev_k2, ev_k3, ev_k4, ev_k5, ev_l0, ev_l1, sh_1, sh_2, sh_3, sh_4, sh_5, at_X11_neediest_36, at_X11_neediest_4, at_X11_neediest_56, at_X11_neediest_58, at_X11_neediest_64, ca_X11_195, cd_X11_neediest_0, cd_X11_neediest_36, cd_X11_neediest_4, cd_X11_neediest_56, cd_X11_neediest_58, cd_X11_neediest_64, fl_X11_34, fl_X11_9, no_0, no_1, no_lt, no_le, no_eq, no_lt0, no_ge0, no_gt0, no_le0, no_eq0, no_0eq, no_eqm, no_meq, no_m0, no_mlt, no_mge, no_mgt, no_mm, no_i01, no_i10, no_in, no_or, no_ifm, no_mul, nI_add, no_sub, pk_div, iI_if, nI_clamp, oI_n, oI_s, not_true_eq_false, not_false_eq_true, forall_const, true_implies, false_and, and_false, or_false, false_or, Classical.not_not, true_or, or_true, no_b, no_eq1, eq_self, and_self, sk_301, sk_302, sl_302, sp_301, hN'])
        | (with_reducible refine ev_gid ?_; simp (disch := first | omega | assumption) only [ev_run_c, ev_run_n, ev_fj, ev_stp, ev_lk, ev_fv, ev_as, ev_sz, ev_st1, ev_st2, ev_rm, ev_pk, ev_Jof, ev_go, lv_args, List.map_cons, List.map_nil, List.zip_cons_cons, List.zip_nil_left, List.zip_nil_right, List.nil_append, List.cons_append, ↓reduceIte, reduceCtorEq, Int.reduceToNat, Nat.reduceEqDiff, Nat.reduceAdd, Nat.reduceLT, Nat.reduceLeDiff, Nat.reduceMul, Value.category, false_implies, true_and, and_true, Bool.false_eq_true, Option.some.injEq, exists_eq_left', Option.toList_some, Option.toList_none, ev_km, ev_k2, ev_k3, ev_k4, ev_k5, ev_l0, ev_l1, sh_1, sh_2, sh_3, sh_4, sh_5, at_X11_neediest_36, at_X11_neediest_4, at_X11_neediest_56, at_X11_neediest_58, at_X11_neediest_64, ca_X11_195, cd_X11_neediest_0, cd_X11_neediest_36, cd_X11_neediest_4, cd_X11_neediest_56, cd_X11_neediest_58, cd_X11_neediest_64, fl_X11_34, fl_X11_9, no_0, no_1, no_lt, no_le, no_eq, no_lt0, no_ge0, no_gt0, no_le0, no_eq0, no_0eq, no_eqm, no_meq, no_m0, no_mlt, no_mge, no_mgt, no_mm, no_i01, no_i10, no_in, no_or, no_ifm, no_mul, nI_add, no_sub, pk_div, iI_if, nI_clamp, oI_n, oI_s, not_true_eq_false, not_false_eq_true, forall_const, true_implies, false_and, and_false, or_false, false_or, Classical.not_not, true_or, or_true, no_b, no_eq1, eq_self, and_self, sk_301, sk_302, sl_302, sp_301, hN'])
        | (with_reducible refine And.intro (fun q => ?_) (fun q => ?_) <;> (try simp (disch := first | omega | assumption) only [no_0, no_1, no_lt, no_le, no_eq, no_lt0, no_ge0, no_gt0, no_le0, no_eq0, no_0eq, no_eqm, no_meq, no_m0, no_mlt, no_mge, no_mgt, no_mm, no_i01, no_i10, no_in, no_or, no_ifm, no_mul, nI_add, no_sub, pk_div, iI_if, nI_clamp, oI_n, oI_s, not_true_eq_false, not_false_eq_true, forall_const, true_implies, false_and, and_false, or_false, false_or, Classical.not_not, true_or, or_true, no_b, no_eq1, eq_self, and_self, sk_301, sk_302, sl_302, sp_301, hN'] at q))
        | with_reducible refine ev_ci (m_X11_ofCake hok (by first | assumption | exact mw_R) ?_ ?_) ?_
        | with_reducible refine ev_ci (m_X11_ofCake hok (by assumption) ?_ ?_) ?_
        | omega
        | assumption
        | with_reducible rfl
        | with_reducible refine lp_nx ?_ ?_ ?_ ?_
        | with_reducible refine lp_st ?_ ?_ ?_
        | with_reducible refine ls_c ?_ ?_
        | with_reducible refine vi_c ?_
        | with_reducible refine re_c ?_
        | with_reducible refine vz_c ?_
        | with_reducible refine rz_c ?_
        | exact trivial
        | with_reducible refine And.intro ?_ ?_
        | simp (disch := first | omega | assumption) only [ev_run_c, ev_run_n, ev_fj, ev_stp, ev_lk, ev_fv, ev_as, ev_sz, ev_st1, ev_st2, ev_rm, ev_pk, ev_Jof, ev_go, lv_args, List.map_cons, List.map_nil, List.zip_cons_cons, List.zip_nil_left, List.zip_nil_right, List.nil_append, List.cons_append, ↓reduceIte, reduceCtorEq, Int.reduceToNat, Nat.reduceEqDiff, Nat.reduceAdd, Nat.reduceLT, Nat.reduceLeDiff, Nat.reduceMul, Value.category, false_implies, true_and, and_true, Bool.false_eq_true, Option.some.injEq, exists_eq_left', Option.toList_some, Option.toList_none, ev_km, ev_k2, ev_k3, ev_k4, ev_k5, ev_l0, ev_l1, sh_1, sh_2, sh_3, sh_4, sh_5, at_X11_neediest_36, at_X11_neediest_4, at_X11_neediest_56, at_X11_neediest_58, at_X11_neediest_64, ca_X11_195, cd_X11_neediest_0, cd_X11_neediest_36, cd_X11_neediest_4, cd_X11_neediest_56, cd_X11_neediest_58, cd_X11_neediest_64, fl_X11_34, fl_X11_9, no_0, no_1, no_lt, no_le, no_eq, no_lt0, no_ge0, no_gt0, no_le0, no_eq0, no_0eq, no_eqm, no_meq, no_m0, no_mlt, no_mge, no_mgt, no_mm, no_i01, no_i10, no_in, no_or, no_ifm, no_mul, nI_add, no_sub, pk_div, iI_if, nI_clamp, oI_n, oI_s, not_true_eq_false, not_false_eq_true, forall_const, true_implies, false_and, and_false, or_false, false_or, Classical.not_not, true_or, or_true, no_b, no_eq1, eq_self, and_self, sk_301, sk_302, sl_302, sp_301, hN']
        | exact rfl
        | (split <;> omega))
  · rw [at_X11_neediest_0]
    repeat' (first
      | (with_reducible refine ev_rid ?_; simp (disch := first | omega | assumption) only [ev_run_c, ev_run_n, ev_fj, ev_stp, ev_lk, ev_fv, ev_as, ev_sz, ev_st1, ev_st2, ev_rm, ev_pk, ev_Jof, ev_go, lv_args, List.map_cons, List.map_nil, List.zip_cons_cons, List.zip_nil_left, List.zip_nil_right, List.nil_append, List.cons_append, ↓reduceIte, reduceCtorEq, Int.reduceToNat, Nat.reduceEqDiff, Nat.reduceAdd, Nat.reduceLT, Nat.reduceLeDiff, Nat.reduceMul, Value.category, false_implies, true_and, and_true, Bool.false_eq_true, Option.some.injEq, exists_eq_left', Option.toList_some, Option.toList_none, ev_km, ev_k2, ev_k3, ev_k4, ev_k5, ev_l0, ev_l1, sh_1, sh_2, sh_3, sh_4, sh_5, at_X11_neediest_36, at_X11_neediest_4, at_X11_neediest_56, at_X11_neediest_58, at_X11_neediest_64, ca_X11_195, cd_X11_neediest_0, cd_X11_neediest_36, cd_X11_neediest_4, cd_X11_neediest_56, cd_X11_neediest_58, cd_X11_neediest_64, fl_X11_34, fl_X11_9, no_0, no_1, no_lt, no_le, no_eq, no_lt0, no_ge0, no_gt0, no_le0, no_eq0, no_0eq, no_eqm, no_meq, no_m0, no_mlt, no_mge, no_mgt, no_mm, no_i01, no_i10, no_in, no_or, no_ifm, no_mul, nI_add, no_sub, pk_div, iI_if, nI_clamp, oI_n, oI_s, not_true_eq_false, not_false_eq_true, forall_const, true_implies, false_and, and_false, or_false, false_or, Classical.not_not, true_or, or_true, no_b, no_eq1, eq_self, and_self, sk_301, sk_302, sl_302, sp_301])
      | (with_reducible refine ev_gid ?_; simp (disch := first | omega | assumption) only [ev_run_c, ev_run_n, ev_fj, ev_stp, ev_lk, ev_fv, ev_as, ev_sz, ev_st1, ev_st2, ev_rm, ev_pk, ev_Jof, ev_go, lv_args, List.map_cons, List.map_nil, List.zip_cons_cons, List.zip_nil_left, List.zip_nil_right, List.nil_append, List.cons_append, ↓reduceIte, reduceCtorEq, Int.reduceToNat, Nat.reduceEqDiff, Nat.reduceAdd, Nat.reduceLT, Nat.reduceLeDiff, Nat.reduceMul, Value.category, false_implies, true_and, and_true, Bool.false_eq_true, Option.some.injEq, exists_eq_left', Option.toList_some, Option.toList_none, ev_km, ev_k2, ev_k3, ev_k4, ev_k5, ev_l0, ev_l1, sh_1, sh_2, sh_3, sh_4, sh_5, at_X11_neediest_36, at_X11_neediest_4, at_X11_neediest_56, at_X11_neediest_58, at_X11_neediest_64, ca_X11_195, cd_X11_neediest_0, cd_X11_neediest_36, cd_X11_neediest_4, cd_X11_neediest_56, cd_X11_neediest_58, cd_X11_neediest_64, fl_X11_34, fl_X11_9, no_0, no_1, no_lt, no_le, no_eq, no_lt0, no_ge0, no_gt0, no_le0, no_eq0, no_0eq, no_eqm, no_meq, no_m0, no_mlt, no_mge, no_mgt, no_mm, no_i01, no_i10, no_in, no_or, no_ifm, no_mul, nI_add, no_sub, pk_div, iI_if, nI_clamp, oI_n, oI_s, not_true_eq_false, not_false_eq_true, forall_const, true_implies, false_and, and_false, or_false, false_or, Classical.not_not, true_or, or_true, no_b, no_eq1, eq_self, and_self, sk_301, sk_302, sl_302, sp_301])
      | (with_reducible refine And.intro (fun q => ?_) (fun q => ?_) <;> (try simp (disch := first | omega | assumption) only [no_0, no_1, no_lt, no_le, no_eq, no_lt0, no_ge0, no_gt0, no_le0, no_eq0, no_0eq, no_eqm, no_meq, no_m0, no_mlt, no_mge, no_mgt, no_mm, no_i01, no_i10, no_in, no_or, no_ifm, no_mul, nI_add, no_sub, pk_div, iI_if, nI_clamp, oI_n, oI_s, not_true_eq_false, not_false_eq_true, forall_const, true_implies, false_and, and_false, or_false, false_or, Classical.not_not, true_or, or_true, no_b, no_eq1, eq_self, and_self, sk_301, sk_302, sl_302, sp_301] at q))
      | with_reducible refine ev_ci (m_X11_ofCake hok (by first | assumption | exact mw_R) ?_ ?_) ?_
      | with_reducible refine ev_ci (m_X11_ofCake hok (by assumption) ?_ ?_) ?_
      | omega
      | assumption
      | with_reducible rfl
      | exact vo_n rfl
      | with_reducible refine lp_nx ?_ ?_ ?_ ?_
      | with_reducible refine lp_st ?_ ?_ ?_
      | with_reducible refine ls_c ?_ ?_
      | with_reducible refine vi_c ?_
      | with_reducible refine re_c ?_
      | with_reducible refine vz_c ?_
      | with_reducible refine rz_c ?_
      | exact trivial
      | with_reducible refine And.intro ?_ ?_
      | simp (disch := first | omega | assumption) only [ev_run_c, ev_run_n, ev_fj, ev_stp, ev_lk, ev_fv, ev_as, ev_sz, ev_st1, ev_st2, ev_rm, ev_pk, ev_Jof, ev_go, lv_args, List.map_cons, List.map_nil, List.zip_cons_cons, List.zip_nil_left, List.zip_nil_right, List.nil_append, List.cons_append, ↓reduceIte, reduceCtorEq, Int.reduceToNat, Nat.reduceEqDiff, Nat.reduceAdd, Nat.reduceLT, Nat.reduceLeDiff, Nat.reduceMul, Value.category, false_implies, true_and, and_true, Bool.false_eq_true, Option.some.injEq, exists_eq_left', Option.toList_some, Option.toList_none, ev_km, ev_k2, ev_k3, ev_k4, ev_k5, ev_l0, ev_l1, sh_1, sh_2, sh_3, sh_4, sh_5, at_X11_neediest_36, at_X11_neediest_4, at_X11_neediest_56, at_X11_neediest_58, at_X11_neediest_64, ca_X11_195, cd_X11_neediest_0, cd_X11_neediest_36, cd_X11_neediest_4, cd_X11_neediest_56, cd_X11_neediest_58, cd_X11_neediest_64, fl_X11_34, fl_X11_9, no_0, no_1, no_lt, no_le, no_eq, no_lt0, no_ge0, no_gt0, no_le0, no_eq0, no_0eq, no_eqm, no_meq, no_m0, no_mlt, no_mge, no_mgt, no_mm, no_i01, no_i10, no_in, no_or, no_ifm, no_mul, nI_add, no_sub, pk_div, iI_if, nI_clamp, oI_n, oI_s, not_true_eq_false, not_false_eq_true, forall_const, true_implies, false_and, and_false, or_false, false_or, Classical.not_not, true_or, or_true, no_b, no_eq1, eq_self, and_self, sk_301, sk_302, sl_302, sp_301]
      | exact rfl
      | (split <;> omega))
/-- a counter that stands one too high -/
def dI (r : Nat) : Int32 := nI r + (-1)
theorem dI_0 : dI 0 = -1 := rfl
theorem dI_s (r : Nat) : dI (r + 1) = nI r := pk_m1 r
theorem dI_i (r : Nat) : nI r - nI 1 = dI r := by unfold dI; rw [Int32.sub_eq_add_neg]; rfl
theorem dI_d (r : Nat) : nI r + (-1) = dI r := rfl
def othf (N : Nat → Nat) (t q : Nat) : Nat → Option Nat := fun u => if u ≠ t ∧ why (lvN N t q) u q = 0 then some u else none
def oth (N : Nat → Nat) (t q : Nat) : Option Nat := foF (othf N t q) 0 (N 0)
theorem othf_y {t q u : Nat} (h1 : ¬ u = t) (h2 : why (lvN N t q) u q = 0) : othf N t q u = some u := if_pos ⟨h1, h2⟩
theorem othf_1 {t q u : Nat} (h1 : u = t) : othf N t q u = none := if_neg (fun h => h.1 h1)
theorem othf_2 {t q u : Nat} (h2 : ¬ why (lvN N t q) u q = 0) : othf N t q u = none := if_neg (fun h => h2 h.2)
/-- the seats moved back, from the end -/
def rsN (N : Nat → Nat) (t q k : Nat) : Nat → Nat := fun j => if 952 + 9 * q + (6 + k) < j ∧ j ≤ 952 + 9 * q + (6 + (N (952 + 9 * q + 5) - 1)) then N j else lvN N t q j
theorem rsN_0 {t q : Nat} : rsN N t q (N (952 + 9 * q + 5) - 1) = lvN N t q := funext fun j => if_neg (by omega)
theorem rsN_s {t q k : Nat} (ht : t < 16) (hq : q < 10) (h1 : sP N q t ≤ k) (h2 : k < N (952 + 9 * q + 5) - 1) : up (rsN N t q (k + 1)) (952 + 9 * q + (6 + (k + 1))) (rsN N t q (k + 1) (952 + 9 * q + (6 + k))) = rsN N t q k := by
  funext j
  have e : rsN N t q (k + 1) (952 + 9 * q + (6 + k)) = N (952 + 9 * q + (6 + (k + 1))) := by
    unfold rsN
    rw [if_neg (by omega), lvN_6 ht hq, if_pos (by omega)]
  rw [e]
  unfold up rsN
  by_cases h3 : j = 952 + 9 * q + (6 + (k + 1))
  · rw [if_pos h3, if_pos (by omega), h3]
  · rw [if_neg h3]
    by_cases h4 : 952 + 9 * q + (6 + (k + 1)) < j ∧ j ≤ 952 + 9 * q + (6 + (N (952 + 9 * q + 5) - 1))
    · rw [if_pos h4, if_pos (by omega)]
    · rw [if_neg h4, if_neg (by omega)]
theorem rsN_e {t q : Nat} (ht : t < 16) (hq : q < 10) (hs : sP N q t < N (952 + 9 * q + 5)) (hsc : N (8 + 59 * t + (23 + q)) = 0) : up (up (rsN N t q (sP N q t)) (952 + 9 * q + (6 + sP N q t)) t) (952 + 9 * q + 5) (N (952 + 9 * q + 5) - 1 + 1) = N := by
  have hat : N (952 + 9 * q + (6 + sP N q t)) = t := fx_is (f := fun k => N (952 + 9 * q + (6 + k))) hs
  funext j
  unfold up rsN
  by_cases h1 : j = 952 + 9 * q + 5
  · rw [if_pos h1, h1]; omega
  · rw [if_neg h1]
    by_cases h2 : j = 952 + 9 * q + (6 + sP N q t)
    · rw [if_pos h2, h2, hat]
    · rw [if_neg h2]
      by_cases h3 : 952 + 9 * q + (6 + sP N q t) < j ∧ j ≤ 952 + 9 * q + (6 + (N (952 + 9 * q + 5) - 1))
      · rw [if_pos h3]
      · rw [if_neg h3]
        unfold lvN up
        by_cases h4 : j = 8 + 59 * t + (23 + q)
        · rw [if_pos h4, h4, hsc]
        · rw [if_neg h4, if_neg h1]
          exact shN_at (by omega)
set_option maxHeartbeats 2000000 in
theorem m_X11_other (hok : ev_ok sh_S G) (hN : MR N μ) (hI : INV N) {t q : Nat} (ht : t < 16) (hq : q < 10) (hs : sP N q t < N (952 + 9 * q + 5)) (hsc : N (8 + 59 * t + (23 + q)) = 0) : ev_T sh_S G mi_X11_other [.ref 301, .int (nI t), .int (nI q)] μ (.inl (some (.int (oI (oth N t q))), μ)) := by
  have hh := iv_h hI
  have hc := iv_q hI q hq
  have hst := iv_st31 hI hq
  have hL := INV_lv hI ht hq hs
  have e0 : lvN N t q 0 = N 0 := lvN_lo (by omega) (by omega)
  refine ev_triG hok (okM_X11_other 0) (Nat.le_of_ble_eq_true rfl) [(28, [0, 1, 2, 3, 4, 5, 6]), (63, [0, 1, 2, 3, 4, 5, 6])] 400 (fun pc a _ _ => if pc = 28 then a ≤ N 0 else sP N q t ≤ a ∧ a ≤ N (952 + 9 * q + 5) - 1) (fun pc a _ _ => if pc = 28 then [.ref 301, .int (nI t), .int (nI q), .int (nI (sP N q t)), .int (oI (foF (othf N t q) a (N 0 - a))), .int (nI (N (952 + 9 * q + 5) - 1)), .int (dI a)] else [.ref 301, .int (nI t), .int (nI q), .int (nI (sP N q t)), .int (oI (oth N t q)), .int (nI (N (952 + 9 * q + 5) - 1)), .int (nI a)]) (fun pc a _ _ => if pc = 28 then mw μ (lvN N t q) else mw μ (rsN N t q a)) (fun pc a _ _ => if pc = 28 then a + 100 else a) ?_ ?_
  · intro x hx a b c hP
    simp only [List.mem_cons, List.not_mem_nil, or_false] at hx
    rcases hx with rfl | rfl
    · have hP : a ≤ N 0 := hP
      dsimp only
      rw [at_X11_other_28]
      cases a with
      | zero =>
        repeat' (first
          | (with_reducible refine ev_rid ?_; simp (disch := first | omega | assumption) only [ev_run_c, ev_run_n, ev_fj, ev_stp, ev_lk, ev_fv, ev_as, ev_sz, ev_st1, ev_st2, ev_rm, ev_pk, ev_Jof, ev_go, lv_args, List.map_cons, List.map_nil, List.zip_cons_cons, List.zip_nil_left, List.zip_nil_right, List.nil_append, List.cons_append, ↓reduceIte, reduceCtorEq, Int.reduceToNat, Nat.reduceEqDiff, Nat.reduceAdd, Nat.reduceLT, Nat.reduceLeDiff, Nat.reduceMul, Value.category, false_implies, true_and, and_true, Bool.false_eq_true, Option.some.injEq, exists_eq_left', Option.toList_some, Option.toList_none, ev_km, ev_k2, ev_k3, ev_k4, ev_k5, ev_l0, ev_l1, sh_1, sh_2, sh_3, sh_4, sh_5, at_X11_other_28, at_X11_other_53, at_X11_other_59, at_X11_other_63, at_X11_other_97, ca_X11_159, ca_X11_171, ca_X11_180, ca_X11_186, ca_X11_195, cd_X11_other_0, cd_X11_other_28, cd_X11_other_53, cd_X11_other_59, cd_X11_other_63, cd_X11_other_97, fl_X11_9, ev_b_6, no_0, no_1, no_lt, no_le, no_eq, no_lt0, no_ge0, no_gt0, no_le0, no_eq0, no_0eq, no_eqm, no_meq, no_m0, no_mlt, no_mge, no_mgt, no_mm, no_i01, no_i10, no_in, no_or, no_ifm, no_mul, nI_add, no_sub, pk_div, iI_if, nI_clamp, oI_n, oI_s, not_true_eq_false, not_false_eq_true, forall_const, true_implies, false_and, and_false, or_false, false_or, Classical.not_not, true_or, or_true, no_b, no_eq1, eq_self, and_self, sk_301, sk_302, sl_302, sp_301, dI_0])
          | (with_reducible refine ev_gid ?_; simp (disch := first | omega | assumption) only [ev_run_c, ev_run_n, ev_fj, ev_stp, ev_lk, ev_fv, ev_as, ev_sz, ev_st1, ev_st2, ev_rm, ev_pk, ev_Jof, ev_go, lv_args, List.map_cons, List.map_nil, List.zip_cons_cons, List.zip_nil_left, List.zip_nil_right, List.nil_append, List.cons_append, ↓reduceIte, reduceCtorEq, Int.reduceToNat, Nat.reduceEqDiff, Nat.reduceAdd, Nat.reduceLT, Nat.reduceLeDiff, Nat.reduceMul, Value.category, false_implies, true_and, and_true, Bool.false_eq_true, Option.some.injEq, exists_eq_left', Option.toList_some, Option.toList_none, ev_km, ev_k2, ev_k3, ev_k4, ev_k5, ev_l0, ev_l1, sh_1, sh_2, sh_3, sh_4, sh_5, at_X11_other_28, at_X11_other_53, at_X11_other_59, at_X11_other_63, at_X11_other_97, ca_X11_159, ca_X11_171, ca_X11_180, ca_X11_186, ca_X11_195, cd_X11_other_0, cd_X11_other_28, cd_X11_other_53, cd_X11_other_59, cd_X11_other_63, cd_X11_other_97, fl_X11_9, ev_b_6, no_0, no_1, no_lt, no_le, no_eq, no_lt0, no_ge0, no_gt0, no_le0, no_eq0, no_0eq, no_eqm, no_meq, no_m0, no_mlt, no_mge, no_mgt, no_mm, no_i01, no_i10, no_in, no_or, no_ifm, no_mul, nI_add, no_sub, pk_div, iI_if, nI_clamp, oI_n, oI_s, not_true_eq_false, not_false_eq_true, forall_const, true_implies, false_and, and_false, or_false, false_or, Classical.not_not, true_or, or_true, no_b, no_eq1, eq_self, and_self, sk_301, sk_302, sl_302, sp_301, dI_0])
          | (with_reducible refine And.intro (fun q => ?_) (fun q => ?_) <;> (try simp (disch := first | omega | assumption) only [no_0, no_1, no_lt, no_le, no_eq, no_lt0, no_ge0, no_gt0, no_le0, no_eq0, no_0eq, no_eqm, no_meq, no_m0, no_mlt, no_mge, no_mgt, no_mm, no_i01, no_i10, no_in, no_or, no_ifm, no_mul, nI_add, no_sub, pk_div, iI_if, nI_clamp, oI_n, oI_s, not_true_eq_false, not_false_eq_true, forall_const, true_implies, false_and, and_false, or_false, false_or, Classical.not_not, true_or, or_true, no_b, no_eq1, eq_self, and_self, sk_301, sk_302, sl_302, sp_301, dI_0] at q))
          | with_reducible refine ev_ci (m_X11_seatOf hok (by assumption) ?_ ?_ ?_ ?_) ?_
          | with_reducible refine ev_ci (m_X11_leaves hok (by first | assumption | exact mw_R) (by assumption) ?_ ?_ ?_) ?_
          | with_reducible refine ev_ci (m_X11_why hok (by first | assumption | exact mw_R) (by assumption) ?_ ?_) ?_
          | with_reducible refine ev_ci (m_X11_why hok (by assumption) (by assumption) ?_ ?_) ?_
          | with_reducible refine ev_ci (m_X11_ofCake hok (by first | assumption | exact mw_R) ?_ ?_) ?_
          | with_reducible refine ev_ci (m_X11_ofCake hok (by assumption) ?_ ?_) ?_
          | with_reducible refine ev_ci (m_X11_putsCake hok (by first | assumption | exact mw_R) ?_ ?_) ?_
          | omega
          | assumption
          | with_reducible rfl
          | refine lpG_nx (N (952 + 9 * q + 5) - 1) 0 0 ?_ ?_ ?_ ?_
          | exact (congrArg (mw μ) rsN_0).symm
          | with_reducible refine lp_nx ?_ ?_ ?_ ?_
          | with_reducible refine lp_st ?_ ?_ ?_
          | with_reducible refine ls_c ?_ ?_
          | with_reducible refine vi_c ?_
          | with_reducible refine re_c ?_
          | with_reducible refine vz_c ?_
          | with_reducible refine rz_c ?_
          | exact trivial
          | with_reducible refine And.intro ?_ ?_
          | simp (disch := first | omega | assumption) only [ev_run_c, ev_run_n, ev_fj, ev_stp, ev_lk, ev_fv, ev_as, ev_sz, ev_st1, ev_st2, ev_rm, ev_pk, ev_Jof, ev_go, lv_args, List.map_cons, List.map_nil, List.zip_cons_cons, List.zip_nil_left, List.zip_nil_right, List.nil_append, List.cons_append, ↓reduceIte, reduceCtorEq, Int.reduceToNat, Nat.reduceEqDiff, Nat.reduceAdd, Nat.reduceLT, Nat.reduceLeDiff, Nat.reduceMul, Value.category, false_implies, true_and, and_true, Bool.false_eq_true, Option.some.injEq, exists_eq_left', Option.toList_some, Option.toList_none, ev_km, ev_k2, ev_k3, ev_k4, ev_k5, ev_l0, ev_l1, sh_1, sh_2, sh_3, sh_4, sh_5, at_X11_other_28, at_X11_other_53, at_X11_other_59, at_X11_other_63, at_X11_other_97, ca_X11_159, ca_X11_171, ca_X11_180, ca_X11_186, ca_X11_195, cd_X11_other_0, cd_X11_other_28, cd_X11_other_53, cd_X11_other_59, cd_X11_other_63, cd_X11_other_97, fl_X11_9, ev_b_6, no_0, no_1, no_lt, no_le, no_eq, no_lt0, no_ge0, no_gt0, no_le0, no_eq0, no_0eq, no_eqm, no_meq, no_m0, no_mlt, no_mge, no_mgt, no_mm, no_i01, no_i10, no_in, no_or, no_ifm, no_mul, nI_add, no_sub, pk_div, iI_if, nI_clamp, oI_n, oI_s, not_true_eq_false, not_false_eq_true, forall_const, true_implies, false_and, and_false, or_false, false_or, Classical.not_not, true_or, or_true, no_b, no_eq1, eq_self, and_self, sk_301, sk_302, sl_302, sp_301, dI_0]
          | exact rfl
          | (split <;> omega))
      | succ a =>
        have hw := why_le (lvN N t q) a q
        by_cases h1 : a = t
        · subst h1
          have e := foF_n (show a < N 0 by omega) (othf_1 (N := N) (q := q) rfl)
          repeat' (first
            | (with_reducible refine ev_rid ?_; simp (disch := first | omega | assumption) only [ev_run_c, ev_run_n, ev_fj, ev_stp, ev_lk, ev_fv, ev_as, ev_sz, ev_st1, ev_st2, ev_rm, ev_pk, ev_Jof, ev_go, lv_args, List.map_cons, List.map_nil, List.zip_cons_cons, List.zip_nil_left, List.zip_nil_right, List.nil_append, List.cons_append, ↓reduceIte, reduceCtorEq, Int.reduceToNat, Nat.reduceEqDiff, Nat.reduceAdd, Nat.reduceLT, Nat.reduceLeDiff, Nat.reduceMul, Value.category, false_implies, true_and, and_true, Bool.false_eq_true, Option.some.injEq, exists_eq_left', Option.toList_some, Option.toList_none, ev_km, ev_k2, ev_k3, ev_k4, ev_k5, ev_l0, ev_l1, sh_1, sh_2, sh_3, sh_4, sh_5, at_X11_other_28, at_X11_other_53, at_X11_other_59, at_X11_other_63, at_X11_other_97, ca_X11_159, ca_X11_171, ca_X11_180, ca_X11_186, ca_X11_195, cd_X11_other_0, cd_X11_other_28, cd_X11_other_53, cd_X11_other_59, cd_X11_other_63, cd_X11_other_97, fl_X11_9, ev_b_6, no_0, no_1, no_lt, no_le, no_eq, no_lt0, no_ge0, no_gt0, no_le0, no_eq0, no_0eq, no_eqm, no_meq, no_m0, no_mlt, no_mge, no_mgt, no_mm, no_i01, no_i10, no_in, no_or, no_ifm, no_mul, nI_add, no_sub, pk_div, iI_if, nI_clamp, oI_n, oI_s, not_true_eq_false, not_false_eq_true, forall_const, true_implies, false_and, and_false, or_false, false_or, Classical.not_not, true_or, or_true, no_b, no_eq1, eq_self, and_self, sk_301, sk_302, sl_302, sp_301, dI_s, dI_d])
            | (with_reducible refine ev_gid ?_; simp (disch := first | omega | assumption) only [ev_run_c, ev_run_n, ev_fj, ev_stp, ev_lk, ev_fv, ev_as, ev_sz, ev_st1, ev_st2, ev_rm, ev_pk, ev_Jof, ev_go, lv_args, List.map_cons, List.map_nil, List.zip_cons_cons, List.zip_nil_left, List.zip_nil_right, List.nil_append, List.cons_append, ↓reduceIte, reduceCtorEq, Int.reduceToNat, Nat.reduceEqDiff, Nat.reduceAdd, Nat.reduceLT, Nat.reduceLeDiff, Nat.reduceMul, Value.category, false_implies, true_and, and_true, Bool.false_eq_true, Option.some.injEq, exists_eq_left', Option.toList_some, Option.toList_none, ev_km, ev_k2, ev_k3, ev_k4, ev_k5, ev_l0, ev_l1, sh_1, sh_2, sh_3, sh_4, sh_5, at_X11_other_28, at_X11_other_53, at_X11_other_59, at_X11_other_63, at_X11_other_97, ca_X11_159, ca_X11_171, ca_X11_180, ca_X11_186, ca_X11_195, cd_X11_other_0, cd_X11_other_28, cd_X11_other_53, cd_X11_other_59, cd_X11_other_63, cd_X11_other_97, fl_X11_9, ev_b_6, no_0, no_1, no_lt, no_le, no_eq, no_lt0, no_ge0, no_gt0, no_le0, no_eq0, no_0eq, no_eqm, no_meq, no_m0, no_mlt, no_mge, no_mgt, no_mm, no_i01, no_i10, no_in, no_or, no_ifm, no_mul, nI_add, no_sub, pk_div, iI_if, nI_clamp, oI_n, oI_s, not_true_eq_false, not_false_eq_true, forall_const, true_implies, false_and, and_false, or_false, false_or, Classical.not_not, true_or, or_true, no_b, no_eq1, eq_self, and_self, sk_301, sk_302, sl_302, sp_301, dI_s, dI_d])
            | (with_reducible refine And.intro (fun q => ?_) (fun q => ?_) <;> (try simp (disch := first | omega | assumption) only [no_0, no_1, no_lt, no_le, no_eq, no_lt0, no_ge0, no_gt0, no_le0, no_eq0, no_0eq, no_eqm, no_meq, no_m0, no_mlt, no_mge, no_mgt, no_mm, no_i01, no_i10, no_in, no_or, no_ifm, no_mul, nI_add, no_sub, pk_div, iI_if, nI_clamp, oI_n, oI_s, not_true_eq_false, not_false_eq_true, forall_const, true_implies, false_and, and_false, or_false, false_or, Classical.not_not, true_or, or_true, no_b, no_eq1, eq_self, and_self, sk_301, sk_302, sl_302, sp_301, dI_s, dI_d] at q))
            | with_reducible refine ev_ci (m_X11_seatOf hok (by assumption) ?_ ?_ ?_ ?_) ?_
            | with_reducible refine ev_ci (m_X11_leaves hok (by first | assumption | exact mw_R) (by assumption) ?_ ?_ ?_) ?_
            | with_reducible refine ev_ci (m_X11_why hok (by first | assumption | exact mw_R) (by assumption) ?_ ?_) ?_
            | with_reducible refine ev_ci (m_X11_why hok (by assumption) (by assumption) ?_ ?_) ?_
            | with_reducible refine ev_ci (m_X11_ofCake hok (by first | assumption | exact mw_R) ?_ ?_) ?_
            | with_reducible refine ev_ci (m_X11_ofCake hok (by assumption) ?_ ?_) ?_
            | with_reducible refine ev_ci (m_X11_putsCake hok (by first | assumption | exact mw_R) ?_ ?_) ?_
            | omega
            | assumption
            | with_reducible rfl
            | refine lpG_nx a 0 0 ?_ ?_ ?_ ?_
            | (with_reducible refine vo_c ?_; exact e.symm)
            | with_reducible refine lp_nx ?_ ?_ ?_ ?_
            | with_reducible refine lp_st ?_ ?_ ?_
            | with_reducible refine ls_c ?_ ?_
            | with_reducible refine vi_c ?_
            | with_reducible refine re_c ?_
            | with_reducible refine vz_c ?_
            | with_reducible refine rz_c ?_
            | exact trivial
            | with_reducible refine And.intro ?_ ?_
            | simp (disch := first | omega | assumption) only [ev_run_c, ev_run_n, ev_fj, ev_stp, ev_lk, ev_fv, ev_as, ev_sz, ev_st1, ev_st2, ev_rm, ev_pk, ev_Jof, ev_go, lv_args, List.map_cons, List.map_nil, List.zip_cons_cons, List.zip_nil_left, List.zip_nil_right, List.nil_append, List.cons_append, ↓reduceIte, reduceCtorEq, Int.reduceToNat, Nat.reduceEqDiff, Nat.reduceAdd, Nat.reduceLT, Nat.reduceLeDiff, Nat.reduceMul, Value.category, false_implies, true_and, and_true, Bool.false_eq_true, Option.some.injEq, exists_eq_left', Option.toList_some, Option.toList_none, ev_km, ev_k2, ev_k3, ev_k4, ev_k5, ev_l0, ev_l1, sh_1, sh_2, sh_3, sh_4, sh_5, at_X11_other_28, at_X11_other_53, at_X11_other_59, at_X11_other_63, at_X11_other_97, ca_X11_159, ca_X11_171, ca_X11_180, ca_X11_186, ca_X11_195, cd_X11_other_0, cd_X11_other_28, cd_X11_other_53, cd_X11_other_59, cd_X11_other_63, cd_X11_other_97, fl_X11_9, ev_b_6, no_0, no_1, no_lt, no_le, no_eq, no_lt0, no_ge0, no_gt0, no_le0, no_eq0, no_0eq, no_eqm, no_meq, no_m0, no_mlt, no_mge, no_mgt, no_mm, no_i01, no_i10, no_in, no_or, no_ifm, no_mul, nI_add, no_sub, pk_div, iI_if, nI_clamp, oI_n, oI_s, not_true_eq_false, not_false_eq_true, forall_const, true_implies, false_and, and_false, or_false, false_or, Classical.not_not, true_or, or_true, no_b, no_eq1, eq_self, and_self, sk_301, sk_302, sl_302, sp_301, dI_s, dI_d]
            | exact rfl
            | (split <;> omega))
        · by_cases h2 : why (lvN N t q) a q = 0
          · have e := foF_y (show a < N 0 by omega) (othf_y h1 h2)
            repeat' (first
              | (with_reducible refine ev_rid ?_; simp (disch := first | omega | assumption) only [ev_run_c, ev_run_n, ev_fj, ev_stp, ev_lk, ev_fv, ev_as, ev_sz, ev_st1, ev_st2, ev_rm, ev_pk, ev_Jof, ev_go, lv_args, List.map_cons, List.map_nil, List.zip_cons_cons, List.zip_nil_left, List.zip_nil_right, List.nil_append, List.cons_append, ↓reduceIte, reduceCtorEq, Int.reduceToNat, Nat.reduceEqDiff, Nat.reduceAdd, Nat.reduceLT, Nat.reduceLeDiff, Nat.reduceMul, Value.category, false_implies, true_and, and_true, Bool.false_eq_true, Option.some.injEq, exists_eq_left', Option.toList_some, Option.toList_none, ev_km, ev_k2, ev_k3, ev_k4, ev_k5, ev_l0, ev_l1, sh_1, sh_2, sh_3, sh_4, sh_5, at_X11_other_28, at_X11_other_53, at_X11_other_59, at_X11_other_63, at_X11_other_97, ca_X11_159, ca_X11_171, ca_X11_180, ca_X11_186, ca_X11_195, cd_X11_other_0, cd_X11_other_28, cd_X11_other_53, cd_X11_other_59, cd_X11_other_63, cd_X11_other_97, fl_X11_9, ev_b_6, no_0, no_1, no_lt, no_le, no_eq, no_lt0, no_ge0, no_gt0, no_le0, no_eq0, no_0eq, no_eqm, no_meq, no_m0, no_mlt, no_mge, no_mgt, no_mm, no_i01, no_i10, no_in, no_or, no_ifm, no_mul, nI_add, no_sub, pk_div, iI_if, nI_clamp, oI_n, oI_s, not_true_eq_false, not_false_eq_true, forall_const, true_implies, false_and, and_false, or_false, false_or, Classical.not_not, true_or, or_true, no_b, no_eq1, eq_self, and_self, sk_301, sk_302, sl_302, sp_301, dI_s, dI_d, h1, h2])
              | (with_reducible refine ev_gid ?_; simp (disch := first | omega | assumption) only [ev_run_c, ev_run_n, ev_fj, ev_stp, ev_lk, ev_fv, ev_as, ev_sz, ev_st1, ev_st2, ev_rm, ev_pk, ev_Jof, ev_go, lv_args, List.map_cons, List.map_nil, List.zip_cons_cons, List.zip_nil_left, List.zip_nil_right, List.nil_append, List.cons_append, ↓reduceIte, reduceCtorEq, Int.reduceToNat, Nat.reduceEqDiff, Nat.reduceAdd, Nat.reduceLT, Nat.reduceLeDiff, Nat.reduceMul, Value.category, false_implies, true_and, and_true, Bool.false_eq_true, Option.some.injEq, exists_eq_left', Option.toList_some, Option.toList_none, ev_km, ev_k2, ev_k3, ev_k4, ev_k5, ev_l0, ev_l1, sh_1, sh_2, sh_3, sh_4, sh_5, at_X11_other_28, at_X11_other_53, at_X11_other_59, at_X11_other_63, at_X11_other_97, ca_X11_159, ca_X11_171, ca_X11_180, ca_X11_186, ca_X11_195, cd_X11_other_0, cd_X11_other_28, cd_X11_other_53, cd_X11_other_59, cd_X11_other_63, cd_X11_other_97, fl_X11_9, ev_b_6, no_0, no_1, no_lt, no_le, no_eq, no_lt0, no_ge0, no_gt0, no_le0, no_eq0, no_0eq, no_eqm, no_meq, no_m0, no_mlt, no_mge, no_mgt, no_mm, no_i01, no_i10, no_in, no_or, no_ifm, no_mul, nI_add, no_sub, pk_div, iI_if, nI_clamp, oI_n, oI_s, not_true_eq_false, not_false_eq_true, forall_const, true_implies, false_and, and_false, or_false, false_or, Classical.not_not, true_or, or_true, no_b, no_eq1, eq_self, and_self, sk_301, sk_302, sl_302, sp_301, dI_s, dI_d, h1, h2])
              | (with_reducible refine And.intro (fun q => ?_) (fun q => ?_) <;> (try simp (disch := first | omega | assumption) only [no_0, no_1, no_lt, no_le, no_eq, no_lt0, no_ge0, no_gt0, no_le0, no_eq0, no_0eq, no_eqm, no_meq, no_m0, no_mlt, no_mge, no_mgt, no_mm, no_i01, no_i10, no_in, no_or, no_ifm, no_mul, nI_add, no_sub, pk_div, iI_if, nI_clamp, oI_n, oI_s, not_true_eq_false, not_false_eq_true, forall_const, true_implies, false_and, and_false, or_false, false_or, Classical.not_not, true_or, or_true, no_b, no_eq1, eq_self, and_self, sk_301, sk_302, sl_302, sp_301, dI_s, dI_d, h1, h2] at q))
              | with_reducible refine ev_ci (m_X11_seatOf hok (by assumption) ?_ ?_ ?_ ?_) ?_
              | with_reducible refine ev_ci (m_X11_leaves hok (by first | assumption | exact mw_R) (by assumption) ?_ ?_ ?_) ?_
              | with_reducible refine ev_ci (m_X11_why hok (by first | assumption | exact mw_R) (by assumption) ?_ ?_) ?_
              | with_reducible refine ev_ci (m_X11_why hok (by assumption) (by assumption) ?_ ?_) ?_
              | with_reducible refine ev_ci (m_X11_ofCake hok (by first | assumption | exact mw_R) ?_ ?_) ?_
              | with_reducible refine ev_ci (m_X11_ofCake hok (by assumption) ?_ ?_) ?_
              | with_reducible refine ev_ci (m_X11_putsCake hok (by first | assumption | exact mw_R) ?_ ?_) ?_
              | omega
              | assumption
              | with_reducible rfl
              | refine lpG_nx a 0 0 ?_ ?_ ?_ ?_
              | (with_reducible refine vo_s ?_; exact e)
              | with_reducible refine lp_nx ?_ ?_ ?_ ?_
              | with_reducible refine lp_st ?_ ?_ ?_
              | with_reducible refine ls_c ?_ ?_
              | with_reducible refine vi_c ?_
              | with_reducible refine re_c ?_
              | with_reducible refine vz_c ?_
              | with_reducible refine rz_c ?_
              | exact trivial
              | with_reducible refine And.intro ?_ ?_
              | simp (disch := first | omega | assumption) only [ev_run_c, ev_run_n, ev_fj, ev_stp, ev_lk, ev_fv, ev_as, ev_sz, ev_st1, ev_st2, ev_rm, ev_pk, ev_Jof, ev_go, lv_args, List.map_cons, List.map_nil, List.zip_cons_cons, List.zip_nil_left, List.zip_nil_right, List.nil_append, List.cons_append, ↓reduceIte, reduceCtorEq, Int.reduceToNat, Nat.reduceEqDiff, Nat.reduceAdd, Nat.reduceLT, Nat.reduceLeDiff, Nat.reduceMul, Value.category, false_implies, true_and, and_true, Bool.false_eq_true, Option.some.injEq, exists_eq_left', Option.toList_some, Option.toList_none, ev_km, ev_k2, ev_k3, ev_k4, ev_k5, ev_l0, ev_l1, sh_1, sh_2, sh_3, sh_4, sh_5, at_X11_other_28, at_X11_other_53, at_X11_other_59, at_X11_other_63, at_X11_other_97, ca_X11_159, ca_X11_171, ca_X11_180, ca_X11_186, ca_X11_195, cd_X11_other_0, cd_X11_other_28, cd_X11_other_53, cd_X11_other_59, cd_X11_other_63, cd_X11_other_97, fl_X11_9, ev_b_6, no_0, no_1, no_lt, no_le, no_eq, no_lt0, no_ge0, no_gt0, no_le0, no_eq0, no_0eq, no_eqm, no_meq, no_m0, no_mlt, no_mge, no_mgt, no_mm, no_i01, no_i10, no_in, no_or, no_ifm, no_mul, nI_add, no_sub, pk_div, iI_if, nI_clamp, oI_n, oI_s, not_true_eq_false, not_false_eq_true, forall_const, true_implies, false_and, and_false, or_false, false_or, Classical.not_not, true_or, or_true, no_b, no_eq1, eq_self, and_self, sk_301, sk_302, sl_302, sp_301, dI_s, dI_d, h1, h2]
              | (split <;> omega))
          · have e := foF_n (show a < N 0 by omega) (othf_2 (t := t) h2)
            repeat' (first
              | (with_reducible refine ev_rid ?_; simp (disch := first | omega | assumption) only [ev_run_c, ev_run_n, ev_fj, ev_stp, ev_lk, ev_fv, ev_as, ev_sz, ev_st1, ev_st2, ev_rm, ev_pk, ev_Jof, ev_go, lv_args, List.map_cons, List.map_nil, List.zip_cons_cons, List.zip_nil_left, List.zip_nil_right, List.nil_append, List.cons_append, ↓reduceIte, reduceCtorEq, Int.reduceToNat, Nat.reduceEqDiff, Nat.reduceAdd, Nat.reduceLT, Nat.reduceLeDiff, Nat.reduceMul, Value.category, false_implies, true_and, and_true, Bool.false_eq_true, Option.some.injEq, exists_eq_left', Option.toList_some, Option.toList_none, ev_km, ev_k2, ev_k3, ev_k4, ev_k5, ev_l0, ev_l1, sh_1, sh_2, sh_3, sh_4, sh_5, at_X11_other_28, at_X11_other_53, at_X11_other_59, at_X11_other_63, at_X11_other_97, ca_X11_159, ca_X11_171, ca_X11_180, ca_X11_186, ca_X11_195, cd_X11_other_0, cd_X11_other_28, cd_X11_other_53, cd_X11_other_59, cd_X11_other_63, cd_X11_other_97, fl_X11_9, ev_b_6, no_0, no_1, no_lt, no_le, no_eq, no_lt0, no_ge0, no_gt0, no_le0, no_eq0, no_0eq, no_eqm, no_meq, no_m0, no_mlt, no_mge, no_mgt, no_mm, no_i01, no_i10, no_in, no_or, no_ifm, no_mul, nI_add, no_sub, pk_div, iI_if, nI_clamp, oI_n, oI_s, not_true_eq_false, not_false_eq_true, forall_const, true_implies, false_and, and_false, or_false, false_or, Classical.not_not, true_or, or_true, no_b, no_eq1, eq_self, and_self, sk_301, sk_302, sl_302, sp_301, dI_s, dI_d, h1, h2])
              | (with_reducible refine ev_gid ?_; simp (disch := first | omega | assumption) only [ev_run_c, ev_run_n, ev_fj, ev_stp, ev_lk, ev_fv, ev_as, ev_sz, ev_st1, ev_st2, ev_rm, ev_pk, ev_Jof, ev_go, lv_args, List.map_cons, List.map_nil, List.zip_cons_cons, List.zip_nil_left, List.zip_nil_right, List.nil_append, List.cons_append, ↓reduceIte, reduceCtorEq, Int.reduceToNat, Nat.reduceEqDiff, Nat.reduceAdd, Nat.reduceLT, Nat.reduceLeDiff, Nat.reduceMul, Value.category, false_implies, true_and, and_true, Bool.false_eq_true, Option.some.injEq, exists_eq_left', Option.toList_some, Option.toList_none, ev_km, ev_k2, ev_k3, ev_k4, ev_k5, ev_l0, ev_l1, sh_1, sh_2, sh_3, sh_4, sh_5, at_X11_other_28, at_X11_other_53, at_X11_other_59, at_X11_other_63, at_X11_other_97, ca_X11_159, ca_X11_171, ca_X11_180, ca_X11_186, ca_X11_195, cd_X11_other_0, cd_X11_other_28, cd_X11_other_53, cd_X11_other_59, cd_X11_other_63, cd_X11_other_97, fl_X11_9, ev_b_6, no_0, no_1, no_lt, no_le, no_eq, no_lt0, no_ge0, no_gt0, no_le0, no_eq0, no_0eq, no_eqm, no_meq, no_m0, no_mlt, no_mge, no_mgt, no_mm, no_i01, no_i10, no_in, no_or, no_ifm, no_mul, nI_add, no_sub, pk_div, iI_if, nI_clamp, oI_n, oI_s, not_true_eq_false, not_false_eq_true, forall_const, true_implies, false_and, and_false, or_false, false_or, Classical.not_not, true_or, or_true, no_b, no_eq1, eq_self, and_self, sk_301, sk_302, sl_302, sp_301, dI_s, dI_d, h1, h2])
              | (with_reducible refine And.intro (fun q => ?_) (fun q => ?_) <;> (try simp (disch := first | omega | assumption) only [no_0, no_1, no_lt, no_le, no_eq, no_lt0, no_ge0, no_gt0, no_le0, no_eq0, no_0eq, no_eqm, no_meq, no_m0, no_mlt, no_mge, no_mgt, no_mm, no_i01, no_i10, no_in, no_or, no_ifm, no_mul, nI_add, no_sub, pk_div, iI_if, nI_clamp, oI_n, oI_s, not_true_eq_false, not_false_eq_true, forall_const, true_implies, false_and, and_false, or_false, false_or, Classical.not_not, true_or, or_true, no_b, no_eq1, eq_self, and_self, sk_301, sk_302, sl_302, sp_301, dI_s, dI_d, h1, h2] at q))
              | with_reducible refine ev_ci (m_X11_seatOf hok (by assumption) ?_ ?_ ?_ ?_) ?_
              | with_reducible refine ev_ci (m_X11_leaves hok (by first | assumption | exact mw_R) (by assumption) ?_ ?_ ?_) ?_
              | with_reducible refine ev_ci (m_X11_why hok (by first | assumption | exact mw_R) (by assumption) ?_ ?_) ?_
              | with_reducible refine ev_ci (m_X11_why hok (by assumption) (by assumption) ?_ ?_) ?_
              | with_reducible refine ev_ci (m_X11_ofCake hok (by first | assumption | exact mw_R) ?_ ?_) ?_
              | with_reducible refine ev_ci (m_X11_ofCake hok (by assumption) ?_ ?_) ?_
              | with_reducible refine ev_ci (m_X11_putsCake hok (by first | assumption | exact mw_R) ?_ ?_) ?_
              | omega
              | assumption
              | with_reducible rfl
              | refine lpG_nx a 0 0 ?_ ?_ ?_ ?_
              | (with_reducible refine vo_c ?_; exact e.symm)
              | with_reducible refine lp_nx ?_ ?_ ?_ ?_
              | with_reducible refine lp_st ?_ ?_ ?_
              | with_reducible refine ls_c ?_ ?_
              | with_reducible refine vi_c ?_
              | with_reducible refine re_c ?_
              | with_reducible refine vz_c ?_
              | with_reducible refine rz_c ?_
              | exact trivial
              | with_reducible refine And.intro ?_ ?_
              | simp (disch := first | omega | assumption) only [ev_run_c, ev_run_n, ev_fj, ev_stp, ev_lk, ev_fv, ev_as, ev_sz, ev_st1, ev_st2, ev_rm, ev_pk, ev_Jof, ev_go, lv_args, List.map_cons, List.map_nil, List.zip_cons_cons, List.zip_nil_left, List.zip_nil_right, List.nil_append, List.cons_append, ↓reduceIte, reduceCtorEq, Int.reduceToNat, Nat.reduceEqDiff, Nat.reduceAdd, Nat.reduceLT, Nat.reduceLeDiff, Nat.reduceMul, Value.category, false_implies, true_and, and_true, Bool.false_eq_true, Option.some.injEq, exists_eq_left', Option.toList_some, Option.toList_none, ev_km, ev_k2, ev_k3, ev_k4, ev_k5, ev_l0, ev_l1, sh_1, sh_2, sh_3, sh_4, sh_5, at_X11_other_28, at_X11_other_53, at_X11_other_59, at_X11_other_63, at_X11_other_97, ca_X11_159, ca_X11_171, ca_X11_180, ca_X11_186, ca_X11_195, cd_X11_other_0, cd_X11_other_28, cd_X11_other_53, cd_X11_other_59, cd_X11_other_63, cd_X11_other_97, fl_X11_9, ev_b_6, no_0, no_1, no_lt, no_le, no_eq, no_lt0, no_ge0, no_gt0, no_le0, no_eq0, no_0eq, no_eqm, no_meq, no_m0, no_mlt, no_mge, no_mgt, no_mm, no_i01, no_i10, no_in, no_or, no_ifm, no_mul, nI_add, no_sub, pk_div, iI_if, nI_clamp, oI_n, oI_s, not_true_eq_false, not_false_eq_true, forall_const, true_implies, false_and, and_false, or_false, false_or, Classical.not_not, true_or, or_true, no_b, no_eq1, eq_self, and_self, sk_301, sk_302, sl_302, sp_301, dI_s, dI_d, h1, h2]
              | exact rfl
              | (split <;> omega))
    · have hP : sP N q t ≤ a ∧ a ≤ N (952 + 9 * q + 5) - 1 := hP
      dsimp only
      rw [at_X11_other_63]
      rcases Nat.lt_or_ge (sP N q t) a with h1 | h1
      · obtain ⟨a, rfl⟩ : ∃ r, a = r + 1 := ⟨a - 1, by omega⟩
        have e := rsN_s (N := N) ht hq (show sP N q t ≤ a by omega) (by omega)
        have e2 : 6 + (a + 1) - 1 = 6 + a := by omega
        repeat' (first
          | (with_reducible refine ev_rid ?_; simp (disch := first | omega | assumption) only [ev_run_c, ev_run_n, ev_fj, ev_stp, ev_lk, ev_fv, ev_as, ev_sz, ev_st1, ev_st2, ev_rm, ev_pk, ev_Jof, ev_go, lv_args, List.map_cons, List.map_nil, List.zip_cons_cons, List.zip_nil_left, List.zip_nil_right, List.nil_append, List.cons_append, ↓reduceIte, reduceCtorEq, Int.reduceToNat, Nat.reduceEqDiff, Nat.reduceAdd, Nat.reduceLT, Nat.reduceLeDiff, Nat.reduceMul, Value.category, false_implies, true_and, and_true, Bool.false_eq_true, Option.some.injEq, exists_eq_left', Option.toList_some, Option.toList_none, ev_km, ev_k2, ev_k3, ev_k4, ev_k5, ev_l0, ev_l1, sh_1, sh_2, sh_3, sh_4, sh_5, at_X11_other_28, at_X11_other_53, at_X11_other_59, at_X11_other_63, at_X11_other_97, ca_X11_159, ca_X11_171, ca_X11_180, ca_X11_186, ca_X11_195, cd_X11_other_0, cd_X11_other_28, cd_X11_other_53, cd_X11_other_59, cd_X11_other_63, cd_X11_other_97, fl_X11_9, ev_b_6, no_0, no_1, no_lt, no_le, no_eq, no_lt0, no_ge0, no_gt0, no_le0, no_eq0, no_0eq, no_eqm, no_meq, no_m0, no_mlt, no_mge, no_mgt, no_mm, no_i01, no_i10, no_in, no_or, no_ifm, no_mul, nI_add, no_sub, pk_div, iI_if, nI_clamp, oI_n, oI_s, not_true_eq_false, not_false_eq_true, forall_const, true_implies, false_and, and_false, or_false, false_or, Classical.not_not, true_or, or_true, no_b, no_eq1, eq_self, and_self, sk_301, sk_302, sl_302, sp_301, mw_mw, pk_m1, e2, e])
          | (with_reducible refine ev_gid ?_; simp (disch := first | omega | assumption) only [ev_run_c, ev_run_n, ev_fj, ev_stp, ev_lk, ev_fv, ev_as, ev_sz, ev_st1, ev_st2, ev_rm, ev_pk, ev_Jof, ev_go, lv_args, List.map_cons, List.map_nil, List.zip_cons_cons, List.zip_nil_left, List.zip_nil_right, List.nil_append, List.cons_append, ↓reduceIte, reduceCtorEq, Int.reduceToNat, Nat.reduceEqDiff, Nat.reduceAdd, Nat.reduceLT, Nat.reduceLeDiff, Nat.reduceMul, Value.category, false_implies, true_and, and_true, Bool.false_eq_true, Option.some.injEq, exists_eq_left', Option.toList_some, Option.toList_none, ev_km, ev_k2, ev_k3, ev_k4, ev_k5, ev_l0, ev_l1, sh_1, sh_2, sh_3, sh_4, sh_5, at_X11_other_28, at_X11_other_53, at_X11_other_59, at_X11_other_63, at_X11_other_97, ca_X11_159, ca_X11_171, ca_X11_180, ca_X11_186, ca_X11_195, cd_X11_other_0, cd_X11_other_28, cd_X11_other_53, cd_X11_other_59, cd_X11_other_63, cd_X11_other_97, fl_X11_9, ev_b_6, no_0, no_1, no_lt, no_le, no_eq, no_lt0, no_ge0, no_gt0, no_le0, no_eq0, no_0eq, no_eqm, no_meq, no_m0, no_mlt, no_mge, no_mgt, no_mm, no_i01, no_i10, no_in, no_or, no_ifm, no_mul, nI_add, no_sub, pk_div, iI_if, nI_clamp, oI_n, oI_s, not_true_eq_false, not_false_eq_true, forall_const, true_implies, false_and, and_false, or_false, false_or, Classical.not_not, true_or, or_true, no_b, no_eq1, eq_self, and_self, sk_301, sk_302, sl_302, sp_301, mw_mw, pk_m1, e2, e])
          | (with_reducible refine And.intro (fun q => ?_) (fun q => ?_) <;> (try simp (disch := first | omega | assumption) only [no_0, no_1, no_lt, no_le, no_eq, no_lt0, no_ge0, no_gt0, no_le0, no_eq0, no_0eq, no_eqm, no_meq, no_m0, no_mlt, no_mge, no_mgt, no_mm, no_i01, no_i10, no_in, no_or, no_ifm, no_mul, nI_add, no_sub, pk_div, iI_if, nI_clamp, oI_n, oI_s, not_true_eq_false, not_false_eq_true, forall_const, true_implies, false_and, and_false, or_false, false_or, Classical.not_not, true_or, or_true, no_b, no_eq1, eq_self, and_self, sk_301, sk_302, sl_302, sp_301, mw_mw, pk_m1, e2, e] at q))
          | with_reducible refine ev_ci (m_X11_seatOf hok (by assumption) ?_ ?_ ?_ ?_) ?_
          | with_reducible refine ev_ci (m_X11_leaves hok (by first | assumption | exact mw_R) (by assumption) ?_ ?_ ?_) ?_
          | with_reducible refine ev_ci (m_X11_why hok (by first | assumption | exact mw_R) (by assumption) ?_ ?_) ?_
          | with_reducible refine ev_ci (m_X11_why hok (by assumption) (by assumption) ?_ ?_) ?_
          | with_reducible refine ev_ci (m_X11_ofCake hok (by first | assumption | exact mw_R) ?_ ?_) ?_
          | with_reducible refine ev_ci (m_X11_ofCake hok (by assumption) ?_ ?_) ?_
          | with_reducible refine ev_ci (m_X11_putsCake hok (by first | assumption | exact mw_R) ?_ ?_) ?_
          | omega
          | assumption
          | with_reducible rfl
          | refine lpG_nx a 0 0 ?_ ?_ ?_ ?_
          | with_reducible refine lp_nx ?_ ?_ ?_ ?_
          | with_reducible refine lp_st ?_ ?_ ?_
          | with_reducible refine ls_c ?_ ?_
          | with_reducible refine vi_c ?_
          | with_reducible refine re_c ?_
          | with_reducible refine vz_c ?_
          | with_reducible refine rz_c ?_
          | exact trivial
          | with_reducible refine And.intro ?_ ?_
          | simp (disch := first | omega | assumption) only [ev_run_c, ev_run_n, ev_fj, ev_stp, ev_lk, ev_fv, ev_as, ev_sz, ev_st1, ev_st2, ev_rm, ev_pk, ev_Jof, ev_go, lv_args, List.map_cons, List.map_nil, List.zip_cons_cons, List.zip_nil_left, List.zip_nil_right, List.nil_append, List.cons_append, ↓reduceIte, reduceCtorEq, Int.reduceToNat, Nat.reduceEqDiff, Nat.reduceAdd, Nat.reduceLT, Nat.reduceLeDiff, Nat.reduceMul, Value.category, false_implies, true_and, and_true, Bool.false_eq_true, Option.some.injEq, exists_eq_left', Option.toList_some, Option.toList_none, ev_km, ev_k2, ev_k3, ev_k4, ev_k5, ev_l0, ev_l1, sh_1, sh_2, sh_3, sh_4, sh_5, at_X11_other_28, at_X11_other_53, at_X11_other_59, at_X11_other_63, at_X11_other_97, ca_X11_159, ca_X11_171, ca_X11_180, ca_X11_186, ca_X11_195, cd_X11_other_0, cd_X11_other_28, cd_X11_other_53, cd_X11_other_59, cd_X11_other_63, cd_X11_other_97, fl_X11_9, ev_b_6, no_0, no_1, no_lt, no_le, no_eq, no_lt0, no_ge0, no_gt0, no_le0, no_eq0, no_0eq, no_eqm, no_meq, no_m0, no_mlt, no_mge, no_mgt, no_mm, no_i01, no_i10, no_in, no_or, no_ifm, no_mul, nI_add, no_sub, pk_div, iI_if, nI_clamp, oI_n, oI_s, not_true_eq_false, not_false_eq_true, forall_const, true_implies, false_and, and_false, or_false, false_or, Classical.not_not, true_or, or_true, no_b, no_eq1, eq_self, and_self, sk_301, sk_302, sl_302, sp_301, mw_mw, pk_m1, e2, e]
          | exact rfl
          | (split <;> omega))
      · have e3 : a = sP N q t := by omega
        subst e3
        have e := rsN_e ht hq hs hsc
        repeat' (first
          | (with_reducible refine ev_rid ?_; simp (disch := first | omega | assumption) only [ev_run_c, ev_run_n, ev_fj, ev_stp, ev_lk, ev_fv, ev_as, ev_sz, ev_st1, ev_st2, ev_rm, ev_pk, ev_Jof, ev_go, lv_args, List.map_cons, List.map_nil, List.zip_cons_cons, List.zip_nil_left, List.zip_nil_right, List.nil_append, List.cons_append, ↓reduceIte, reduceCtorEq, Int.reduceToNat, Nat.reduceEqDiff, Nat.reduceAdd, Nat.reduceLT, Nat.reduceLeDiff, Nat.reduceMul, Value.category, false_implies, true_and, and_true, Bool.false_eq_true, Option.some.injEq, exists_eq_left', Option.toList_some, Option.toList_none, ev_km, ev_k2, ev_k3, ev_k4, ev_k5, ev_l0, ev_l1, sh_1, sh_2, sh_3, sh_4, sh_5, at_X11_other_28, at_X11_other_53, at_X11_other_59, at_X11_other_63, at_X11_other_97, ca_X11_159, ca_X11_171, ca_X11_180, ca_X11_186, ca_X11_195, cd_X11_other_0, cd_X11_other_28, cd_X11_other_53, cd_X11_other_59, cd_X11_other_63, cd_X11_other_97, fl_X11_9, ev_b_6, no_0, no_1, no_lt, no_le, no_eq, no_lt0, no_ge0, no_gt0, no_le0, no_eq0, no_0eq, no_eqm, no_meq, no_m0, no_mlt, no_mge, no_mgt, no_mm, no_i01, no_i10, no_in, no_or, no_ifm, no_mul, nI_add, no_sub, pk_div, iI_if, nI_clamp, oI_n, oI_s, not_true_eq_false, not_false_eq_true, forall_const, true_implies, false_and, and_false, or_false, false_or, Classical.not_not, true_or, or_true, no_b, no_eq1, eq_self, and_self, sk_301, sk_302, sl_302, sp_301, mw_mw, e, mw_self hN])
          | (with_reducible refine ev_gid ?_; simp (disch := first | omega | assumption) only [ev_run_c, ev_run_n, ev_fj, ev_stp, ev_lk, ev_fv, ev_as, ev_sz, ev_st1, ev_st2, ev_rm, ev_pk, ev_Jof, ev_go, lv_args, List.map_cons, List.map_nil, List.zip_cons_cons, List.zip_nil_left, List.zip_nil_right, List.nil_append, List.cons_append, ↓reduceIte, reduceCtorEq, Int.reduceToNat, Nat.reduceEqDiff, Nat.reduceAdd, Nat.reduceLT, Nat.reduceLeDiff, Nat.reduceMul, Value.category, false_implies, true_and, and_true, Bool.false_eq_true, Option.some.injEq, exists_eq_left', Option.toList_some, Option.toList_none, ev_km, ev_k2, ev_k3, ev_k4, ev_k5, ev_l0, ev_l1, sh_1, sh_2, sh_3, sh_4, sh_5, at_X11_other_28, at_X11_other_53, at_X11_other_59, at_X11_other_63, at_X11_other_97, ca_X11_159, ca_X11_171, ca_X11_180, ca_X11_186, ca_X11_195, cd_X11_other_0, cd_X11_other_28, cd_X11_other_53, cd_X11_other_59, cd_X11_other_63, cd_X11_other_97, fl_X11_9, ev_b_6, no_0, no_1, no_lt, no_le, no_eq, no_lt0, no_ge0, no_gt0, no_le0, no_eq0, no_0eq, no_eqm, no_meq, no_m0, no_mlt, no_mge, no_mgt, no_mm, no_i01, no_i10, no_in, no_or, no_ifm, no_mul, nI_add, no_sub, pk_div, iI_if, nI_clamp, oI_n, oI_s, not_true_eq_false, not_false_eq_true, forall_const, true_implies, false_and, and_false, or_false, false_or, Classical.not_not, true_or, or_true, no_b, no_eq1, eq_self, and_self, sk_301, sk_302, sl_302, sp_301, mw_mw, e, mw_self hN])
          | (with_reducible refine And.intro (fun q => ?_) (fun q => ?_) <;> (try simp (disch := first | omega | assumption) only [no_0, no_1, no_lt, no_le, no_eq, no_lt0, no_ge0, no_gt0, no_le0, no_eq0, no_0eq, no_eqm, no_meq, no_m0, no_mlt, no_mge, no_mgt, no_mm, no_i01, no_i10, no_in, no_or, no_ifm, no_mul, nI_add, no_sub, pk_div, iI_if, nI_clamp, oI_n, oI_s, not_true_eq_false, not_false_eq_true, forall_const, true_implies, false_and, and_false, or_false, false_or, Classical.not_not, true_or, or_true, no_b, no_eq1, eq_self, and_self, sk_301, sk_302, sl_302, sp_301, mw_mw, e, mw_self hN] at q))
          | with_reducible refine ev_ci (m_X11_seatOf hok (by assumption) ?_ ?_ ?_ ?_) ?_
          | with_reducible refine ev_ci (m_X11_leaves hok (by first | assumption | exact mw_R) (by assumption) ?_ ?_ ?_) ?_
          | with_reducible refine ev_ci (m_X11_why hok (by first | assumption | exact mw_R) (by assumption) ?_ ?_) ?_
          | with_reducible refine ev_ci (m_X11_why hok (by assumption) (by assumption) ?_ ?_) ?_
          | with_reducible refine ev_ci (m_X11_ofCake hok (by first | assumption | exact mw_R) ?_ ?_) ?_
          | with_reducible refine ev_ci (m_X11_ofCake hok (by assumption) ?_ ?_) ?_
          | with_reducible refine ev_ci (m_X11_putsCake hok (by first | assumption | exact mw_R) ?_ ?_) ?_
          | omega
          | assumption
          | with_reducible rfl
          | with_reducible refine lp_nx ?_ ?_ ?_ ?_
          | with_reducible refine lp_st ?_ ?_ ?_
          | with_reducible refine ls_c ?_ ?_
          | with_reducible refine vi_c ?_
          | with_reducible refine re_c ?_
          | with_reducible refine vz_c ?_
          | with_reducible refine rz_c ?_
          | exact trivial
          | with_reducible refine And.intro ?_ ?_
          | simp (disch := first | omega | assumption) only [ev_run_c, ev_run_n, ev_fj, ev_stp, ev_lk, ev_fv, ev_as, ev_sz, ev_st1, ev_st2, ev_rm, ev_pk, ev_Jof, ev_go, lv_args, List.map_cons, List.map_nil, List.zip_cons_cons, List.zip_nil_left, List.zip_nil_right, List.nil_append, List.cons_append, ↓reduceIte, reduceCtorEq, Int.reduceToNat, Nat.reduceEqDiff, Nat.reduceAdd, Nat.reduceLT, Nat.reduceLeDiff, Nat.reduceMul, Value.category, false_implies, true_and, and_true, Bool.false_eq_true, Option.some.injEq, exists_eq_left', Option.toList_some, Option.toList_none, ev_km, ev_k2, ev_k3, ev_k4, ev_k5, ev_l0, ev_l1, sh_1, sh_2, sh_3, sh_4, sh_5, at_X11_other_28, at_X11_other_53, at_X11_other_59, at_X11_other_63, at_X11_other_97, ca_X11_159, ca_X11_171, ca_X11_180, ca_X11_186, ca_X11_195, cd_X11_other_0, cd_X11_other_28, cd_X11_other_53, cd_X11_other_59, cd_X11_other_63, cd_X11_other_97, fl_X11_9, ev_b_6, no_0, no_1, no_lt, no_le, no_eq, no_lt0, no_ge0, no_gt0, no_le0, no_eq0, no_0eq, no_eqm, no_meq, no_m0, no_mlt, no_mge, no_mgt, no_mm, no_i01, no_i10, no_in, no_or, no_ifm, no_mul, nI_add, no_sub, pk_div, iI_if, nI_clamp, oI_n, oI_s, not_true_eq_false, not_false_eq_true, forall_const, true_implies, false_and, and_false, or_false, false_or, Classical.not_not, true_or, or_true, no_b, no_eq1, eq_self, and_self, sk_301, sk_302, sl_302, sp_301, mw_mw, e, mw_self hN]
          | exact rfl
          | (split <;> omega))
  · rw [at_X11_other_0]
    repeat' (first
      | (with_reducible refine ev_rid ?_; simp (disch := first | omega | assumption) only [ev_run_c, ev_run_n, ev_fj, ev_stp, ev_lk, ev_fv, ev_as, ev_sz, ev_st1, ev_st2, ev_rm, ev_pk, ev_Jof, ev_go, lv_args, List.map_cons, List.map_nil, List.zip_cons_cons, List.zip_nil_left, List.zip_nil_right, List.nil_append, List.cons_append, ↓reduceIte, reduceCtorEq, Int.reduceToNat, Nat.reduceEqDiff, Nat.reduceAdd, Nat.reduceLT, Nat.reduceLeDiff, Nat.reduceMul, Value.category, false_implies, true_and, and_true, Bool.false_eq_true, Option.some.injEq, exists_eq_left', Option.toList_some, Option.toList_none, ev_km, ev_k2, ev_k3, ev_k4, ev_k5, ev_l0, ev_l1, sh_1, sh_2, sh_3, sh_4, sh_5, at_X11_other_28, at_X11_other_53, at_X11_other_59, at_X11_other_63, at_X11_other_97, ca_X11_159, ca_X11_171, ca_X11_180, ca_X11_186, ca_X11_195, cd_X11_other_0, cd_X11_other_28, cd_X11_other_53, cd_X11_other_59, cd_X11_other_63, cd_X11_other_97, fl_X11_9, ev_b_6, no_0, no_1, no_lt, no_le, no_eq, no_lt0, no_ge0, no_gt0, no_le0, no_eq0, no_0eq, no_eqm, no_meq, no_m0, no_mlt, no_mge, no_mgt, no_mm, no_i01, no_i10, no_in, no_or, no_ifm, no_mul, nI_add, no_sub, pk_div, iI_if, nI_clamp, oI_n, oI_s, not_true_eq_false, not_false_eq_true, forall_const, true_implies, false_and, and_false, or_false, false_or, Classical.not_not, true_or, or_true, no_b, no_eq1, eq_self, and_self, sk_301, sk_302, sl_302, sp_301, hs, dI_i, mw_302, e0])
      | (with_reducible refine ev_gid ?_; simp (disch := first | omega | assumption) only [ev_run_c, ev_run_n, ev_fj, ev_stp, ev_lk, ev_fv, ev_as, ev_sz, ev_st1, ev_st2, ev_rm, ev_pk, ev_Jof, ev_go, lv_args, List.map_cons, List.map_nil, List.zip_cons_cons, List.zip_nil_left, List.zip_nil_right, List.nil_append, List.cons_append, ↓reduceIte, reduceCtorEq, Int.reduceToNat, Nat.reduceEqDiff, Nat.reduceAdd, Nat.reduceLT, Nat.reduceLeDiff, Nat.reduceMul, Value.category, false_implies, true_and, and_true, Bool.false_eq_true, Option.some.injEq, exists_eq_left', Option.toList_some, Option.toList_none, ev_km, ev_k2, ev_k3, ev_k4, ev_k5, ev_l0, ev_l1, sh_1, sh_2, sh_3, sh_4, sh_5, at_X11_other_28, at_X11_other_53, at_X11_other_59, at_X11_other_63, at_X11_other_97, ca_X11_159, ca_X11_171, ca_X11_180, ca_X11_186, ca_X11_195, cd_X11_other_0, cd_X11_other_28, cd_X11_other_53, cd_X11_other_59, cd_X11_other_63, cd_X11_other_97, fl_X11_9, ev_b_6, no_0, no_1, no_lt, no_le, no_eq, no_lt0, no_ge0, no_gt0, no_le0, no_eq0, no_0eq, no_eqm, no_meq, no_m0, no_mlt, no_mge, no_mgt, no_mm, no_i01, no_i10, no_in, no_or, no_ifm, no_mul, nI_add, no_sub, pk_div, iI_if, nI_clamp, oI_n, oI_s, not_true_eq_false, not_false_eq_true, forall_const, true_implies, false_and, and_false, or_false, false_or, Classical.not_not, true_or, or_true, no_b, no_eq1, eq_self, and_self, sk_301, sk_302, sl_302, sp_301, hs, dI_i, mw_302, e0])
      | (with_reducible refine And.intro (fun q => ?_) (fun q => ?_) <;> (try simp (disch := first | omega | assumption) only [no_0, no_1, no_lt, no_le, no_eq, no_lt0, no_ge0, no_gt0, no_le0, no_eq0, no_0eq, no_eqm, no_meq, no_m0, no_mlt, no_mge, no_mgt, no_mm, no_i01, no_i10, no_in, no_or, no_ifm, no_mul, nI_add, no_sub, pk_div, iI_if, nI_clamp, oI_n, oI_s, not_true_eq_false, not_false_eq_true, forall_const, true_implies, false_and, and_false, or_false, false_or, Classical.not_not, true_or, or_true, no_b, no_eq1, eq_self, and_self, sk_301, sk_302, sl_302, sp_301, hs, dI_i, mw_302, e0] at q))
      | with_reducible refine ev_ci (m_X11_seatOf hok (by assumption) ?_ ?_ ?_ ?_) ?_
      | with_reducible refine ev_ci (m_X11_leaves hok (by first | assumption | exact mw_R) (by assumption) ?_ ?_ ?_) ?_
      | with_reducible refine ev_ci (m_X11_why hok (by first | assumption | exact mw_R) (by assumption) ?_ ?_) ?_
      | with_reducible refine ev_ci (m_X11_why hok (by assumption) (by assumption) ?_ ?_) ?_
      | with_reducible refine ev_ci (m_X11_ofCake hok (by first | assumption | exact mw_R) ?_ ?_) ?_
      | with_reducible refine ev_ci (m_X11_ofCake hok (by assumption) ?_ ?_) ?_
      | with_reducible refine ev_ci (m_X11_putsCake hok (by first | assumption | exact mw_R) ?_ ?_) ?_
      | omega
      | assumption
      | with_reducible rfl
      | refine lpG_st (N 0) 0 0 ?_ ?_ ?_
      | exact hst
      | (refine vo_n ?_; exact foF_e (Nat.le_refl _))
      | exact Nat.le_refl _
      | with_reducible refine lp_nx ?_ ?_ ?_ ?_
      | with_reducible refine lp_st ?_ ?_ ?_
      | with_reducible refine ls_c ?_ ?_
      | with_reducible refine vi_c ?_
      | with_reducible refine re_c ?_
      | with_reducible refine vz_c ?_
      | with_reducible refine rz_c ?_
      | exact trivial
      | with_reducible refine And.intro ?_ ?_
      | simp (disch := first | omega | assumption) only [ev_run_c, ev_run_n, ev_fj, ev_stp, ev_lk, ev_fv, ev_as, ev_sz, ev_st1, ev_st2, ev_rm, ev_pk, ev_Jof, ev_go, lv_args, List.map_cons, List.map_nil, List.zip_cons_cons, List.zip_nil_left, List.zip_nil_right, List.nil_append, List.cons_append, ↓reduceIte, reduceCtorEq, Int.reduceToNat, Nat.reduceEqDiff, Nat.reduceAdd, Nat.reduceLT, Nat.reduceLeDiff, Nat.reduceMul, Value.category, false_implies, true_and, and_true, Bool.false_eq_true, Option.some.injEq, exists_eq_left', Option.toList_some, Option.toList_none, ev_km, ev_k2, ev_k3, ev_k4, ev_k5, ev_l0, ev_l1, sh_1, sh_2, sh_3, sh_4, sh_5, at_X11_other_28, at_X11_other_53, at_X11_other_59, at_X11_other_63, at_X11_other_97, ca_X11_159, ca_X11_171, ca_X11_180, ca_X11_186, ca_X11_195, cd_X11_other_0, cd_X11_other_28, cd_X11_other_53, cd_X11_other_59, cd_X11_other_63, cd_X11_other_97, fl_X11_9, ev_b_6, no_0, no_1, no_lt, no_le, no_eq, no_lt0, no_ge0, no_gt0, no_le0, no_eq0, no_0eq, no_eqm, no_meq, no_m0, no_mlt, no_mge, no_mgt, no_mm, no_i01, no_i10, no_in, no_or, no_ifm, no_mul, nI_add, no_sub, pk_div, iI_if, nI_clamp, oI_n, oI_s, not_true_eq_false, not_false_eq_true, forall_const, true_implies, false_and, and_false, or_false, false_or, Classical.not_not, true_or, or_true, no_b, no_eq1, eq_self, and_self, sk_301, sk_302, sl_302, sp_301, hs, dI_i, mw_302, e0]
      | exact rfl
      | (split <;> omega))
/-- one move -/
def mvN (N : Nat → Nat) (t p q u : Nat) : Nat → Nat := up (up (stN (stN (lvN N t q) u q) t p) 4 (N 4 + 2)) 5 (N 5 + 1)
def mvq (N : Nat → Nat) (t p : Nat) : Nat → Option (Nat → Nat) := fun q => if q ≠ p ∧ sP N q t < N (952 + 9 * q + 5) ∧ N (8 + 59 * t + (23 + q)) = 0 then (match oth N t q with
  | none => none
  | some u => some (mvN N t p q u)) else none
theorem mvq_0 {t p q : Nat} (h : ¬ (q ≠ p ∧ sP N q t < N (952 + 9 * q + 5) ∧ N (8 + 59 * t + (23 + q)) = 0)) : mvq N t p q = none := if_neg h
theorem mvq_1 {t p q : Nat} (h : q ≠ p ∧ sP N q t < N (952 + 9 * q + 5) ∧ N (8 + 59 * t + (23 + q)) = 0) (h2 : oth N t q = none) : mvq N t p q = none := by unfold mvq; rw [if_pos h, h2]
theorem mvq_2 {t p q u : Nat} (h : q ≠ p ∧ sP N q t < N (952 + 9 * q + 5) ∧ N (8 + 59 * t + (23 + q)) = 0) (h2 : oth N t q = some u) : mvq N t p q = some (mvN N t p q u) := by unfold mvq; rw [if_pos h, h2]
def mvf (N : Nat → Nat) (t p : Nat) : Option (Nat → Nat) := foF (mvq N t p) 0 (N 1)
def mvs (N : Nat → Nat) (p : Nat) : Option (Nat → Nat) := foF (fun t => if why N t p = 5 then mvf N t p else none) 0 (N 0)
/-- an answer with a row that may be new -/
def mvR (μ : ev_M) : Option (Nat → Nat) → ev_R
  | none => .inl (some (.int (nI 0)), μ)
  | some N' => .inl (some (.int (nI 1)), mw μ N')
theorem INV_ag {N' : Nat → Nat} (hI : INV N) (h : ∀ k, k < 4 ∨ 8 ≤ k → N' k = N k) : INV N' := by
  have h8 : ∀ k, 8 ≤ k → N' k = N k := fun k hk => h k (Or.inr hk)
  have e0 := h 0 (by omega)
  have e1 := h 1 (by omega)
  have esP : ∀ q i, sP N' q i = sP N q i := fun q i => by
    unfold sP
    rw [h8 (952 + 9 * q + 5) (by omega)]
    exact fx_ext fun k _ => h8 _ (by omega)
  refine ⟨by rw [e0, e1, h 2 (by omega), h 3 (by omega)]; exact iv_h hI, ?_, ?_, ?_, ?_, ?_, ?_, ?_, ?_, ?_, ?_, ?_, ?_, ?_, ?_, ?_⟩
  · intro k hk; rw [h8 k hk]; exact iv_b hI k hk
  · intro q hq; rw [h8 _ (by omega), h8 _ (by omega), h8 _ (by omega)]; exact iv_q hI q hq
  · intro q k hq hk; rw [h8 _ (by omega)] at hk; rw [h8 _ (by omega), e0]; exact iv_ck hI q k hq hk
  · intro q k hq hk; rw [h8 _ (by omega)] at hk; rw [h8 _ (by omega), e0]; exact iv_st hI q k hq hk
  · intro q k l hq hkl hl; rw [h8 _ (by omega)] at hl; rw [h8 _ (by omega), h8 _ (by omega)]; exact iv_di hI q k l hq hkl hl
  · intro i hi; rw [h8 _ (by omega), h8 _ (by omega)]; exact iv_p hI i hi
  · intro i t hi ht; rw [h8 _ (by omega)]; exact iv_t hI i t hi ht
  · intro i q hi hq; rw [h8 _ (by omega), h8 _ (by omega), h8 _ (by omega)]; exact iv_pq hI i q hi hq
  · intro i j hi hj; rw [h8 _ (by omega)]; exact iv_w hI i j hi hj
  · intro i w h1 hi hw; rw [e0] at h1; rw [h8 _ (by omega)]; exact iv_z1 hI i w h1 hi hw
  · intro q w h1 hq hw; rw [e1] at h1; rw [h8 _ (by omega)]; exact iv_z2 hI q w h1 hq hw
  · intro i q hi h1 hq; rw [e1] at h1; rw [h8 _ (by omega), h8 _ (by omega), h8 _ (by omega)]; exact iv_z3 hI i q hi h1 hq
  · intro i q hi hq h1; rw [h8 _ (by omega)] at h1; rw [esP, h8 _ (by omega)]; exact iv_sc hI i q hi hq h1
  · intro q k hq hk; rw [h8 _ (by omega)] at hk; rw [h8 _ (by omega), h8 (952 + 9 * q + (6 + k)) (by omega)]; exact iv_ts hI q k hq hk
  · intro i k hi; rw [e0] at hi; rw [h8 _ (by omega), h8 _ (by omega)]; exact iv_nm hI i k hi
theorem why_0 {i q : Nat} (h : why N i q = 0) : N (8 + 59 * i + 1) ≠ 0 ∧ ¬ sP N q i < N (952 + 9 * q + 5) ∧ cf N i q = 0 ∧ N (952 + 9 * q + 5) ≠ 3 ∧ ld N i (N 1) < N (8 + 59 * i + 1) := by
  unfold why at h
  repeat' split at h
  all_goals first | omega | exact ⟨‹_›, ‹_›, Classical.not_not.mp ‹_›, ‹_›, by omega⟩
theorem why_5 {i q : Nat} (h : why N i q = 5) : N (8 + 59 * i + 1) ≠ 0 ∧ ¬ sP N q i < N (952 + 9 * q + 5) ∧ cf N i q = 0 ∧ N (952 + 9 * q + 5) ≠ 3 ∧ N (8 + 59 * i + 1) ≤ ld N i (N 1) := by
  unfold why at h
  repeat' split at h
  all_goals first | omega | exact ⟨‹_›, ‹_›, Classical.not_not.mp ‹_›, ‹_›, by omega⟩
theorem oth_is {t q u : Nat} (h : oth N t q = some u) : u < N 0 ∧ u ≠ t ∧ why (lvN N t q) u q = 0 := by
  obtain ⟨j, -, h2, h3⟩ := foF_in h
  unfold othf at h3
  split at h3
  · rename_i h4
    cases h3
    exact ⟨by omega, h4⟩
  · cases h3
/-- what holds along a move -/
theorem mv_ok (hI : INV N) {t p q u : Nat} (ht : t < N 0) (hp : p < N 1) (hq : q < N 1) (hpq : q ≠ p) (hw : why N t p = 5) (hs : sP N q t < N (952 + 9 * q + 5)) (hu : oth N t q = some u) :
    INV (lvN N t q) ∧ INV (stN (lvN N t q) u q) ∧ INV (stN (stN (lvN N t q) u q) t p) ∧ lvN N t q (952 + 9 * q + 5) < 3 ∧ stN (lvN N t q) u q (952 + 9 * p + 5) < 3 ∧ (∀ k, k < 8 → stN (stN (lvN N t q) u q) t p k = N k) := by
  have hh := iv_h hI
  obtain ⟨hu1, hu2, hu3⟩ := oth_is hu
  have ht16 : t < 16 := by omega
  have hq10 : q < 10 := by omega
  have hp10 : p < 10 := by omega
  have h1 := INV_lv hI ht16 hq10 hs
  obtain ⟨w1, w2, w3, w4, w5⟩ := why_0 hu3
  have h5 : lvN N t q (952 + 9 * q + 5) < 3 := by
    rw [lvN_5 ht16 hq10]
    have := iv_q hI q hq10
    omega
  have e0 : lvN N t q 0 = N 0 := lvN_lo (by omega) (by omega)
  have e1 : lvN N t q 1 = N 1 := lvN_lo (by omega) (by omega)
  have h2 := INV_st h1 (i := u) (q := q) (by omega) (by omega) w2 h5 w1
  obtain ⟨y1, y2, y3, y4, y5⟩ := why_5 hw
  have hT := iv_q hI p hp10
  have hT1 := iv_q h1 p hp10
  have h6 : stN (lvN N t q) u q (952 + 9 * p + 5) = N (952 + 9 * p + 5) := by
    rw [stN_ne (fun h => hpq h.symm) (by omega) h5, lvN_ne ht16 hq10 (fun h => hpq h.symm) (by omega) (iv_q hI q hq10).2.2]
  have h7 : ¬ sP (stN (lvN N t q) u q) p t < stN (lvN N t q) u q (952 + 9 * p + 5) := by
    intro h
    rcases (stN_sd h5 hT1.2.2).mp (sd_iff.mp h) with h8 | h8
    · exact y2 (sd_iff.mpr ((lvN_sd hI ht16 hq10 hp10 hs).mp h8).1)
    · exact hpq h8.2.symm
  have h8 := INV_st h2 (i := t) (q := p) (by rw [stN_lo (by omega)]; omega) (by rw [stN_lo (by omega)]; omega) h7 (by omega) (by rw [stN_lo (by omega), lvN_lo (by omega) (by omega)]; exact y1)
  exact ⟨h1, h2, h8, h5, by omega, fun k hk => by rw [stN_lo (by omega), stN_lo (by omega), lvN_lo (by omega) (by omega)]⟩
theorem mw_w {A : Nat → Nat} {k v : Nat} (hk : k < 1042) : (ev_up (mw μ A).1 302 k (nI v), (mw μ A).2) = mw μ (up A k v) := by rw [mw_up mw_R hk, mw_mw]
theorem mvR_0 {μ : ev_M} {r : Option (Nat → Nat)} (h : r = none) : mvR μ r = .inl (some (.int (nI 0)), μ) := by rw [h]; rfl
theorem mvR_1 {μ : ev_M} {r : Option (Nat → Nat)} {N' : Nat → Nat} (h : r = some N') : mvR μ r = .inl (some (.int (nI 1)), mw μ N') := by rw [h]; rfl
set_option maxHeartbeats 2000000 in
theorem m_X11_movesFor (hok : ev_ok sh_S G) (hN : MR N μ) (hI : INV N) {t p : Nat} (ht : t < N 0) (hp : p < N 1) (hw : why N t p = 5) : ev_T sh_S G mi_X11_movesFor [.ref 301, .int (nI t), .int (nI p)] μ (mvR μ (mvf N t p)) := by
  have hh := iv_h hI
  have hN' : ∀ k, k < 1042 → μ.1 302 k = nI (N k) := hN
  refine ev_tri1 hok (okM_X11_movesFor 0) (Nat.le_of_ble_eq_true rfl) 2 [0, 1, 2, 3] (N 1) 400 (fun k => [.ref 301, .int (nI t), .int (nI p), .int (nI k)]) (fun _ => μ) (fun k => mvf N t p = foF (mvq N t p) k (N 1 - k)) ?_ ?_
  · intro k hk hf
    rw [at_X11_movesFor_2]
    rcases Nat.lt_or_ge k (N 1) with hkn | hkn
    · have h1 := iv_pq hI t k (by omega) (by omega)
      have hst := iv_st31 hI (show k < 10 by omega)
      have hc := iv_q hI k (by omega)
      have hsp : sP N k t ≤ N (952 + 9 * k + 5) := fx_le _ _ _
      by_cases hb : k ≠ p ∧ sP N k t < N (952 + 9 * k + 5) ∧ N (8 + 59 * t + (23 + k)) = 0
      · obtain ⟨b1, b2, b3⟩ := id hb
        cases ho : oth N t k with
        | none =>
          have e := hf.trans (foF_n hkn (mvq_1 hb ho))
          repeat' (first
            | (with_reducible refine ev_rid ?_; simp (disch := first | omega | assumption) only [ev_run_c, ev_run_n, ev_fj, ev_stp, ev_lk, ev_fv, ev_as, ev_sz, ev_st1, ev_st2, ev_rm, ev_pk, ev_Jof, ev_go, lv_args, List.map_cons, List.map_nil, List.zip_cons_cons, List.zip_nil_left, List.zip_nil_right, List.nil_append, List.cons_append, ↓reduceIte, reduceCtorEq, Int.reduceToNat, Nat.reduceEqDiff, Nat.reduceAdd, Nat.reduceLT, Nat.reduceLeDiff, Nat.reduceMul, Value.category, false_implies, true_and, and_true, Bool.false_eq_true, Option.some.injEq, exists_eq_left', Option.toList_some, Option.toList_none, ev_km, ev_k2, ev_k3, ev_k4, ev_k5, ev_l0, ev_l1, sh_1, sh_2, sh_3, sh_4, sh_5, at_X11_movesFor_106, at_X11_movesFor_112, at_X11_movesFor_2, at_X11_movesFor_42, at_X11_movesFor_59, ca_X11_121, ca_X11_174, ca_X11_180, ca_X11_186, ca_X11_353, cd_X11_movesFor_0, cd_X11_movesFor_106, cd_X11_movesFor_112, cd_X11_movesFor_2, cd_X11_movesFor_42, cd_X11_movesFor_59, fl_X11_9, ev_b_23, no_0, no_1, no_lt, no_le, no_eq, no_lt0, no_ge0, no_gt0, no_le0, no_eq0, no_0eq, no_eqm, no_meq, no_m0, no_mlt, no_mge, no_mgt, no_mm, no_i01, no_i10, no_in, no_or, no_ifm, no_mul, nI_add, no_sub, pk_div, iI_if, nI_clamp, oI_n, oI_s, not_true_eq_false, not_false_eq_true, forall_const, true_implies, false_and, and_false, or_false, false_or, Classical.not_not, true_or, or_true, no_b, no_eq1, eq_self, and_self, sk_301, sk_302, sl_302, sp_301, hN', b1, b2, b3, ho])
            | (with_reducible refine ev_gid ?_; simp (disch := first | omega | assumption) only [ev_run_c, ev_run_n, ev_fj, ev_stp, ev_lk, ev_fv, ev_as, ev_sz, ev_st1, ev_st2, ev_rm, ev_pk, ev_Jof, ev_go, lv_args, List.map_cons, List.map_nil, List.zip_cons_cons, List.zip_nil_left, List.zip_nil_right, List.nil_append, List.cons_append, ↓reduceIte, reduceCtorEq, Int.reduceToNat, Nat.reduceEqDiff, Nat.reduceAdd, Nat.reduceLT, Nat.reduceLeDiff, Nat.reduceMul, Value.category, false_implies, true_and, and_true, Bool.false_eq_true, Option.some.injEq, exists_eq_left', Option.toList_some, Option.toList_none, ev_km, ev_k2, ev_k3, ev_k4, ev_k5, ev_l0, ev_l1, sh_1, sh_2, sh_3, sh_4, sh_5, at_X11_movesFor_106, at_X11_movesFor_112, at_X11_movesFor_2, at_X11_movesFor_42, at_X11_movesFor_59, ca_X11_121, ca_X11_174, ca_X11_180, ca_X11_186, ca_X11_353, cd_X11_movesFor_0, cd_X11_movesFor_106, cd_X11_movesFor_112, cd_X11_movesFor_2, cd_X11_movesFor_42, cd_X11_movesFor_59, fl_X11_9, ev_b_23, no_0, no_1, no_lt, no_le, no_eq, no_lt0, no_ge0, no_gt0, no_le0, no_eq0, no_0eq, no_eqm, no_meq, no_m0, no_mlt, no_mge, no_mgt, no_mm, no_i01, no_i10, no_in, no_or, no_ifm, no_mul, nI_add, no_sub, pk_div, iI_if, nI_clamp, oI_n, oI_s, not_true_eq_false, not_false_eq_true, forall_const, true_implies, false_and, and_false, or_false, false_or, Classical.not_not, true_or, or_true, no_b, no_eq1, eq_self, and_self, sk_301, sk_302, sl_302, sp_301, hN', b1, b2, b3, ho])
            | (with_reducible refine And.intro (fun q => ?_) (fun q => ?_) <;> (try simp (disch := first | omega | assumption) only [no_0, no_1, no_lt, no_le, no_eq, no_lt0, no_ge0, no_gt0, no_le0, no_eq0, no_0eq, no_eqm, no_meq, no_m0, no_mlt, no_mge, no_mgt, no_mm, no_i01, no_i10, no_in, no_or, no_ifm, no_mul, nI_add, no_sub, pk_div, iI_if, nI_clamp, oI_n, oI_s, not_true_eq_false, not_false_eq_true, forall_const, true_implies, false_and, and_false, or_false, false_or, Classical.not_not, true_or, or_true, no_b, no_eq1, eq_self, and_self, sk_301, sk_302, sl_302, sp_301, hN', b1, b2, b3, ho] at q))
            | with_reducible refine ev_ci (m_X11_seatOf hok (by assumption) ?_ ?_ ?_ ?_) ?_
            | with_reducible refine ev_ci (m_X11_of hok (by first | assumption | exact mw_R) ?_ ?_) ?_
            | with_reducible refine ev_ci (m_X11_of hok (by assumption) ?_ ?_) ?_
            | with_reducible refine ev_ci (m_X11_other hok (by first | assumption | exact mw_R) (by assumption) ?_ ?_ ?_ ?_) ?_
            | with_reducible refine ev_ci (m_X11_leaves hok (by first | assumption | exact mw_R) (by assumption) ?_ ?_ ?_) ?_
            | with_reducible refine ev_ci (m_X11_seats hok (by first | assumption | exact mw_R) ?_ ?_) ?_
            | omega
            | assumption
            | with_reducible rfl
            | exact hst
            | with_reducible refine lp_nx ?_ ?_ ?_ ?_
            | with_reducible refine lp_st ?_ ?_ ?_
            | with_reducible refine ls_c ?_ ?_
            | with_reducible refine vi_c ?_
            | with_reducible refine re_c ?_
            | with_reducible refine vz_c ?_
            | with_reducible refine rz_c ?_
            | exact trivial
            | with_reducible refine And.intro ?_ ?_
            | simp (disch := first | omega | assumption) only [ev_run_c, ev_run_n, ev_fj, ev_stp, ev_lk, ev_fv, ev_as, ev_sz, ev_st1, ev_st2, ev_rm, ev_pk, ev_Jof, ev_go, lv_args, List.map_cons, List.map_nil, List.zip_cons_cons, List.zip_nil_left, List.zip_nil_right, List.nil_append, List.cons_append, ↓reduceIte, reduceCtorEq, Int.reduceToNat, Nat.reduceEqDiff, Nat.reduceAdd, Nat.reduceLT, Nat.reduceLeDiff, Nat.reduceMul, Value.category, false_implies, true_and, and_true, Bool.false_eq_true, Option.some.injEq, exists_eq_left', Option.toList_some, Option.toList_none, ev_km, ev_k2, ev_k3, ev_k4, ev_k5, ev_l0, ev_l1, sh_1, sh_2, sh_3, sh_4, sh_5, at_X11_movesFor_106, at_X11_movesFor_112, at_X11_movesFor_2, at_X11_movesFor_42, at_X11_movesFor_59, ca_X11_121, ca_X11_174, ca_X11_180, ca_X11_186, ca_X11_353, cd_X11_movesFor_0, cd_X11_movesFor_106, cd_X11_movesFor_112, cd_X11_movesFor_2, cd_X11_movesFor_42, cd_X11_movesFor_59, fl_X11_9, ev_b_23, no_0, no_1, no_lt, no_le, no_eq, no_lt0, no_ge0, no_gt0, no_le0, no_eq0, no_0eq, no_eqm, no_meq, no_m0, no_mlt, no_mge, no_mgt, no_mm, no_i01, no_i10, no_in, no_or, no_ifm, no_mul, nI_add, no_sub, pk_div, iI_if, nI_clamp, oI_n, oI_s, not_true_eq_false, not_false_eq_true, forall_const, true_implies, false_and, and_false, or_false, false_or, Classical.not_not, true_or, or_true, no_b, no_eq1, eq_self, and_self, sk_301, sk_302, sl_302, sp_301, hN', b1, b2, b3, ho]
            | exact rfl
            | (split <;> omega))
        | some u =>
          obtain ⟨u1, u2, u3⟩ := oth_is ho
          obtain ⟨i1, i2, i3, i4, i5, i6⟩ := mv_ok hI ht hp hkn b1 hw b2 ho
          have e := hf.trans (foF_y hkn (mvq_2 hb ho))
          rw [e]
          unfold mvR mvN
          have e4 := i6 4 (by omega)
          have e5 : up (stN (stN (lvN N t k) u k) t p) 4 (N 4 + 2) 5 = N 5 := by rw [up_ne (by omega), i6 5 (by omega)]
          repeat' (first
            | (with_reducible refine ev_rid ?_; simp (disch := first | omega | assumption) only [ev_run_c, ev_run_n, ev_fj, ev_stp, ev_lk, ev_fv, ev_as, ev_sz, ev_st1, ev_st2, ev_rm, ev_pk, ev_Jof, ev_go, lv_args, List.map_cons, List.map_nil, List.zip_cons_cons, List.zip_nil_left, List.zip_nil_right, List.nil_append, List.cons_append, ↓reduceIte, reduceCtorEq, Int.reduceToNat, Nat.reduceEqDiff, Nat.reduceAdd, Nat.reduceLT, Nat.reduceLeDiff, Nat.reduceMul, Value.category, false_implies, true_and, and_true, Bool.false_eq_true, Option.some.injEq, exists_eq_left', Option.toList_some, Option.toList_none, ev_km, ev_k2, ev_k3, ev_k4, ev_k5, ev_l0, ev_l1, sh_1, sh_2, sh_3, sh_4, sh_5, at_X11_movesFor_106, at_X11_movesFor_112, at_X11_movesFor_2, at_X11_movesFor_42, at_X11_movesFor_59, ca_X11_121, ca_X11_174, ca_X11_180, ca_X11_186, ca_X11_353, cd_X11_movesFor_0, cd_X11_movesFor_106, cd_X11_movesFor_112, cd_X11_movesFor_2, cd_X11_movesFor_42, cd_X11_movesFor_59, fl_X11_9, ev_b_23, no_0, no_1, no_lt, no_le, no_eq, no_lt0, no_ge0, no_gt0, no_le0, no_eq0, no_0eq, no_eqm, no_meq, no_m0, no_mlt, no_mge, no_mgt, no_mm, no_i01, no_i10, no_in, no_or, no_ifm, no_mul, nI_add, no_sub, pk_div, iI_if, nI_clamp, oI_n, oI_s, not_true_eq_false, not_false_eq_true, forall_const, true_implies, false_and, and_false, or_false, false_or, Classical.not_not, true_or, or_true, no_b, no_eq1, eq_self, and_self, sk_301, sk_302, sl_302, sp_301, hN', b1, b2, b3, ho, mw_mw, mw_302, e4, e5, mw_w])
            | (with_reducible refine ev_gid ?_; simp (disch := first | omega | assumption) only [ev_run_c, ev_run_n, ev_fj, ev_stp, ev_lk, ev_fv, ev_as, ev_sz, ev_st1, ev_st2, ev_rm, ev_pk, ev_Jof, ev_go, lv_args, List.map_cons, List.map_nil, List.zip_cons_cons, List.zip_nil_left, List.zip_nil_right, List.nil_append, List.cons_append, ↓reduceIte, reduceCtorEq, Int.reduceToNat, Nat.reduceEqDiff, Nat.reduceAdd, Nat.reduceLT, Nat.reduceLeDiff, Nat.reduceMul, Value.category, false_implies, true_and, and_true, Bool.false_eq_true, Option.some.injEq, exists_eq_left', Option.toList_some, Option.toList_none, ev_km, ev_k2, ev_k3, ev_k4, ev_k5, ev_l0, ev_l1, sh_1, sh_2, sh_3, sh_4, sh_5, at_X11_movesFor_106, at_X11_movesFor_112, at_X11_movesFor_2, at_X11_movesFor_42, at_X11_movesFor_59, ca_X11_121, ca_X11_174, ca_X11_180, ca_X11_186, ca_X11_353, cd_X11_movesFor_0, cd_X11_movesFor_106, cd_X11_movesFor_112, cd_X11_movesFor_2, cd_X11_movesFor_42, cd_X11_movesFor_59, fl_X11_9, ev_b_23, no_0, no_1, no_lt, no_le, no_eq, no_lt0, no_ge0, no_gt0, no_le0, no_eq0, no_0eq, no_eqm, no_meq, no_m0, no_mlt, no_mge, no_mgt, no_mm, no_i01, no_i10, no_in, no_or, no_ifm, no_mul, nI_add, no_sub, pk_div, iI_if, nI_clamp, oI_n, oI_s, not_true_eq_false, not_false_eq_true, forall_const, true_implies, false_and, and_false, or_false, false_or, Classical.not_not, true_or, or_true, no_b, no_eq1, eq_self, and_self, sk_301, sk_302, sl_302, sp_301, hN', b1, b2, b3, ho, mw_mw, mw_302, e4, e5, mw_w])
            | (with_reducible refine And.intro (fun q => ?_) (fun q => ?_) <;> (try simp (disch := first | omega | assumption) only [no_0, no_1, no_lt, no_le, no_eq, no_lt0, no_ge0, no_gt0, no_le0, no_eq0, no_0eq, no_eqm, no_meq, no_m0, no_mlt, no_mge, no_mgt, no_mm, no_i01, no_i10, no_in, no_or, no_ifm, no_mul, nI_add, no_sub, pk_div, iI_if, nI_clamp, oI_n, oI_s, not_true_eq_false, not_false_eq_true, forall_const, true_implies, false_and, and_false, or_false, false_or, Classical.not_not, true_or, or_true, no_b, no_eq1, eq_self, and_self, sk_301, sk_302, sl_302, sp_301, hN', b1, b2, b3, ho, mw_mw, mw_302, e4, e5, mw_w] at q))
            | with_reducible refine ev_ci (m_X11_seatOf hok (by assumption) ?_ ?_ ?_ ?_) ?_
            | with_reducible refine ev_ci (m_X11_of hok (by first | assumption | exact mw_R) ?_ ?_) ?_
            | with_reducible refine ev_ci (m_X11_of hok (by assumption) ?_ ?_) ?_
            | with_reducible refine ev_ci (m_X11_other hok (by first | assumption | exact mw_R) (by assumption) ?_ ?_ ?_ ?_) ?_
            | with_reducible refine ev_ci (m_X11_leaves hok (by first | assumption | exact mw_R) (by assumption) ?_ ?_ ?_) ?_
            | with_reducible refine ev_ci (m_X11_seats hok (by first | assumption | exact mw_R) ?_ ?_) ?_
            | omega
            | assumption
            | with_reducible rfl
            | exact hst
            | with_reducible refine lp_nx ?_ ?_ ?_ ?_
            | with_reducible refine lp_st ?_ ?_ ?_
            | with_reducible refine ls_c ?_ ?_
            | with_reducible refine vi_c ?_
            | with_reducible refine re_c ?_
            | with_reducible refine vz_c ?_
            | with_reducible refine rz_c ?_
            | exact trivial
            | with_reducible refine And.intro ?_ ?_
            | simp (disch := first | omega | assumption) only [ev_run_c, ev_run_n, ev_fj, ev_stp, ev_lk, ev_fv, ev_as, ev_sz, ev_st1, ev_st2, ev_rm, ev_pk, ev_Jof, ev_go, lv_args, List.map_cons, List.map_nil, List.zip_cons_cons, List.zip_nil_left, List.zip_nil_right, List.nil_append, List.cons_append, ↓reduceIte, reduceCtorEq, Int.reduceToNat, Nat.reduceEqDiff, Nat.reduceAdd, Nat.reduceLT, Nat.reduceLeDiff, Nat.reduceMul, Value.category, false_implies, true_and, and_true, Bool.false_eq_true, Option.some.injEq, exists_eq_left', Option.toList_some, Option.toList_none, ev_km, ev_k2, ev_k3, ev_k4, ev_k5, ev_l0, ev_l1, sh_1, sh_2, sh_3, sh_4, sh_5, at_X11_movesFor_106, at_X11_movesFor_112, at_X11_movesFor_2, at_X11_movesFor_42, at_X11_movesFor_59, ca_X11_121, ca_X11_174, ca_X11_180, ca_X11_186, ca_X11_353, cd_X11_movesFor_0, cd_X11_movesFor_106, cd_X11_movesFor_112, cd_X11_movesFor_2, cd_X11_movesFor_42, cd_X11_movesFor_59, fl_X11_9, ev_b_23, no_0, no_1, no_lt, no_le, no_eq, no_lt0, no_ge0, no_gt0, no_le0, no_eq0, no_0eq, no_eqm, no_meq, no_m0, no_mlt, no_mge, no_mgt, no_mm, no_i01, no_i10, no_in, no_or, no_ifm, no_mul, nI_add, no_sub, pk_div, iI_if, nI_clamp, oI_n, oI_s, not_true_eq_false, not_false_eq_true, forall_const, true_implies, false_and, and_false, or_false, false_or, Classical.not_not, true_or, or_true, no_b, no_eq1, eq_self, and_self, sk_301, sk_302, sl_302, sp_301, hN', b1, b2, b3, ho, mw_mw, mw_302, e4, e5, mw_w]
            | exact rfl
            | (split <;> omega))
      · have e := hf.trans (foF_n hkn (mvq_0 hb))
        repeat' (first
          | (with_reducible refine ev_rid ?_; simp (disch := first | omega | assumption) only [ev_run_c, ev_run_n, ev_fj, ev_stp, ev_lk, ev_fv, ev_as, ev_sz, ev_st1, ev_st2, ev_rm, ev_pk, ev_Jof, ev_go, lv_args, List.map_cons, List.map_nil, List.zip_cons_cons, List.zip_nil_left, List.zip_nil_right, List.nil_append, List.cons_append, ↓reduceIte, reduceCtorEq, Int.reduceToNat, Nat.reduceEqDiff, Nat.reduceAdd, Nat.reduceLT, Nat.reduceLeDiff, Nat.reduceMul, Value.category, false_implies, true_and, and_true, Bool.false_eq_true, Option.some.injEq, exists_eq_left', Option.toList_some, Option.toList_none, ev_km, ev_k2, ev_k3, ev_k4, ev_k5, ev_l0, ev_l1, sh_1, sh_2, sh_3, sh_4, sh_5, at_X11_movesFor_106, at_X11_movesFor_112, at_X11_movesFor_2, at_X11_movesFor_42, at_X11_movesFor_59, ca_X11_121, ca_X11_174, ca_X11_180, ca_X11_186, ca_X11_353, cd_X11_movesFor_0, cd_X11_movesFor_106, cd_X11_movesFor_112, cd_X11_movesFor_2, cd_X11_movesFor_42, cd_X11_movesFor_59, fl_X11_9, ev_b_23, no_0, no_1, no_lt, no_le, no_eq, no_lt0, no_ge0, no_gt0, no_le0, no_eq0, no_0eq, no_eqm, no_meq, no_m0, no_mlt, no_mge, no_mgt, no_mm, no_i01, no_i10, no_in, no_or, no_ifm, no_mul, nI_add, no_sub, pk_div, iI_if, nI_clamp, oI_n, oI_s, not_true_eq_false, not_false_eq_true, forall_const, true_implies, false_and, and_false, or_false, false_or, Classical.not_not, true_or, or_true, no_b, no_eq1, eq_self, and_self, sk_301, sk_302, sl_302, sp_301, hN'])
          | (with_reducible refine ev_gid ?_; simp (disch := first | omega | assumption) only [ev_run_c, ev_run_n, ev_fj, ev_stp, ev_lk, ev_fv, ev_as, ev_sz, ev_st1, ev_st2, ev_rm, ev_pk, ev_Jof, ev_go, lv_args, List.map_cons, List.map_nil, List.zip_cons_cons, List.zip_nil_left, List.zip_nil_right, List.nil_append, List.cons_append, ↓reduceIte, reduceCtorEq, Int.reduceToNat, Nat.reduceEqDiff, Nat.reduceAdd, Nat.reduceLT, Nat.reduceLeDiff, Nat.reduceMul, Value.category, false_implies, true_and, and_true, Bool.false_eq_true, Option.some.injEq, exists_eq_left', Option.toList_some, Option.toList_none, ev_km, ev_k2, ev_k3, ev_k4, ev_k5, ev_l0, ev_l1, sh_1, sh_2, sh_3, sh_4, sh_5, at_X11_movesFor_106, at_X11_movesFor_112, at_X11_movesFor_2, at_X11_movesFor_42, at_X11_movesFor_59, ca_X11_121, ca_X11_174, ca_X11_180, ca_X11_186, ca_X11_353, cd_X11_movesFor_0, cd_X11_movesFor_106, cd_X11_movesFor_112, cd_X11_movesFor_2, cd_X11_movesFor_42, cd_X11_movesFor_59, fl_X11_9, ev_b_23, no_0, no_1, no_lt, no_le, no_eq, no_lt0, no_ge0, no_gt0, no_le0, no_eq0, no_0eq, no_eqm, no_meq, no_m0, no_mlt, no_mge, no_mgt, no_mm, no_i01, no_i10, no_in, no_or, no_ifm, no_mul, nI_add, no_sub, pk_div, iI_if, nI_clamp, oI_n, oI_s, not_true_eq_false, not_false_eq_true, forall_const, true_implies, false_and, and_false, or_false, false_or, Classical.not_not, true_or, or_true, no_b, no_eq1, eq_self, and_self, sk_301, sk_302, sl_302, sp_301, hN'])
          | (with_reducible refine And.intro (fun q => ?_) (fun q => ?_) <;> (try simp (disch := first | omega | assumption) only [no_0, no_1, no_lt, no_le, no_eq, no_lt0, no_ge0, no_gt0, no_le0, no_eq0, no_0eq, no_eqm, no_meq, no_m0, no_mlt, no_mge, no_mgt, no_mm, no_i01, no_i10, no_in, no_or, no_ifm, no_mul, nI_add, no_sub, pk_div, iI_if, nI_clamp, oI_n, oI_s, not_true_eq_false, not_false_eq_true, forall_const, true_implies, false_and, and_false, or_false, false_or, Classical.not_not, true_or, or_true, no_b, no_eq1, eq_self, and_self, sk_301, sk_302, sl_302, sp_301, hN'] at q))
          | with_reducible refine ev_ci (m_X11_seatOf hok (by assumption) ?_ ?_ ?_ ?_) ?_
          | with_reducible refine ev_ci (m_X11_of hok (by first | assumption | exact mw_R) ?_ ?_) ?_
          | with_reducible refine ev_ci (m_X11_of hok (by assumption) ?_ ?_) ?_
          | with_reducible refine ev_ci (m_X11_other hok (by first | assumption | exact mw_R) (by assumption) ?_ ?_ ?_ ?_) ?_
          | with_reducible refine ev_ci (m_X11_leaves hok (by first | assumption | exact mw_R) (by assumption) ?_ ?_ ?_) ?_
          | with_reducible refine ev_ci (m_X11_seats hok (by first | assumption | exact mw_R) ?_ ?_) ?_
          | omega
          | assumption
          | with_reducible rfl
          | exact hst
          | exact absurd ⟨‹_›, ‹_›, ‹_›⟩ hb
          | with_reducible refine lp_nx ?_ ?_ ?_ ?_
          | with_reducible refine lp_st ?_ ?_ ?_
          | with_reducible refine ls_c ?_ ?_
          | with_reducible refine vi_c ?_
          | with_reducible refine re_c ?_
          | with_reducible refine vz_c ?_
          | with_reducible refine rz_c ?_
          | exact trivial
          | with_reducible refine And.intro ?_ ?_
          | simp (disch := first | omega | assumption) only [ev_run_c, ev_run_n, ev_fj, ev_stp, ev_lk, ev_fv, ev_as, ev_sz, ev_st1, ev_st2, ev_rm, ev_pk, ev_Jof, ev_go, lv_args, List.map_cons, List.map_nil, List.zip_cons_cons, List.zip_nil_left, List.zip_nil_right, List.nil_append, List.cons_append, ↓reduceIte, reduceCtorEq, Int.reduceToNat, Nat.reduceEqDiff, Nat.reduceAdd, Nat.reduceLT, Nat.reduceLeDiff, Nat.reduceMul, Value.category, false_implies, true_and, and_true, Bool.false_eq_true, Option.some.injEq, exists_eq_left', Option.toList_some, Option.toList_none, ev_km, ev_k2, ev_k3, ev_k4, ev_k5, ev_l0, ev_l1, sh_1, sh_2, sh_3, sh_4, sh_5, at_X11_movesFor_106, at_X11_movesFor_112, at_X11_movesFor_2, at_X11_movesFor_42, at_X11_movesFor_59, ca_X11_121, ca_X11_174, ca_X11_180, ca_X11_186, ca_X11_353, cd_X11_movesFor_0, cd_X11_movesFor_106, cd_X11_movesFor_112, cd_X11_movesFor_2, cd_X11_movesFor_42, cd_X11_movesFor_59, fl_X11_9, ev_b_23, no_0, no_1, no_lt, no_le, no_eq, no_lt0, no_ge0, no_gt0, no_le0, no_eq0, no_0eq, no_eqm, no_meq, no_m0, no_mlt, no_mge, no_mgt, no_mm, no_i01, no_i10, no_in, no_or, no_ifm, no_mul, nI_add, no_sub, pk_div, iI_if, nI_clamp, oI_n, oI_s, not_true_eq_false, not_false_eq_true, forall_const, true_implies, false_and, and_false, or_false, false_or, Classical.not_not, true_or, or_true, no_b, no_eq1, eq_self, and_self, sk_301, sk_302, sl_302, sp_301, hN']
          | exact rfl
          | (split <;> omega))
    · have hkn : N 1 = k := by omega
      have e := hf.trans (foF_e (by omega))
      rw [mvR_0 e]
      subst hkn
      repeat' (first
        | (with_reducible refine ev_rid ?_; simp (disch := first | omega | assumption) only [ev_run_c, ev_run_n, ev_fj, ev_stp, ev_lk, ev_fv, ev_as, ev_sz, ev_st1, ev_st2, ev_rm, ev_pk, ev_Jof, ev_go, lv_args, List.map_cons, List.map_nil, List.zip_cons_cons, List.zip_nil_left, List.zip_nil_right, List.nil_append, List.cons_append, ↓reduceIte, reduceCtorEq, Int.reduceToNat, Nat.reduceEqDiff, Nat.reduceAdd, Nat.reduceLT, Nat.reduceLeDiff, Nat.reduceMul, Value.category, false_implies, true_and, and_true, Bool.false_eq_true, Option.some.injEq, exists_eq_left', Option.toList_some, Option.toList_none, ev_km, ev_k2, ev_k3, ev_k4, ev_k5, ev_l0, ev_l1, sh_1, sh_2, sh_3, sh_4, sh_5, at_X11_movesFor_106, at_X11_movesFor_112, at_X11_movesFor_2, at_X11_movesFor_42, at_X11_movesFor_59, ca_X11_121, ca_X11_174, ca_X11_180, ca_X11_186, ca_X11_353, cd_X11_movesFor_0, cd_X11_movesFor_106, cd_X11_movesFor_112, cd_X11_movesFor_2, cd_X11_movesFor_42, cd_X11_movesFor_59, fl_X11_9, ev_b_23, no_0, no_1, no_lt, no_le, no_eq, no_lt0, no_ge0, no_gt0, no_le0, no_eq0, no_0eq, no_eqm, no_meq, no_m0, no_mlt, no_mge, no_mgt, no_mm, no_i01, no_i10, no_in, no_or, no_ifm, no_mul, nI_add, no_sub, pk_div, iI_if, nI_clamp, oI_n, oI_s, not_true_eq_false, not_false_eq_true, forall_const, true_implies, false_and, and_false, or_false, false_or, Classical.not_not, true_or, or_true, no_b, no_eq1, eq_self, and_self, sk_301, sk_302, sl_302, sp_301, hN'])
        | (with_reducible refine ev_gid ?_; simp (disch := first | omega | assumption) only [ev_run_c, ev_run_n, ev_fj, ev_stp, ev_lk, ev_fv, ev_as, ev_sz, ev_st1, ev_st2, ev_rm, ev_pk, ev_Jof, ev_go, lv_args, List.map_cons, List.map_nil, List.zip_cons_cons, List.zip_nil_left, List.zip_nil_right, List.nil_append, List.cons_append, ↓reduceIte, reduceCtorEq, Int.reduceToNat, Nat.reduceEqDiff, Nat.reduceAdd, Nat.reduceLT, Nat.reduceLeDiff, Nat.reduceMul, Value.category, false_implies, true_and, and_true, Bool.false_eq_true, Option.some.injEq, exists_eq_left', Option.toList_some, Option.toList_none, ev_km, ev_k2, ev_k3, ev_k4, ev_k5, ev_l0, ev_l1, sh_1, sh_2, sh_3, sh_4, sh_5, at_X11_movesFor_106, at_X11_movesFor_112, at_X11_movesFor_2, at_X11_movesFor_42, at_X11_movesFor_59, ca_X11_121, ca_X11_174, ca_X11_180, ca_X11_186, ca_X11_353, cd_X11_movesFor_0, cd_X11_movesFor_106, cd_X11_movesFor_112, cd_X11_movesFor_2, cd_X11_movesFor_42, cd_X11_movesFor_59, fl_X11_9, ev_b_23, no_0, no_1, no_lt, no_le, no_eq, no_lt0, no_ge0, no_gt0, no_le0, no_eq0, no_0eq, no_eqm, no_meq, no_m0, no_mlt, no_mge, no_mgt, no_mm, no_i01, no_i10, no_in, no_or, no_ifm, no_mul, nI_add, no_sub, pk_div, iI_if, nI_clamp, oI_n, oI_s, not_true_eq_false, not_false_eq_true, forall_const, true_implies, false_and, and_false, or_false, false_or, Classical.not_not, true_or, or_true, no_b, no_eq1, eq_self, and_self, sk_301, sk_302, sl_302, sp_301, hN'])
        | (with_reducible refine And.intro (fun q => ?_) (fun q => ?_) <;> (try simp (disch := first | omega | assumption) only [no_0, no_1, no_lt, no_le, no_eq, no_lt0, no_ge0, no_gt0, no_le0, no_eq0, no_0eq, no_eqm, no_meq, no_m0, no_mlt, no_mge, no_mgt, no_mm, no_i01, no_i10, no_in, no_or, no_ifm, no_mul, nI_add, no_sub, pk_div, iI_if, nI_clamp, oI_n, oI_s, not_true_eq_false, not_false_eq_true, forall_const, true_implies, false_and, and_false, or_false, false_or, Classical.not_not, true_or, or_true, no_b, no_eq1, eq_self, and_self, sk_301, sk_302, sl_302, sp_301, hN'] at q))
        | with_reducible refine ev_ci (m_X11_seatOf hok (by assumption) ?_ ?_ ?_ ?_) ?_
        | with_reducible refine ev_ci (m_X11_of hok (by first | assumption | exact mw_R) ?_ ?_) ?_
        | with_reducible refine ev_ci (m_X11_of hok (by assumption) ?_ ?_) ?_
        | with_reducible refine ev_ci (m_X11_other hok (by first | assumption | exact mw_R) (by assumption) ?_ ?_ ?_ ?_) ?_
        | with_reducible refine ev_ci (m_X11_leaves hok (by first | assumption | exact mw_R) (by assumption) ?_ ?_ ?_) ?_
        | with_reducible refine ev_ci (m_X11_seats hok (by first | assumption | exact mw_R) ?_ ?_) ?_
        | omega
        | assumption
        | with_reducible rfl
        | with_reducible refine lp_nx ?_ ?_ ?_ ?_
        | with_reducible refine lp_st ?_ ?_ ?_
        | with_reducible refine ls_c ?_ ?_
        | with_reducible refine vi_c ?_
        | with_reducible refine re_c ?_
        | with_reducible refine vz_c ?_
        | with_reducible refine rz_c ?_
        | exact trivial
        | with_reducible refine And.intro ?_ ?_
        | simp (disch := first | omega | assumption) only [ev_run_c, ev_run_n, ev_fj, ev_stp, ev_lk, ev_fv, ev_as, ev_sz, ev_st1, ev_st2, ev_rm, ev_pk, ev_Jof, ev_go, lv_args, List.map_cons, List.map_nil, List.zip_cons_cons, List.zip_nil_left, List.zip_nil_right, List.nil_append, List.cons_append, ↓reduceIte, reduceCtorEq, Int.reduceToNat, Nat.reduceEqDiff, Nat.reduceAdd, Nat.reduceLT, Nat.reduceLeDiff, Nat.reduceMul, Value.category, false_implies, true_and, and_true, Bool.false_eq_true, Option.some.injEq, exists_eq_left', Option.toList_some, Option.toList_none, ev_km, ev_k2, ev_k3, ev_k4, ev_k5, ev_l0, ev_l1, sh_1, sh_2, sh_3, sh_4, sh_5, at_X11_movesFor_106, at_X11_movesFor_112, at_X11_movesFor_2, at_X11_movesFor_42, at_X11_movesFor_59, ca_X11_121, ca_X11_174, ca_X11_180, ca_X11_186, ca_X11_353, cd_X11_movesFor_0, cd_X11_movesFor_106, cd_X11_movesFor_112, cd_X11_movesFor_2, cd_X11_movesFor_42, cd_X11_movesFor_59, fl_X11_9, ev_b_23, no_0, no_1, no_lt, no_le, no_eq, no_lt0, no_ge0, no_gt0, no_le0, no_eq0, no_0eq, no_eqm, no_meq, no_m0, no_mlt, no_mge, no_mgt, no_mm, no_i01, no_i10, no_in, no_or, no_ifm, no_mul, nI_add, no_sub, pk_div, iI_if, nI_clamp, oI_n, oI_s, not_true_eq_false, not_false_eq_true, forall_const, true_implies, false_and, and_false, or_false, false_or, Classical.not_not, true_or, or_true, no_b, no_eq1, eq_self, and_self, sk_301, sk_302, sl_302, sp_301, hN']
        | exact rfl
        | (split <;> omega))
  · rw [at_X11_movesFor_0]
    repeat' (first
      | (with_reducible refine ev_rid ?_; simp (disch := first | omega | assumption) only [ev_run_c, ev_run_n, ev_fj, ev_stp, ev_lk, ev_fv, ev_as, ev_sz, ev_st1, ev_st2, ev_rm, ev_pk, ev_Jof, ev_go, lv_args, List.map_cons, List.map_nil, List.zip_cons_cons, List.zip_nil_left, List.zip_nil_right, List.nil_append, List.cons_append, ↓reduceIte, reduceCtorEq, Int.reduceToNat, Nat.reduceEqDiff, Nat.reduceAdd, Nat.reduceLT, Nat.reduceLeDiff, Nat.reduceMul, Value.category, false_implies, true_and, and_true, Bool.false_eq_true, Option.some.injEq, exists_eq_left', Option.toList_some, Option.toList_none, ev_km, ev_k2, ev_k3, ev_k4, ev_k5, ev_l0, ev_l1, sh_1, sh_2, sh_3, sh_4, sh_5, at_X11_movesFor_106, at_X11_movesFor_112, at_X11_movesFor_2, at_X11_movesFor_42, at_X11_movesFor_59, ca_X11_121, ca_X11_174, ca_X11_180, ca_X11_186, ca_X11_353, cd_X11_movesFor_0, cd_X11_movesFor_106, cd_X11_movesFor_112, cd_X11_movesFor_2, cd_X11_movesFor_42, cd_X11_movesFor_59, fl_X11_9, ev_b_23, no_0, no_1, no_lt, no_le, no_eq, no_lt0, no_ge0, no_gt0, no_le0, no_eq0, no_0eq, no_eqm, no_meq, no_m0, no_mlt, no_mge, no_mgt, no_mm, no_i01, no_i10, no_in, no_or, no_ifm, no_mul, nI_add, no_sub, pk_div, iI_if, nI_clamp, oI_n, oI_s, not_true_eq_false, not_false_eq_true, forall_const, true_implies, false_and, and_false, or_false, false_or, Classical.not_not, true_or, or_true, no_b, no_eq1, eq_self, and_self, sk_301, sk_302, sl_302, sp_301])
      | (with_reducible refine ev_gid ?_; simp (disch := first | omega | assumption) only [ev_run_c, ev_run_n, ev_fj, ev_stp, ev_lk, ev_fv, ev_as, ev_sz, ev_st1, ev_st2, ev_rm, ev_pk, ev_Jof, ev_go, lv_args, List.map_cons, List.map_nil, List.zip_cons_cons, List.zip_nil_left, List.zip_nil_right, List.nil_append, List.cons_append, ↓reduceIte, reduceCtorEq, Int.reduceToNat, Nat.reduceEqDiff, Nat.reduceAdd, Nat.reduceLT, Nat.reduceLeDiff, Nat.reduceMul, Value.category, false_implies, true_and, and_true, Bool.false_eq_true, Option.some.injEq, exists_eq_left', Option.toList_some, Option.toList_none, ev_km, ev_k2, ev_k3, ev_k4, ev_k5, ev_l0, ev_l1, sh_1, sh_2, sh_3, sh_4, sh_5, at_X11_movesFor_106, at_X11_movesFor_112, at_X11_movesFor_2, at_X11_movesFor_42, at_X11_movesFor_59, ca_X11_121, ca_X11_174, ca_X11_180, ca_X11_186, ca_X11_353, cd_X11_movesFor_0, cd_X11_movesFor_106, cd_X11_movesFor_112, cd_X11_movesFor_2, cd_X11_movesFor_42, cd_X11_movesFor_59, fl_X11_9, ev_b_23, no_0, no_1, no_lt, no_le, no_eq, no_lt0, no_ge0, no_gt0, no_le0, no_eq0, no_0eq, no_eqm, no_meq, no_m0, no_mlt, no_mge, no_mgt, no_mm, no_i01, no_i10, no_in, no_or, no_ifm, no_mul, nI_add, no_sub, pk_div, iI_if, nI_clamp, oI_n, oI_s, not_true_eq_false, not_false_eq_true, forall_const, true_implies, false_and, and_false, or_false, false_or, Classical.not_not, true_or, or_true, no_b, no_eq1, eq_self, and_self, sk_301, sk_302, sl_302, sp_301])
      | (with_reducible refine And.intro (fun q => ?_) (fun q => ?_) <;> (try simp (disch := first | omega | assumption) only [no_0, no_1, no_lt, no_le, no_eq, no_lt0, no_ge0, no_gt0, no_le0, no_eq0, no_0eq, no_eqm, no_meq, no_m0, no_mlt, no_mge, no_mgt, no_mm, no_i01, no_i10, no_in, no_or, no_ifm, no_mul, nI_add, no_sub, pk_div, iI_if, nI_clamp, oI_n, oI_s, not_true_eq_false, not_false_eq_true, forall_const, true_implies, false_and, and_false, or_false, false_or, Classical.not_not, true_or, or_true, no_b, no_eq1, eq_self, and_self, sk_301, sk_302, sl_302, sp_301] at q))
      | with_reducible refine ev_ci (m_X11_seatOf hok (by assumption) ?_ ?_ ?_ ?_) ?_
      | with_reducible refine ev_ci (m_X11_of hok (by first | assumption | exact mw_R) ?_ ?_) ?_
      | with_reducible refine ev_ci (m_X11_of hok (by assumption) ?_ ?_) ?_
      | with_reducible refine ev_ci (m_X11_other hok (by first | assumption | exact mw_R) (by assumption) ?_ ?_ ?_ ?_) ?_
      | with_reducible refine ev_ci (m_X11_leaves hok (by first | assumption | exact mw_R) (by assumption) ?_ ?_ ?_) ?_
      | with_reducible refine ev_ci (m_X11_seats hok (by first | assumption | exact mw_R) ?_ ?_) ?_
      | omega
      | assumption
      | with_reducible rfl
      | with_reducible refine lp_nx ?_ ?_ ?_ ?_
      | with_reducible refine lp_st ?_ ?_ ?_
      | with_reducible refine ls_c ?_ ?_
      | with_reducible refine vi_c ?_
      | with_reducible refine re_c ?_
      | with_reducible refine vz_c ?_
      | with_reducible refine rz_c ?_
      | exact trivial
      | with_reducible refine And.intro ?_ ?_
      | simp (disch := first | omega | assumption) only [ev_run_c, ev_run_n, ev_fj, ev_stp, ev_lk, ev_fv, ev_as, ev_sz, ev_st1, ev_st2, ev_rm, ev_pk, ev_Jof, ev_go, lv_args, List.map_cons, List.map_nil, List.zip_cons_cons, List.zip_nil_left, List.zip_nil_right, List.nil_append, List.cons_append, ↓reduceIte, reduceCtorEq, Int.reduceToNat, Nat.reduceEqDiff, Nat.reduceAdd, Nat.reduceLT, Nat.reduceLeDiff, Nat.reduceMul, Value.category, false_implies, true_and, and_true, Bool.false_eq_true, Option.some.injEq, exists_eq_left', Option.toList_some, Option.toList_none, ev_km, ev_k2, ev_k3, ev_k4, ev_k5, ev_l0, ev_l1, sh_1, sh_2, sh_3, sh_4, sh_5, at_X11_movesFor_106, at_X11_movesFor_112, at_X11_movesFor_2, at_X11_movesFor_42, at_X11_movesFor_59, ca_X11_121, ca_X11_174, ca_X11_180, ca_X11_186, ca_X11_353, cd_X11_movesFor_0, cd_X11_movesFor_106, cd_X11_movesFor_112, cd_X11_movesFor_2, cd_X11_movesFor_42, cd_X11_movesFor_59, fl_X11_9, ev_b_23, no_0, no_1, no_lt, no_le, no_eq, no_lt0, no_ge0, no_gt0, no_le0, no_eq0, no_0eq, no_eqm, no_meq, no_m0, no_mlt, no_mge, no_mgt, no_mm, no_i01, no_i10, no_in, no_or, no_ifm, no_mul, nI_add, no_sub, pk_div, iI_if, nI_clamp, oI_n, oI_s, not_true_eq_false, not_false_eq_true, forall_const, true_implies, false_and, and_false, or_false, false_or, Classical.not_not, true_or, or_true, no_b, no_eq1, eq_self, and_self, sk_301, sk_302, sl_302, sp_301]
      | exact rfl
      | (split <;> omega))
end MFill
