/-! ===== the reference: its leaves ===== -/
section MLeaf
variable {G : ev_G} {N : Nat → Nat} {μ : ev_M}
/-- the reference's row, as numbers -/
def MR (N : Nat → Nat) (μ : ev_M) : Prop := ∀ k, k < 1042 → μ.1 302 k = nI (N k)
theorem sk_301 : sh_kd 301 = 9 := by decide +kernel
theorem sk_302 : sh_kd 302 = 10 := by decide +kernel
theorem sl_302 : sh_ln 302 = 1042 := by decide +kernel
theorem sp_301 : sh_pt 301 1 = 302 := by decide +kernel
theorem m_X11_in (hok : ev_ok sh_S G) (a b c : Nat) (ha : a < 2 ^ 31) (hb : b < 2 ^ 31) (hc : c < 2 ^ 31) : ev_T sh_S G mi_X11_in [.int (nI a), .int (nI b), .int (nI c)] μ (.inl (some (.int (nI (if b ≤ a ∧ a ≤ c then 1 else 0))), μ)) := by
  refine ev_tri hok (okM_X11_in 0) (Nat.le_of_ble_eq_true rfl) 400 ?_
  rw [at_X11_in_0]
  repeat' (first
    | omega
    | assumption
    | exact rfl
    | exact if_pos (by omega)
    | (rw [if_pos (by omega)])
    | (rw [if_neg (by omega)])
    | (refine And.intro (fun q => ?_) (fun q => ?_) <;> (try simp (disch := first | omega | assumption) only [no_0, no_1, no_lt, no_le, no_eq, no_lt0, no_ge0, no_gt0, no_le0, no_eq0, no_0eq, no_eqm, no_meq, no_m0, no_mlt, no_mge, no_mgt, no_mm, no_i01, no_i10, no_in, no_or, no_ifm, no_mul, nI_add, nI_clamp, oI_n, oI_s, not_true_eq_false, not_false_eq_true, forall_const, true_implies, false_and, and_false, or_false, false_or, Classical.not_not, true_or, or_true, no_b, no_eq1, eq_self, and_self] at q))
    | refine And.intro ?_ ?_
    | simp (disch := first | omega | assumption) only [ev_run_c, ev_run_n, ev_fj, ev_stp, ev_lk, ev_fv, ev_as, ev_sz, ev_st1, ev_st2, ev_rm, ev_pk, ev_Jof, ev_go, lv_args, List.map_cons, List.map_nil, List.zip_cons_cons, List.zip_nil_left, List.zip_nil_right, List.nil_append, List.cons_append, ↓reduceIte, reduceCtorEq, Int.reduceToNat, Nat.reduceEqDiff, Nat.reduceAdd, Nat.reduceLT, Nat.reduceLeDiff, Nat.reduceMul, Value.category, false_implies, true_and, and_true, Bool.false_eq_true, Option.some.injEq, exists_eq_left', Option.toList_some, Option.toList_none, ev_km, ev_k2, ev_k3, ev_k4, ev_k5, ev_l0, ev_l1, sh_1, sh_2, sh_3, sh_4, sh_5, at_X11_in_14, at_X11_in_15, cd_X11_in_0, cd_X11_in_14, cd_X11_in_15, no_0, no_1, no_lt, no_le, no_eq, no_lt0, no_ge0, no_gt0, no_le0, no_eq0, no_0eq, no_eqm, no_meq, no_m0, no_mlt, no_mge, no_mgt, no_mm, no_i01, no_i10, no_in, no_or, no_ifm, no_mul, nI_add, nI_clamp, oI_n, oI_s, not_true_eq_false, not_false_eq_true, forall_const, true_implies, false_and, and_false, or_false, false_or, Classical.not_not, true_or, or_true, no_b, no_eq1, eq_self, and_self])
theorem m_X11_one (hok : ev_ok sh_S G) (b : Nat) (hb : b < 2 ^ 31) : ev_T sh_S G mi_X11_one [.int (nI b)] μ (.inl (some (.int (nI (if b = 0 then 0 else 1))), μ)) := by
  refine ev_tri hok (okM_X11_one 0) (Nat.le_of_ble_eq_true rfl) 400 ?_
  rw [at_X11_one_0]
  repeat' (first
    | omega
    | assumption
    | exact rfl
    | (rw [if_pos (by omega)])
    | (rw [if_neg (by omega)])
    | (refine And.intro (fun q => ?_) (fun q => ?_) <;> (try simp (disch := first | omega | assumption) only [no_0, no_1, no_lt, no_le, no_eq, no_lt0, no_ge0, no_gt0, no_le0, no_eq0, no_0eq, no_eqm, no_meq, no_m0, no_mlt, no_mge, no_mgt, no_mm, no_i01, no_i10, no_in, no_or, no_ifm, no_mul, nI_add, nI_clamp, oI_n, oI_s, not_true_eq_false, not_false_eq_true, forall_const, true_implies, false_and, and_false, or_false, false_or, Classical.not_not, true_or, or_true, no_b, no_eq1, eq_self, and_self] at q))
    | refine And.intro ?_ ?_
    | simp (disch := first | omega | assumption) only [ev_run_c, ev_run_n, ev_fj, ev_stp, ev_lk, ev_fv, ev_as, ev_sz, ev_st1, ev_st2, ev_rm, ev_pk, ev_Jof, ev_go, lv_args, List.map_cons, List.map_nil, List.zip_cons_cons, List.zip_nil_left, List.zip_nil_right, List.nil_append, List.cons_append, ↓reduceIte, reduceCtorEq, Int.reduceToNat, Nat.reduceEqDiff, Nat.reduceAdd, Nat.reduceLT, Nat.reduceLeDiff, Nat.reduceMul, Value.category, false_implies, true_and, and_true, Bool.false_eq_true, Option.some.injEq, exists_eq_left', Option.toList_some, Option.toList_none, ev_km, ev_k2, ev_k3, ev_k4, ev_k5, ev_l0, ev_l1, sh_1, sh_2, sh_3, sh_4, sh_5, at_X11_one_8, at_X11_one_9, cd_X11_one_0, cd_X11_one_8, cd_X11_one_9, no_0, no_1, no_lt, no_le, no_eq, no_lt0, no_ge0, no_gt0, no_le0, no_eq0, no_0eq, no_eqm, no_meq, no_m0, no_mlt, no_mge, no_mgt, no_mm, no_i01, no_i10, no_in, no_or, no_ifm, no_mul, nI_add, nI_clamp, oI_n, oI_s, not_true_eq_false, not_false_eq_true, forall_const, true_implies, false_and, and_false, or_false, false_or, Classical.not_not, true_or, or_true, no_b, no_eq1, eq_self, and_self])
theorem m_X11_of (hok : ev_ok sh_S G) (hN : MR N μ) {i w : Nat} (hi : i < 16) (hw : w < 59) : ev_T sh_S G mi_X11_of [.ref 301, .int (nI i), .int (nI w)] μ (.inl (some (.int (nI (N (8 + 59 * i + w)))), μ)) := by
  refine ev_tri hok (okM_X11_of 0) (Nat.le_of_ble_eq_true rfl) 400 ?_
  rw [at_X11_of_0]
  unfold MR at hN
  repeat' (first
    | omega
    | assumption
    | exact rfl
    | (refine And.intro (fun q => ?_) (fun q => ?_) <;> (try simp (disch := first | omega | assumption) only [no_0, no_1, no_lt, no_le, no_eq, no_lt0, no_ge0, no_gt0, no_le0, no_eq0, no_0eq, no_eqm, no_meq, no_m0, no_mlt, no_mge, no_mgt, no_mm, no_i01, no_i10, no_in, no_or, no_ifm, no_mul, nI_add, nI_clamp, oI_n, oI_s, not_true_eq_false, not_false_eq_true, forall_const, true_implies, false_and, and_false, or_false, false_or, Classical.not_not, true_or, or_true, no_b, no_eq1, eq_self, and_self, sk_301, sk_302, sl_302, sp_301, hN] at q))
    | refine And.intro ?_ ?_
    | simp (disch := first | omega | assumption) only [ev_run_c, ev_run_n, ev_fj, ev_stp, ev_lk, ev_fv, ev_as, ev_sz, ev_st1, ev_st2, ev_rm, ev_pk, ev_Jof, ev_go, lv_args, List.map_cons, List.map_nil, List.zip_cons_cons, List.zip_nil_left, List.zip_nil_right, List.nil_append, List.cons_append, ↓reduceIte, reduceCtorEq, Int.reduceToNat, Nat.reduceEqDiff, Nat.reduceAdd, Nat.reduceLT, Nat.reduceLeDiff, Nat.reduceMul, Value.category, false_implies, true_and, and_true, Bool.false_eq_true, Option.some.injEq, exists_eq_left', Option.toList_some, Option.toList_none, ev_km, ev_k2, ev_k3, ev_k4, ev_k5, ev_l0, ev_l1, sh_1, sh_2, sh_3, sh_4, sh_5, cd_X11_of_0, fl_X11_9, ev_b_59, ev_b_8, no_0, no_1, no_lt, no_le, no_eq, no_lt0, no_ge0, no_gt0, no_le0, no_eq0, no_0eq, no_eqm, no_meq, no_m0, no_mlt, no_mge, no_mgt, no_mm, no_i01, no_i10, no_in, no_or, no_ifm, no_mul, nI_add, nI_clamp, oI_n, oI_s, not_true_eq_false, not_false_eq_true, forall_const, true_implies, false_and, and_false, or_false, false_or, Classical.not_not, true_or, or_true, no_b, no_eq1, eq_self, and_self, sk_301, sk_302, sl_302, sp_301, hN])
theorem m_X11_ofCake (hok : ev_ok sh_S G) (hN : MR N μ) {i w : Nat} (hi : i < 10) (hw : w < 9) : ev_T sh_S G mi_X11_ofCake [.ref 301, .int (nI i), .int (nI w)] μ (.inl (some (.int (nI (N (952 + 9 * i + w)))), μ)) := by
  refine ev_tri hok (okM_X11_ofCake 0) (Nat.le_of_ble_eq_true rfl) 400 ?_
  rw [at_X11_ofCake_0]
  unfold MR at hN
  repeat' (first
    | omega
    | assumption
    | exact rfl
    | (refine And.intro (fun q => ?_) (fun q => ?_) <;> (try simp (disch := first | omega | assumption) only [no_0, no_1, no_lt, no_le, no_eq, no_lt0, no_ge0, no_gt0, no_le0, no_eq0, no_0eq, no_eqm, no_meq, no_m0, no_mlt, no_mge, no_mgt, no_mm, no_i01, no_i10, no_in, no_or, no_ifm, no_mul, nI_add, nI_clamp, oI_n, oI_s, not_true_eq_false, not_false_eq_true, forall_const, true_implies, false_and, and_false, or_false, false_or, Classical.not_not, true_or, or_true, no_b, no_eq1, eq_self, and_self, sk_301, sk_302, sl_302, sp_301, hN] at q))
    | refine And.intro ?_ ?_
    | simp (disch := first | omega | assumption) only [ev_run_c, ev_run_n, ev_fj, ev_stp, ev_lk, ev_fv, ev_as, ev_sz, ev_st1, ev_st2, ev_rm, ev_pk, ev_Jof, ev_go, lv_args, List.map_cons, List.map_nil, List.zip_cons_cons, List.zip_nil_left, List.zip_nil_right, List.nil_append, List.cons_append, ↓reduceIte, reduceCtorEq, Int.reduceToNat, Nat.reduceEqDiff, Nat.reduceAdd, Nat.reduceLT, Nat.reduceLeDiff, Nat.reduceMul, Value.category, false_implies, true_and, and_true, Bool.false_eq_true, Option.some.injEq, exists_eq_left', Option.toList_some, Option.toList_none, ev_km, ev_k2, ev_k3, ev_k4, ev_k5, ev_l0, ev_l1, sh_1, sh_2, sh_3, sh_4, sh_5, cd_X11_ofCake_0, fl_X11_9, ev_b_9, ev_h_952, no_0, no_1, no_lt, no_le, no_eq, no_lt0, no_ge0, no_gt0, no_le0, no_eq0, no_0eq, no_eqm, no_meq, no_m0, no_mlt, no_mge, no_mgt, no_mm, no_i01, no_i10, no_in, no_or, no_ifm, no_mul, nI_add, nI_clamp, oI_n, oI_s, not_true_eq_false, not_false_eq_true, forall_const, true_implies, false_and, and_false, or_false, false_or, Classical.not_not, true_or, or_true, no_b, no_eq1, eq_self, and_self, sk_301, sk_302, sl_302, sp_301, hN])
theorem m_X11_isTasting (hok : ev_ok sh_S G) (hN : MR N μ) {i : Nat} (hi : i < 16) (hl : N (8 + 59 * i + 1) < 2 ^ 31) : ev_T sh_S G mi_X11_isTasting [.ref 301, .int (nI i)] μ (.inl (some (.int (nI (if N (8 + 59 * i + 1) = 0 then 0 else 1))), μ)) := by
  refine ev_tri hok (okM_X11_isTasting 0) (Nat.le_of_ble_eq_true rfl) 400 ?_
  rw [at_X11_isTasting_0]
  repeat' (first
    | omega
    | assumption
    | exact rfl
    | refine lp_nx ?_ ?_ ?_ ?_
    | refine lp_st ?_ ?_ ?_
    | refine ls_c ?_ ?_
    | refine vi_c ?_
    | refine re_c ?_
    | exact trivial
    | (split <;> omega)
    | with_reducible refine ev_ci (m_X11_of hok (by assumption) ?_ ?_) ?_
    | (refine And.intro (fun q => ?_) (fun q => ?_) <;> (try simp (disch := first | omega | assumption) only [no_0, no_1, no_lt, no_le, no_eq, no_lt0, no_ge0, no_gt0, no_le0, no_eq0, no_0eq, no_eqm, no_meq, no_m0, no_mlt, no_mge, no_mgt, no_mm, no_i01, no_i10, no_in, no_or, no_ifm, no_mul, nI_add, nI_clamp, oI_n, oI_s, not_true_eq_false, not_false_eq_true, forall_const, true_implies, false_and, and_false, or_false, false_or, Classical.not_not, true_or, or_true, no_b, no_eq1, eq_self, and_self] at q))
    | refine And.intro ?_ ?_
    | simp (disch := first | omega | assumption) only [ev_run_c, ev_run_n, ev_fj, ev_stp, ev_lk, ev_fv, ev_as, ev_sz, ev_st1, ev_st2, ev_rm, ev_pk, ev_Jof, ev_go, lv_args, List.map_cons, List.map_nil, List.zip_cons_cons, List.zip_nil_left, List.zip_nil_right, List.nil_append, List.cons_append, ↓reduceIte, reduceCtorEq, Int.reduceToNat, Nat.reduceEqDiff, Nat.reduceAdd, Nat.reduceLT, Nat.reduceLeDiff, Nat.reduceMul, Value.category, false_implies, true_and, and_true, Bool.false_eq_true, Option.some.injEq, exists_eq_left', Option.toList_some, Option.toList_none, ev_km, ev_k2, ev_k3, ev_k4, ev_k5, ev_l0, ev_l1, sh_1, sh_2, sh_3, sh_4, sh_5, at_X11_isTasting_13, at_X11_isTasting_14, ca_X11_121, cd_X11_isTasting_0, cd_X11_isTasting_13, cd_X11_isTasting_14, no_0, no_1, no_lt, no_le, no_eq, no_lt0, no_ge0, no_gt0, no_le0, no_eq0, no_0eq, no_eqm, no_meq, no_m0, no_mlt, no_mge, no_mgt, no_mm, no_i01, no_i10, no_in, no_or, no_ifm, no_mul, nI_add, nI_clamp, oI_n, oI_s, not_true_eq_false, not_false_eq_true, forall_const, true_implies, false_and, and_false, or_false, false_or, Classical.not_not, true_or, or_true, no_b, no_eq1, eq_self, and_self])
/-- the place of a person among the tasters, and among the cooks -/
def sP (N : Nat → Nat) (q i : Nat) : Nat := fx (fun k => N (952 + 9 * q + (6 + k))) i (N (952 + 9 * q + 5))
def cP (N : Nat → Nat) (q i n : Nat) : Nat := fx (fun k => N (952 + 9 * q + (2 + k))) i n
/-- what holds of the row between calls -/
def INV (N : Nat → Nat) : Prop :=
  (N 0 ≤ 16 ∧ N 1 ≤ 10 ∧ N 2 ≤ 900 ∧ N 3 ≤ 10) ∧ (∀ k, 8 ≤ k → N k < 128) ∧
  (∀ q, q < 10 → N (952 + 9 * q + 0) ≤ 3 ∧ N (952 + 9 * q + 1) ≤ 3 ∧ N (952 + 9 * q + 5) ≤ 3) ∧
  (∀ q k, q < 10 → k < N (952 + 9 * q + 1) → N (952 + 9 * q + (2 + k)) < N 0) ∧
  (∀ q k, q < 10 → k < N (952 + 9 * q + 5) → N (952 + 9 * q + (6 + k)) < N 0) ∧
  (∀ q k l, q < 10 → k < l → l < N (952 + 9 * q + 5) → N (952 + 9 * q + (6 + k)) ≠ N (952 + 9 * q + (6 + l))) ∧
  (∀ i, i < 16 → N (8 + 59 * i + 1) ≤ 6 ∧ N (8 + 59 * i + 6) ≤ 6) ∧
  (∀ i t, i < 16 → t < 4 → N (8 + 59 * i + (2 + t)) ≤ 9) ∧
  (∀ i q, i < 16 → q < 10 → N (8 + 59 * i + (13 + q)) ≤ 3 ∧ N (8 + 59 * i + (23 + q)) ≤ 9 ∧ N (8 + 59 * i + (33 + q)) ≤ 1) ∧
  (∀ i j, i < 16 → j < 16 → N (8 + 59 * i + (43 + j)) ≤ 1) ∧
  (∀ i w, N 0 ≤ i → i < 16 → w < 59 → N (8 + 59 * i + w) = 0) ∧
  (∀ q w, N 1 ≤ q → q < 10 → w < 9 → N (952 + 9 * q + w) = 0) ∧
  (∀ i q, i < 16 → N 1 ≤ q → q < 10 → N (8 + 59 * i + (13 + q)) = 0 ∧ N (8 + 59 * i + (23 + q)) = 0 ∧ N (8 + 59 * i + (33 + q)) = 0) ∧
  (∀ i q, i < 16 → q < 10 → N (8 + 59 * i + (23 + q)) ≠ 0 → sP N q i < N (952 + 9 * q + 5)) ∧
  (∀ q k, q < 10 → k < N (952 + 9 * q + 5) → N (8 + 59 * (N (952 + 9 * q + (6 + k))) + 1) ≠ 0) ∧
  (∀ i k, i < N 0 → 1 ≤ N (8 + 59 * i + 6) ∧ (k < N (8 + 59 * i + 6) → 97 ≤ N (8 + 59 * i + (7 + k)) ∧ N (8 + 59 * i + (7 + k)) ≤ 122))
theorem iv_h (h : INV N) : N 0 ≤ 16 ∧ N 1 ≤ 10 ∧ N 2 ≤ 900 ∧ N 3 ≤ 10 := h.1
theorem iv_b (h : INV N) : ∀ k, 8 ≤ k → N k < 128 := h.2.1
theorem iv_31 (h : INV N) {k : Nat} (hk : 8 ≤ k) : N k < 2 ^ 31 := by have := h.2.1 k hk; omega
theorem iv_q (h : INV N) : ∀ q, q < 10 → N (952 + 9 * q + 0) ≤ 3 ∧ N (952 + 9 * q + 1) ≤ 3 ∧ N (952 + 9 * q + 5) ≤ 3 := h.2.2.1
theorem iv_ck (h : INV N) : ∀ q k, q < 10 → k < N (952 + 9 * q + 1) → N (952 + 9 * q + (2 + k)) < N 0 := h.2.2.2.1
theorem iv_st (h : INV N) : ∀ q k, q < 10 → k < N (952 + 9 * q + 5) → N (952 + 9 * q + (6 + k)) < N 0 := h.2.2.2.2.1
theorem iv_di (h : INV N) : ∀ q k l, q < 10 → k < l → l < N (952 + 9 * q + 5) → N (952 + 9 * q + (6 + k)) ≠ N (952 + 9 * q + (6 + l)) := h.2.2.2.2.2.1
theorem iv_p (h : INV N) : ∀ i, i < 16 → N (8 + 59 * i + 1) ≤ 6 ∧ N (8 + 59 * i + 6) ≤ 6 := h.2.2.2.2.2.2.1
theorem iv_t (h : INV N) : ∀ i t, i < 16 → t < 4 → N (8 + 59 * i + (2 + t)) ≤ 9 := h.2.2.2.2.2.2.2.1
theorem iv_pq (h : INV N) : ∀ i q, i < 16 → q < 10 → N (8 + 59 * i + (13 + q)) ≤ 3 ∧ N (8 + 59 * i + (23 + q)) ≤ 9 ∧ N (8 + 59 * i + (33 + q)) ≤ 1 := h.2.2.2.2.2.2.2.2.1
theorem iv_w (h : INV N) : ∀ i j, i < 16 → j < 16 → N (8 + 59 * i + (43 + j)) ≤ 1 := h.2.2.2.2.2.2.2.2.2.1
theorem iv_z1 (h : INV N) : ∀ i w, N 0 ≤ i → i < 16 → w < 59 → N (8 + 59 * i + w) = 0 := h.2.2.2.2.2.2.2.2.2.2.1
theorem iv_z2 (h : INV N) : ∀ q w, N 1 ≤ q → q < 10 → w < 9 → N (952 + 9 * q + w) = 0 := h.2.2.2.2.2.2.2.2.2.2.2.1
theorem iv_z3 (h : INV N) : ∀ i q, i < 16 → N 1 ≤ q → q < 10 → N (8 + 59 * i + (13 + q)) = 0 ∧ N (8 + 59 * i + (23 + q)) = 0 ∧ N (8 + 59 * i + (33 + q)) = 0 := h.2.2.2.2.2.2.2.2.2.2.2.2.1
theorem iv_sc (h : INV N) : ∀ i q, i < 16 → q < 10 → N (8 + 59 * i + (23 + q)) ≠ 0 → sP N q i < N (952 + 9 * q + 5) := h.2.2.2.2.2.2.2.2.2.2.2.2.2.1
theorem iv_ts (h : INV N) : ∀ q k, q < 10 → k < N (952 + 9 * q + 5) → N (8 + 59 * (N (952 + 9 * q + (6 + k))) + 1) ≠ 0 := h.2.2.2.2.2.2.2.2.2.2.2.2.2.2.1
theorem iv_nm (h : INV N) : ∀ i k, i < N 0 → 1 ≤ N (8 + 59 * i + 6) ∧ (k < N (8 + 59 * i + 6) → 97 ≤ N (8 + 59 * i + (7 + k)) ∧ N (8 + 59 * i + (7 + k)) ≤ 122) := h.2.2.2.2.2.2.2.2.2.2.2.2.2.2.2
theorem m_X11_cooks (hok : ev_ok sh_S G) (hN : MR N μ) {i q n : Nat} (hi : i < 2 ^ 31) (hq : q < 10) (hn : n ≤ 3) (hv : ∀ k, k < n → N (952 + 9 * q + (2 + k)) < 2 ^ 31) : ev_T sh_S G mi_X11_cooks [.ref 301, .int (nI q), .int (nI n), .int (nI i)] μ (.inl (some (.int (nI (if cP N q i n < n then 1 else 0))), μ)) := by
  refine ev_tri1 hok (okM_X11_cooks 0) (Nat.le_of_ble_eq_true rfl) 3 [0, 1, 2, 3, 4] n 400 (fun k => [.ref 301, .int (nI q), .int (nI n), .int (nI i), .int (nI k)]) (fun _ => μ) (fun k => fx (fun k => N (952 + 9 * q + (2 + k))) i k = k) ?_ ?_
  · intro k hk hf
    rw [at_X11_cooks_3]
    rcases Nat.lt_or_ge k n with hkn | hkn
    · have hv := hv k hkn
      repeat' (first
        | omega
        | assumption
        | exact rfl
        | exact fx_s ‹_› ‹_›
        | (rw [if_pos (by unfold cP; rw [fx_at hkn hf ‹_›]; exact hkn)])
        | refine lp_nx ?_ ?_ ?_ ?_
        | refine lp_st ?_ ?_ ?_
        | refine ls_c ?_ ?_
        | refine vi_c ?_
        | refine re_c ?_
        | exact trivial
        | (split <;> omega)
        | with_reducible refine ev_ci (m_X11_ofCake hok (by assumption) ?_ ?_) ?_
        | (refine And.intro (fun q => ?_) (fun q => ?_) <;> (try simp (disch := first | omega | assumption) only [no_0, no_1, no_lt, no_le, no_eq, no_lt0, no_ge0, no_gt0, no_le0, no_eq0, no_0eq, no_eqm, no_meq, no_m0, no_mlt, no_mge, no_mgt, no_mm, no_i01, no_i10, no_in, no_or, no_ifm, no_mul, nI_add, nI_clamp, oI_n, oI_s, not_true_eq_false, not_false_eq_true, forall_const, true_implies, false_and, and_false, or_false, false_or, Classical.not_not, true_or, or_true, no_b, no_eq1, eq_self, and_self] at q))
        | refine And.intro ?_ ?_
        | simp (disch := first | omega | assumption) only [ev_run_c, ev_run_n, ev_fj, ev_stp, ev_lk, ev_fv, ev_as, ev_sz, ev_st1, ev_st2, ev_rm, ev_pk, ev_Jof, ev_go, lv_args, List.map_cons, List.map_nil, List.zip_cons_cons, List.zip_nil_left, List.zip_nil_right, List.nil_append, List.cons_append, ↓reduceIte, reduceCtorEq, Int.reduceToNat, Nat.reduceEqDiff, Nat.reduceAdd, Nat.reduceLT, Nat.reduceLeDiff, Nat.reduceMul, Value.category, false_implies, true_and, and_true, Bool.false_eq_true, Option.some.injEq, exists_eq_left', Option.toList_some, Option.toList_none, ev_km, ev_k2, ev_k3, ev_k4, ev_k5, ev_l0, ev_l1, sh_1, sh_2, sh_3, sh_4, sh_5, at_X11_cooks_24, at_X11_cooks_3, at_X11_cooks_30, ca_X11_195, cd_X11_cooks_0, cd_X11_cooks_24, cd_X11_cooks_3, cd_X11_cooks_30, no_0, no_1, no_lt, no_le, no_eq, no_lt0, no_ge0, no_gt0, no_le0, no_eq0, no_0eq, no_eqm, no_meq, no_m0, no_mlt, no_mge, no_mgt, no_mm, no_i01, no_i10, no_in, no_or, no_ifm, no_mul, nI_add, nI_clamp, oI_n, oI_s, not_true_eq_false, not_false_eq_true, forall_const, true_implies, false_and, and_false, or_false, false_or, Classical.not_not, true_or, or_true, no_b, no_eq1, eq_self, and_self])
    · have hkn : n = k := by omega
      subst hkn
      repeat' (first
        | omega
        | assumption
        | exact rfl
        | (rw [if_neg (by unfold cP; rw [hf]; omega)])
        | refine lp_nx ?_ ?_ ?_ ?_
        | refine lp_st ?_ ?_ ?_
        | refine ls_c ?_ ?_
        | refine vi_c ?_
        | refine re_c ?_
        | exact trivial
        | (split <;> omega)
        | with_reducible refine ev_ci (m_X11_ofCake hok (by assumption) ?_ ?_) ?_
        | (refine And.intro (fun q => ?_) (fun q => ?_) <;> (try simp (disch := first | omega | assumption) only [no_0, no_1, no_lt, no_le, no_eq, no_lt0, no_ge0, no_gt0, no_le0, no_eq0, no_0eq, no_eqm, no_meq, no_m0, no_mlt, no_mge, no_mgt, no_mm, no_i01, no_i10, no_in, no_or, no_ifm, no_mul, nI_add, nI_clamp, oI_n, oI_s, not_true_eq_false, not_false_eq_true, forall_const, true_implies, false_and, and_false, or_false, false_or, Classical.not_not, true_or, or_true, no_b, no_eq1, eq_self, and_self] at q))
        | refine And.intro ?_ ?_
        | simp (disch := first | omega | assumption) only [ev_run_c, ev_run_n, ev_fj, ev_stp, ev_lk, ev_fv, ev_as, ev_sz, ev_st1, ev_st2, ev_rm, ev_pk, ev_Jof, ev_go, lv_args, List.map_cons, List.map_nil, List.zip_cons_cons, List.zip_nil_left, List.zip_nil_right, List.nil_append, List.cons_append, ↓reduceIte, reduceCtorEq, Int.reduceToNat, Nat.reduceEqDiff, Nat.reduceAdd, Nat.reduceLT, Nat.reduceLeDiff, Nat.reduceMul, Value.category, false_implies, true_and, and_true, Bool.false_eq_true, Option.some.injEq, exists_eq_left', Option.toList_some, Option.toList_none, ev_km, ev_k2, ev_k3, ev_k4, ev_k5, ev_l0, ev_l1, sh_1, sh_2, sh_3, sh_4, sh_5, at_X11_cooks_24, at_X11_cooks_3, at_X11_cooks_30, ca_X11_195, cd_X11_cooks_0, cd_X11_cooks_24, cd_X11_cooks_3, cd_X11_cooks_30, no_0, no_1, no_lt, no_le, no_eq, no_lt0, no_ge0, no_gt0, no_le0, no_eq0, no_0eq, no_eqm, no_meq, no_m0, no_mlt, no_mge, no_mgt, no_mm, no_i01, no_i10, no_in, no_or, no_ifm, no_mul, nI_add, nI_clamp, oI_n, oI_s, not_true_eq_false, not_false_eq_true, forall_const, true_implies, false_and, and_false, or_false, false_or, Classical.not_not, true_or, or_true, no_b, no_eq1, eq_self, and_self])
  · rw [at_X11_cooks_0]
    repeat' (first
      | omega
      | assumption
      | exact rfl
      | refine lp_nx ?_ ?_ ?_ ?_
      | refine lp_st ?_ ?_ ?_
      | refine ls_c ?_ ?_
      | refine vi_c ?_
      | refine re_c ?_
      | exact trivial
      | (split <;> omega)
      | with_reducible refine ev_ci (m_X11_ofCake hok (by assumption) ?_ ?_) ?_
      | (refine And.intro (fun q => ?_) (fun q => ?_) <;> (try simp (disch := first | omega | assumption) only [no_0, no_1, no_lt, no_le, no_eq, no_lt0, no_ge0, no_gt0, no_le0, no_eq0, no_0eq, no_eqm, no_meq, no_m0, no_mlt, no_mge, no_mgt, no_mm, no_i01, no_i10, no_in, no_or, no_ifm, no_mul, nI_add, nI_clamp, oI_n, oI_s, not_true_eq_false, not_false_eq_true, forall_const, true_implies, false_and, and_false, or_false, false_or, Classical.not_not, true_or, or_true, no_b, no_eq1, eq_self, and_self] at q))
      | refine And.intro ?_ ?_
      | simp (disch := first | omega | assumption) only [ev_run_c, ev_run_n, ev_fj, ev_stp, ev_lk, ev_fv, ev_as, ev_sz, ev_st1, ev_st2, ev_rm, ev_pk, ev_Jof, ev_go, lv_args, List.map_cons, List.map_nil, List.zip_cons_cons, List.zip_nil_left, List.zip_nil_right, List.nil_append, List.cons_append, ↓reduceIte, reduceCtorEq, Int.reduceToNat, Nat.reduceEqDiff, Nat.reduceAdd, Nat.reduceLT, Nat.reduceLeDiff, Nat.reduceMul, Value.category, false_implies, true_and, and_true, Bool.false_eq_true, Option.some.injEq, exists_eq_left', Option.toList_some, Option.toList_none, ev_km, ev_k2, ev_k3, ev_k4, ev_k5, ev_l0, ev_l1, sh_1, sh_2, sh_3, sh_4, sh_5, at_X11_cooks_24, at_X11_cooks_3, at_X11_cooks_30, ca_X11_195, cd_X11_cooks_0, cd_X11_cooks_24, cd_X11_cooks_3, cd_X11_cooks_30, no_0, no_1, no_lt, no_le, no_eq, no_lt0, no_ge0, no_gt0, no_le0, no_eq0, no_0eq, no_eqm, no_meq, no_m0, no_mlt, no_mge, no_mgt, no_mm, no_i01, no_i10, no_in, no_or, no_ifm, no_mul, nI_add, nI_clamp, oI_n, oI_s, not_true_eq_false, not_false_eq_true, forall_const, true_implies, false_and, and_false, or_false, false_or, Classical.not_not, true_or, or_true, no_b, no_eq1, eq_self, and_self])
theorem m_X11_seatOf (hok : ev_ok sh_S G) (hN : MR N μ) {i q : Nat} (hi : i < 2 ^ 31) (hq : q < 10) (hn : N (952 + 9 * q + 5) ≤ 3) (hv : ∀ k, k < N (952 + 9 * q + 5) → N (952 + 9 * q + (6 + k)) < 2 ^ 31) : ev_T sh_S G mi_X11_seatOf [.ref 301, .int (nI i), .int (nI q)] μ (.inl (some (.int (if sP N q i < N (952 + 9 * q + 5) then nI (sP N q i) else -1)), μ)) := by
  refine ev_tri1 hok (okM_X11_seatOf 0) (Nat.le_of_ble_eq_true rfl) 2 [0, 1, 2, 3] (N (952 + 9 * q + 5)) 400 (fun k => [.ref 301, .int (nI i), .int (nI q), .int (nI k)]) (fun _ => μ) (fun k => fx (fun k => N (952 + 9 * q + (6 + k))) i k = k) ?_ ?_
  · intro k hk hf
    rw [at_X11_seatOf_2]
    rcases Nat.lt_or_ge k (N (952 + 9 * q + 5)) with hkn | hkn
    · have hv := hv k hkn
      repeat' (first
        | omega
        | assumption
        | exact rfl
        | exact fx_s ‹_› ‹_›
        | (rw [if_pos (by unfold sP; rw [fx_at hkn hf ‹_›]; exact hkn)]; unfold sP; rw [fx_at hkn hf ‹_›])
        | refine lp_nx ?_ ?_ ?_ ?_
        | refine lp_st ?_ ?_ ?_
        | refine ls_c ?_ ?_
        | refine vi_c ?_
        | refine re_c ?_
        | exact trivial
        | (split <;> omega)
        | with_reducible refine ev_ci (m_X11_ofCake hok (by assumption) ?_ ?_) ?_
        | (refine And.intro (fun q => ?_) (fun q => ?_) <;> (try simp (disch := first | omega | assumption) only [no_0, no_1, no_lt, no_le, no_eq, no_lt0, no_ge0, no_gt0, no_le0, no_eq0, no_0eq, no_eqm, no_meq, no_m0, no_mlt, no_mge, no_mgt, no_mm, no_i01, no_i10, no_in, no_or, no_ifm, no_mul, nI_add, nI_clamp, oI_n, oI_s, not_true_eq_false, not_false_eq_true, forall_const, true_implies, false_and, and_false, or_false, false_or, Classical.not_not, true_or, or_true, no_b, no_eq1, eq_self, and_self] at q))
        | refine And.intro ?_ ?_
        | simp (disch := first | omega | assumption) only [ev_run_c, ev_run_n, ev_fj, ev_stp, ev_lk, ev_fv, ev_as, ev_sz, ev_st1, ev_st2, ev_rm, ev_pk, ev_Jof, ev_go, lv_args, List.map_cons, List.map_nil, List.zip_cons_cons, List.zip_nil_left, List.zip_nil_right, List.nil_append, List.cons_append, ↓reduceIte, reduceCtorEq, Int.reduceToNat, Nat.reduceEqDiff, Nat.reduceAdd, Nat.reduceLT, Nat.reduceLeDiff, Nat.reduceMul, Value.category, false_implies, true_and, and_true, Bool.false_eq_true, Option.some.injEq, exists_eq_left', Option.toList_some, Option.toList_none, ev_km, ev_k2, ev_k3, ev_k4, ev_k5, ev_l0, ev_l1, sh_1, sh_2, sh_3, sh_4, sh_5, at_X11_seatOf_2, at_X11_seatOf_27, at_X11_seatOf_33, ca_X11_195, cd_X11_seatOf_0, cd_X11_seatOf_2, cd_X11_seatOf_27, cd_X11_seatOf_33, ev_b_6, no_0, no_1, no_lt, no_le, no_eq, no_lt0, no_ge0, no_gt0, no_le0, no_eq0, no_0eq, no_eqm, no_meq, no_m0, no_mlt, no_mge, no_mgt, no_mm, no_i01, no_i10, no_in, no_or, no_ifm, no_mul, nI_add, nI_clamp, oI_n, oI_s, not_true_eq_false, not_false_eq_true, forall_const, true_implies, false_and, and_false, or_false, false_or, Classical.not_not, true_or, or_true, no_b, no_eq1, eq_self, and_self])
    · have hkn : N (952 + 9 * q + 5) = k := by omega
      have hs : sP N q i = k := by unfold sP; rw [hkn]; exact hf
      rw [if_neg (by omega)]
      repeat' (first
        | omega
        | assumption
        | exact rfl
        | refine lp_nx ?_ ?_ ?_ ?_
        | refine lp_st ?_ ?_ ?_
        | refine ls_c ?_ ?_
        | refine vi_c ?_
        | refine re_c ?_
        | exact trivial
        | (split <;> omega)
        | with_reducible refine ev_ci (m_X11_ofCake hok (by assumption) ?_ ?_) ?_
        | (refine And.intro (fun q => ?_) (fun q => ?_) <;> (try simp (disch := first | omega | assumption) only [no_0, no_1, no_lt, no_le, no_eq, no_lt0, no_ge0, no_gt0, no_le0, no_eq0, no_0eq, no_eqm, no_meq, no_m0, no_mlt, no_mge, no_mgt, no_mm, no_i01, no_i10, no_in, no_or, no_ifm, no_mul, nI_add, nI_clamp, oI_n, oI_s, not_true_eq_false, not_false_eq_true, forall_const, true_implies, false_and, and_false, or_false, false_or, Classical.not_not, true_or, or_true, no_b, no_eq1, eq_self, and_self] at q))
        | refine And.intro ?_ ?_
        | simp (disch := first | omega | assumption) only [ev_run_c, ev_run_n, ev_fj, ev_stp, ev_lk, ev_fv, ev_as, ev_sz, ev_st1, ev_st2, ev_rm, ev_pk, ev_Jof, ev_go, lv_args, List.map_cons, List.map_nil, List.zip_cons_cons, List.zip_nil_left, List.zip_nil_right, List.nil_append, List.cons_append, ↓reduceIte, reduceCtorEq, Int.reduceToNat, Nat.reduceEqDiff, Nat.reduceAdd, Nat.reduceLT, Nat.reduceLeDiff, Nat.reduceMul, Value.category, false_implies, true_and, and_true, Bool.false_eq_true, Option.some.injEq, exists_eq_left', Option.toList_some, Option.toList_none, ev_km, ev_k2, ev_k3, ev_k4, ev_k5, ev_l0, ev_l1, sh_1, sh_2, sh_3, sh_4, sh_5, at_X11_seatOf_2, at_X11_seatOf_27, at_X11_seatOf_33, ca_X11_195, cd_X11_seatOf_0, cd_X11_seatOf_2, cd_X11_seatOf_27, cd_X11_seatOf_33, ev_b_6, no_0, no_1, no_lt, no_le, no_eq, no_lt0, no_ge0, no_gt0, no_le0, no_eq0, no_0eq, no_eqm, no_meq, no_m0, no_mlt, no_mge, no_mgt, no_mm, no_i01, no_i10, no_in, no_or, no_ifm, no_mul, nI_add, nI_clamp, oI_n, oI_s, not_true_eq_false, not_false_eq_true, forall_const, true_implies, false_and, and_false, or_false, false_or, Classical.not_not, true_or, or_true, no_b, no_eq1, eq_self, and_self])
  · rw [at_X11_seatOf_0]
    repeat' (first
      | omega
      | assumption
      | exact rfl
      | refine lp_nx ?_ ?_ ?_ ?_
      | refine lp_st ?_ ?_ ?_
      | refine ls_c ?_ ?_
      | refine vi_c ?_
      | refine re_c ?_
      | exact trivial
      | (split <;> omega)
      | with_reducible refine ev_ci (m_X11_ofCake hok (by assumption) ?_ ?_) ?_
      | (refine And.intro (fun q => ?_) (fun q => ?_) <;> (try simp (disch := first | omega | assumption) only [no_0, no_1, no_lt, no_le, no_eq, no_lt0, no_ge0, no_gt0, no_le0, no_eq0, no_0eq, no_eqm, no_meq, no_m0, no_mlt, no_mge, no_mgt, no_mm, no_i01, no_i10, no_in, no_or, no_ifm, no_mul, nI_add, nI_clamp, oI_n, oI_s, not_true_eq_false, not_false_eq_true, forall_const, true_implies, false_and, and_false, or_false, false_or, Classical.not_not, true_or, or_true, no_b, no_eq1, eq_self, and_self] at q))
      | refine And.intro ?_ ?_
      | simp (disch := first | omega | assumption) only [ev_run_c, ev_run_n, ev_fj, ev_stp, ev_lk, ev_fv, ev_as, ev_sz, ev_st1, ev_st2, ev_rm, ev_pk, ev_Jof, ev_go, lv_args, List.map_cons, List.map_nil, List.zip_cons_cons, List.zip_nil_left, List.zip_nil_right, List.nil_append, List.cons_append, ↓reduceIte, reduceCtorEq, Int.reduceToNat, Nat.reduceEqDiff, Nat.reduceAdd, Nat.reduceLT, Nat.reduceLeDiff, Nat.reduceMul, Value.category, false_implies, true_and, and_true, Bool.false_eq_true, Option.some.injEq, exists_eq_left', Option.toList_some, Option.toList_none, ev_km, ev_k2, ev_k3, ev_k4, ev_k5, ev_l0, ev_l1, sh_1, sh_2, sh_3, sh_4, sh_5, at_X11_seatOf_2, at_X11_seatOf_27, at_X11_seatOf_33, ca_X11_195, cd_X11_seatOf_0, cd_X11_seatOf_2, cd_X11_seatOf_27, cd_X11_seatOf_33, ev_b_6, no_0, no_1, no_lt, no_le, no_eq, no_lt0, no_ge0, no_gt0, no_le0, no_eq0, no_0eq, no_eqm, no_meq, no_m0, no_mlt, no_mge, no_mgt, no_mm, no_i01, no_i10, no_in, no_or, no_ifm, no_mul, nI_add, nI_clamp, oI_n, oI_s, not_true_eq_false, not_false_eq_true, forall_const, true_implies, false_and, and_false, or_false, false_or, Classical.not_not, true_or, or_true, no_b, no_eq1, eq_self, and_self])
/-- how many pancakes a person tastes -/
def ld (N : Nat → Nat) (i : Nat) : Nat → Nat := sm (fun q => if sP N q i < N (952 + 9 * q + 5) then 1 else 0)
theorem ld_le (N : Nat → Nat) (i n : Nat) : ld N i n ≤ n := by
  have := sm_le (f := fun q => if sP N q i < N (952 + 9 * q + 5) then 1 else 0) (B := 1) n (fun k _ => by (try dsimp only); split <;> omega)
  unfold ld
  omega
theorem ld_y {N : Nat → Nat} {i k : Nat} (h : sP N k i < N (952 + 9 * k + 5)) : ld N i k + 1 = ld N i (k + 1) := by
  show _ = ld N i k + (if sP N k i < N (952 + 9 * k + 5) then 1 else 0)
  rw [if_pos h]
theorem ld_n {N : Nat → Nat} {i k : Nat} (h : ¬ sP N k i < N (952 + 9 * k + 5)) : ld N i k + 0 = ld N i (k + 1) := by
  show _ = ld N i k + (if sP N k i < N (952 + 9 * k + 5) then 1 else 0)
  rw [if_neg h]
theorem m_X11_load (hok : ev_ok sh_S G) (hN : MR N μ) (hI : INV N) {i : Nat} (hi : i < 2 ^ 31) : ev_T sh_S G mi_X11_load [.ref 301, .int (nI i)] μ (.inl (some (.int (nI (ld N i (N 1)))), μ)) := by
  have hh := iv_h hI
  refine ev_tri1 hok (okM_X11_load 0) (Nat.le_of_ble_eq_true rfl) 4 [0, 1, 2, 3] (N 1) 400 (fun k => [.ref 301, .int (nI i), .int (nI (ld N i k)), .int (nI k)]) (fun _ => μ) (fun _ => True) ?_ ?_
  · intro k hk _
    rw [at_X11_load_4]
    have hN' : ∀ k, k < 1042 → μ.1 302 k = nI (N k) := hN
    have hld := ld_le N i k
    rcases Nat.lt_or_ge k (N 1) with hkn | hkn
    · have hq := iv_q hI k (by omega)
      have hst := iv_st hI k
      have hsp : sP N k i ≤ N (952 + 9 * k + 5) := fx_le _ _ _
      repeat' (first
        | omega
        | assumption
        | exact rfl
        | exact ld_y ‹_›
        | exact ld_n ‹_›
        | (intro j hj; have := hst j (by omega) hj; omega)
        | refine lp_nx ?_ ?_ ?_ ?_
        | refine lp_st ?_ ?_ ?_
        | refine ls_c ?_ ?_
        | refine vi_c ?_
        | refine re_c ?_
        | exact trivial
        | (split <;> omega)
        | with_reducible refine ev_ci (m_X11_seatOf hok (by assumption) ?_ ?_ ?_ ?_) ?_
        | with_reducible refine ev_ci (m_X11_one hok _ ?_) ?_
        | (refine And.intro (fun q => ?_) (fun q => ?_) <;> (try simp (disch := first | omega | assumption) only [no_0, no_1, no_lt, no_le, no_eq, no_lt0, no_ge0, no_gt0, no_le0, no_eq0, no_0eq, no_eqm, no_meq, no_m0, no_mlt, no_mge, no_mgt, no_mm, no_i01, no_i10, no_in, no_or, no_ifm, no_mul, nI_add, nI_clamp, oI_n, oI_s, not_true_eq_false, not_false_eq_true, forall_const, true_implies, false_and, and_false, or_false, false_or, Classical.not_not, true_or, or_true, no_b, no_eq1, eq_self, and_self, sk_301, sk_302, sl_302, sp_301, hN'] at q))
        | refine And.intro ?_ ?_
        | simp (disch := first | omega | assumption) only [ev_run_c, ev_run_n, ev_fj, ev_stp, ev_lk, ev_fv, ev_as, ev_sz, ev_st1, ev_st2, ev_rm, ev_pk, ev_Jof, ev_go, lv_args, List.map_cons, List.map_nil, List.zip_cons_cons, List.zip_nil_left, List.zip_nil_right, List.nil_append, List.cons_append, ↓reduceIte, reduceCtorEq, Int.reduceToNat, Nat.reduceEqDiff, Nat.reduceAdd, Nat.reduceLT, Nat.reduceLeDiff, Nat.reduceMul, Value.category, false_implies, true_and, and_true, Bool.false_eq_true, Option.some.injEq, exists_eq_left', Option.toList_some, Option.toList_none, ev_km, ev_k2, ev_k3, ev_k4, ev_k5, ev_l0, ev_l1, sh_1, sh_2, sh_3, sh_4, sh_5, at_X11_load_29, at_X11_load_30, at_X11_load_4, at_X11_load_41, ca_X11_180, ca_X11_325, cd_X11_load_0, cd_X11_load_29, cd_X11_load_30, cd_X11_load_4, cd_X11_load_41, fl_X11_9, no_0, no_1, no_lt, no_le, no_eq, no_lt0, no_ge0, no_gt0, no_le0, no_eq0, no_0eq, no_eqm, no_meq, no_m0, no_mlt, no_mge, no_mgt, no_mm, no_i01, no_i10, no_in, no_or, no_ifm, no_mul, nI_add, nI_clamp, oI_n, oI_s, not_true_eq_false, not_false_eq_true, forall_const, true_implies, false_and, and_false, or_false, false_or, Classical.not_not, true_or, or_true, no_b, no_eq1, eq_self, and_self, sk_301, sk_302, sl_302, sp_301, hN'])
    · have hkn : N 1 = k := by omega
      subst hkn
      repeat' (first
        | omega
        | assumption
        | exact rfl
        | refine lp_nx ?_ ?_ ?_ ?_
        | refine lp_st ?_ ?_ ?_
        | refine ls_c ?_ ?_
        | refine vi_c ?_
        | refine re_c ?_
        | exact trivial
        | (split <;> omega)
        | with_reducible refine ev_ci (m_X11_seatOf hok (by assumption) ?_ ?_ ?_ ?_) ?_
        | with_reducible refine ev_ci (m_X11_one hok _ ?_) ?_
        | (refine And.intro (fun q => ?_) (fun q => ?_) <;> (try simp (disch := first | omega | assumption) only [no_0, no_1, no_lt, no_le, no_eq, no_lt0, no_ge0, no_gt0, no_le0, no_eq0, no_0eq, no_eqm, no_meq, no_m0, no_mlt, no_mge, no_mgt, no_mm, no_i01, no_i10, no_in, no_or, no_ifm, no_mul, nI_add, nI_clamp, oI_n, oI_s, not_true_eq_false, not_false_eq_true, forall_const, true_implies, false_and, and_false, or_false, false_or, Classical.not_not, true_or, or_true, no_b, no_eq1, eq_self, and_self, sk_301, sk_302, sl_302, sp_301, hN'] at q))
        | refine And.intro ?_ ?_
        | simp (disch := first | omega | assumption) only [ev_run_c, ev_run_n, ev_fj, ev_stp, ev_lk, ev_fv, ev_as, ev_sz, ev_st1, ev_st2, ev_rm, ev_pk, ev_Jof, ev_go, lv_args, List.map_cons, List.map_nil, List.zip_cons_cons, List.zip_nil_left, List.zip_nil_right, List.nil_append, List.cons_append, ↓reduceIte, reduceCtorEq, Int.reduceToNat, Nat.reduceEqDiff, Nat.reduceAdd, Nat.reduceLT, Nat.reduceLeDiff, Nat.reduceMul, Value.category, false_implies, true_and, and_true, Bool.false_eq_true, Option.some.injEq, exists_eq_left', Option.toList_some, Option.toList_none, ev_km, ev_k2, ev_k3, ev_k4, ev_k5, ev_l0, ev_l1, sh_1, sh_2, sh_3, sh_4, sh_5, at_X11_load_29, at_X11_load_30, at_X11_load_4, at_X11_load_41, ca_X11_180, ca_X11_325, cd_X11_load_0, cd_X11_load_29, cd_X11_load_30, cd_X11_load_4, cd_X11_load_41, fl_X11_9, no_0, no_1, no_lt, no_le, no_eq, no_lt0, no_ge0, no_gt0, no_le0, no_eq0, no_0eq, no_eqm, no_meq, no_m0, no_mlt, no_mge, no_mgt, no_mm, no_i01, no_i10, no_in, no_or, no_ifm, no_mul, nI_add, nI_clamp, oI_n, oI_s, not_true_eq_false, not_false_eq_true, forall_const, true_implies, false_and, and_false, or_false, false_or, Classical.not_not, true_or, or_true, no_b, no_eq1, eq_self, and_self, sk_301, sk_302, sl_302, sp_301, hN'])
  · rw [at_X11_load_0]
    repeat' (first
      | omega
      | assumption
      | exact rfl
      | refine lp_nx ?_ ?_ ?_ ?_
      | refine lp_st ?_ ?_ ?_
      | refine ls_c ?_ ?_
      | refine vi_c ?_
      | refine re_c ?_
      | exact trivial
      | (split <;> omega)
      | with_reducible refine ev_ci (m_X11_seatOf hok (by assumption) ?_ ?_ ?_ ?_) ?_
      | with_reducible refine ev_ci (m_X11_one hok _ ?_) ?_
      | (refine And.intro (fun q => ?_) (fun q => ?_) <;> (try simp (disch := first | omega | assumption) only [no_0, no_1, no_lt, no_le, no_eq, no_lt0, no_ge0, no_gt0, no_le0, no_eq0, no_0eq, no_eqm, no_meq, no_m0, no_mlt, no_mge, no_mgt, no_mm, no_i01, no_i10, no_in, no_or, no_ifm, no_mul, nI_add, nI_clamp, oI_n, oI_s, not_true_eq_false, not_false_eq_true, forall_const, true_implies, false_and, and_false, or_false, false_or, Classical.not_not, true_or, or_true, no_b, no_eq1, eq_self, and_self] at q))
      | refine And.intro ?_ ?_
      | simp (disch := first | omega | assumption) only [ev_run_c, ev_run_n, ev_fj, ev_stp, ev_lk, ev_fv, ev_as, ev_sz, ev_st1, ev_st2, ev_rm, ev_pk, ev_Jof, ev_go, lv_args, List.map_cons, List.map_nil, List.zip_cons_cons, List.zip_nil_left, List.zip_nil_right, List.nil_append, List.cons_append, ↓reduceIte, reduceCtorEq, Int.reduceToNat, Nat.reduceEqDiff, Nat.reduceAdd, Nat.reduceLT, Nat.reduceLeDiff, Nat.reduceMul, Value.category, false_implies, true_and, and_true, Bool.false_eq_true, Option.some.injEq, exists_eq_left', Option.toList_some, Option.toList_none, ev_km, ev_k2, ev_k3, ev_k4, ev_k5, ev_l0, ev_l1, sh_1, sh_2, sh_3, sh_4, sh_5, at_X11_load_29, at_X11_load_30, at_X11_load_4, at_X11_load_41, ca_X11_180, ca_X11_325, cd_X11_load_0, cd_X11_load_29, cd_X11_load_30, cd_X11_load_4, cd_X11_load_41, fl_X11_9, no_0, no_1, no_lt, no_le, no_eq, no_lt0, no_ge0, no_gt0, no_le0, no_eq0, no_0eq, no_eqm, no_meq, no_m0, no_mlt, no_mge, no_mgt, no_mm, no_i01, no_i10, no_in, no_or, no_ifm, no_mul, nI_add, nI_clamp, oI_n, oI_s, not_true_eq_false, not_false_eq_true, forall_const, true_implies, false_and, and_false, or_false, false_or, Classical.not_not, true_or, or_true, no_b, no_eq1, eq_self, and_self])
end MLeaf
