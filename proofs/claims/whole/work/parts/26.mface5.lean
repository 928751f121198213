/-! ===== the reference: places in lists, copies of the row ===== -/
section MFace5
variable {G : ev_G} {N : Nat → Nat} {μ : ev_M}
theorem thc_ab (a b : Nat) (ha : a < 2) (hb : b < 2) : thc a b 1 = if a = 0 then 1 else if b = 0 then 2 else 0 := by
  unfold thc
  split
  · rfl
  · split <;> rfl
/-- a place in a list: the list's length w, its places from w + r on -/
def c3 (e n : Nat) (x y : Int32) (m : Nat → Nat) : Nat := if e = 0 then 1 else match rx n x with
  | none => 2
  | some j => if rx (m j) y = none then 2 else 0
def v3 (e n : Nat) (x y : Int32) (m : Nat → Nat) (f : Nat → Nat → Int32) : Int32 := if e = 0 then nI 0 else match rx n x with
  | none => nI 0
  | some j => match rx (m j) y with
    | none => nI 0
    | some k => f j k
theorem c3_0 {n : Nat} {x y : Int32} {m : Nat → Nat} : c3 0 n x y m = 1 := rfl
theorem c3_n {n : Nat} {x y : Int32} {m : Nat → Nat} (h : rx n x = none) : c3 1 n x y m = 2 := by unfold c3; rw [h]; rfl
theorem c3_m {n j : Nat} {x y : Int32} {m : Nat → Nat} (h : rx n x = some j) (h2 : rx (m j) y = none) : c3 1 n x y m = 2 := by unfold c3; rw [h]; dsimp only; rw [h2]; rfl
theorem c3_s {n j k : Nat} {x y : Int32} {m : Nat → Nat} (h : rx n x = some j) (h2 : rx (m j) y = some k) : c3 1 n x y m = 0 := by unfold c3; rw [h]; dsimp only; rw [h2]; rfl
theorem v3_0 {n : Nat} {x y : Int32} {m : Nat → Nat} {f : Nat → Nat → Int32} : v3 0 n x y m f = nI 0 := rfl
theorem v3_n {n : Nat} {x y : Int32} {m : Nat → Nat} {f : Nat → Nat → Int32} (h : rx n x = none) : v3 1 n x y m f = nI 0 := by unfold v3; rw [h]; rfl
theorem v3_m {n j : Nat} {x y : Int32} {m : Nat → Nat} {f : Nat → Nat → Int32} (h : rx n x = some j) (h2 : rx (m j) y = none) : v3 1 n x y m f = nI 0 := by unfold v3; rw [h]; dsimp only; rw [h2]; rfl
theorem v3_s {n j k : Nat} {x y : Int32} {m : Nat → Nat} {f : Nat → Nat → Int32} (h : rx n x = some j) (h2 : rx (m j) y = some k) : v3 1 n x y m f = f j k := by unfold v3; rw [h]; dsimp only; rw [h2]; rfl
set_option maxHeartbeats 1000000 in
theorem m_X11_lookAt (hok : ev_ok sh_S G) (hN : MR N μ) (hI : INV N) {e w r : Nat} (he : μ.1 301 6 = nI e) (he2 : e < 2) (x y : Int32) (hw : w < 9) (hr : r < 7) (hm : ∀ q, q < N 1 → N (952 + 9 * q + w) ≤ 3 ∧ (N (952 + 9 * q + w) = 0 ∨ r + 3 ≤ 9)) : ev_T sh_S G mi_X11_lookAt [.ref 301, .int x, .int y, .int (nI w), .int (nI r)] μ (.inl (some (.int (v3 e (N 1) x y (fun q => N (952 + 9 * q + w)) (fun q k => nI (N (952 + 9 * q + (r + k)))))), th μ (c3 e (N 1) x y (fun q => N (952 + 9 * q + w))))) := by
  have hh := iv_h hI
  rcases (show e = 0 ∨ e = 1 by omega) with rfl | rfl
  · rw [v3_0, c3_0]
    refine ev_tri hok (okM_X11_lookAt 0) (Nat.le_of_ble_eq_true rfl) 400 ?_
    rw [at_X11_lookAt_0]
    repeat' (first
      | (with_reducible refine ev_rid ?_; simp (disch := first | omega | assumption) only [ev_run_c, ev_run_n, ev_fj, ev_stp, ev_lk, ev_fv, ev_as, ev_sz, ev_st1, ev_st2, ev_rm, ev_pk, ev_Jof, ev_go, lv_args, List.map_cons, List.map_nil, List.zip_cons_cons, List.zip_nil_left, List.zip_nil_right, List.nil_append, List.cons_append, ↓reduceIte, reduceCtorEq, Int.reduceToNat, Nat.reduceEqDiff, Nat.reduceAdd, Nat.reduceLT, Nat.reduceLeDiff, Nat.reduceMul, Value.category, false_implies, true_and, and_true, Bool.false_eq_true, Option.some.injEq, exists_eq_left', Option.toList_some, Option.toList_none, ev_km, ev_k2, ev_k3, ev_k4, ev_k5, ev_l0, ev_l1, sh_1, sh_2, sh_3, sh_4, sh_5, at_X11_lookAt_37, at_X11_lookAt_38, at_X11_lookAt_56, at_X11_lookAt_57, ca_X11_195, ca_X11_394, ca_X11_397, ca_X11_72, cd_X11_lookAt_0, cd_X11_lookAt_37, cd_X11_lookAt_38, cd_X11_lookAt_56, cd_X11_lookAt_57, fl_X11_47, no_0, no_1, no_lt, no_le, no_eq, no_lt0, no_ge0, no_gt0, no_le0, no_eq0, no_0eq, no_eqm, no_meq, no_m0, no_mlt, no_mge, no_mgt, no_mm, no_i01, no_i10, no_in, no_or, no_ifm, no_mul, nI_add, no_sub, pk_div, iI_if, nI_clamp, oI_n, oI_s, not_true_eq_false, not_false_eq_true, forall_const, true_implies, false_and, and_false, or_false, false_or, Classical.not_not, true_or, or_true, no_b, no_eq1, eq_self, and_self, sk_301, sk_302, sl_302, sp_301, he, thc_1])
      | (with_reducible refine ev_gid ?_; simp (disch := first | omega | assumption) only [ev_run_c, ev_run_n, ev_fj, ev_stp, ev_lk, ev_fv, ev_as, ev_sz, ev_st1, ev_st2, ev_rm, ev_pk, ev_Jof, ev_go, lv_args, List.map_cons, List.map_nil, List.zip_cons_cons, List.zip_nil_left, List.zip_nil_right, List.nil_append, List.cons_append, ↓reduceIte, reduceCtorEq, Int.reduceToNat, Nat.reduceEqDiff, Nat.reduceAdd, Nat.reduceLT, Nat.reduceLeDiff, Nat.reduceMul, Value.category, false_implies, true_and, and_true, Bool.false_eq_true, Option.some.injEq, exists_eq_left', Option.toList_some, Option.toList_none, ev_km, ev_k2, ev_k3, ev_k4, ev_k5, ev_l0, ev_l1, sh_1, sh_2, sh_3, sh_4, sh_5, at_X11_lookAt_37, at_X11_lookAt_38, at_X11_lookAt_56, at_X11_lookAt_57, ca_X11_195, ca_X11_394, ca_X11_397, ca_X11_72, cd_X11_lookAt_0, cd_X11_lookAt_37, cd_X11_lookAt_38, cd_X11_lookAt_56, cd_X11_lookAt_57, fl_X11_47, no_0, no_1, no_lt, no_le, no_eq, no_lt0, no_ge0, no_gt0, no_le0, no_eq0, no_0eq, no_eqm, no_meq, no_m0, no_mlt, no_mge, no_mgt, no_mm, no_i01, no_i10, no_in, no_or, no_ifm, no_mul, nI_add, no_sub, pk_div, iI_if, nI_clamp, oI_n, oI_s, not_true_eq_false, not_false_eq_true, forall_const, true_implies, false_and, and_false, or_false, false_or, Classical.not_not, true_or, or_true, no_b, no_eq1, eq_self, and_self, sk_301, sk_302, sl_302, sp_301, he, thc_1])
      | (with_reducible refine And.intro (fun q => ?_) (fun q => ?_) <;> (try simp (disch := first | omega | assumption) only [no_0, no_1, no_lt, no_le, no_eq, no_lt0, no_ge0, no_gt0, no_le0, no_eq0, no_0eq, no_eqm, no_meq, no_m0, no_mlt, no_mge, no_mgt, no_mm, no_i01, no_i10, no_in, no_or, no_ifm, no_mul, nI_add, no_sub, pk_div, iI_if, nI_clamp, oI_n, oI_s, not_true_eq_false, not_false_eq_true, forall_const, true_implies, false_and, and_false, or_false, false_or, Classical.not_not, true_or, or_true, no_b, no_eq1, eq_self, and_self, sk_301, sk_302, sl_302, sp_301, he, thc_1] at q))
      | with_reducible refine ev_ci (m_X11_isPancake hok (by first | with_reducible assumption | exact th_R (by with_reducible assumption) | exact mw_R | exact ms_R) (by with_reducible assumption) ?_ ?_ _) ?_
      | with_reducible refine ev_ci (m_X11_ofCake hok (by first | with_reducible assumption | exact th_R (by with_reducible assumption) | exact mw_R | exact ms_R) ?_ ?_) ?_
      | with_reducible refine ev_ci (m_X11_inI hok _ _ _) ?_
      | with_reducible refine ev_ci (m_X11_in hok _ _ _ ?_ ?_ ?_) ?_
      | with_reducible refine ev_ci (m_X11_mayTwo hok _ _ ?_ ?_) ?_
      | omega
      | with_reducible assumption
      | with_reducible rfl
      | with_reducible refine lp_nx ?_ ?_ ?_ ?_
      | with_reducible refine lp_st ?_ ?_ ?_
      | with_reducible refine ls_c ?_ ?_
      | with_reducible refine vi_c ?_
      | with_reducible refine re_c ?_
      | with_reducible refine vz_c ?_
      | with_reducible refine rz_c ?_
      | exact trivial
      | with_reducible refine And.intro ?_ ?_
      | simp (disch := first | omega | assumption) only [ev_run_c, ev_run_n, ev_fj, ev_stp, ev_lk, ev_fv, ev_as, ev_sz, ev_st1, ev_st2, ev_rm, ev_pk, ev_Jof, ev_go, lv_args, List.map_cons, List.map_nil, List.zip_cons_cons, List.zip_nil_left, List.zip_nil_right, List.nil_append, List.cons_append, ↓reduceIte, reduceCtorEq, Int.reduceToNat, Nat.reduceEqDiff, Nat.reduceAdd, Nat.reduceLT, Nat.reduceLeDiff, Nat.reduceMul, Value.category, false_implies, true_and, and_true, Bool.false_eq_true, Option.some.injEq, exists_eq_left', Option.toList_some, Option.toList_none, ev_km, ev_k2, ev_k3, ev_k4, ev_k5, ev_l0, ev_l1, sh_1, sh_2, sh_3, sh_4, sh_5, at_X11_lookAt_37, at_X11_lookAt_38, at_X11_lookAt_56, at_X11_lookAt_57, ca_X11_195, ca_X11_394, ca_X11_397, ca_X11_72, cd_X11_lookAt_0, cd_X11_lookAt_37, cd_X11_lookAt_38, cd_X11_lookAt_56, cd_X11_lookAt_57, fl_X11_47, no_0, no_1, no_lt, no_le, no_eq, no_lt0, no_ge0, no_gt0, no_le0, no_eq0, no_0eq, no_eqm, no_meq, no_m0, no_mlt, no_mge, no_mgt, no_mm, no_i01, no_i10, no_in, no_or, no_ifm, no_mul, nI_add, no_sub, pk_div, iI_if, nI_clamp, oI_n, oI_s, not_true_eq_false, not_false_eq_true, forall_const, true_implies, false_and, and_false, or_false, false_or, Classical.not_not, true_or, or_true, no_b, no_eq1, eq_self, and_self, sk_301, sk_302, sl_302, sp_301, he, thc_1]
      | exact rfl
      | (split <;> omega))
  · cases h : rx (N 1) x with
    | none =>
      rw [v3_n (m := fun q => N (952 + 9 * q + w)) h, c3_n (m := fun q => N (952 + 9 * q + w)) h]
      refine ev_tri hok (okM_X11_lookAt 0) (Nat.le_of_ble_eq_true rfl) 400 ?_
      rw [at_X11_lookAt_0]
      repeat' (first
        | (with_reducible refine ev_rid ?_; simp (disch := first | omega | assumption) only [ev_run_c, ev_run_n, ev_fj, ev_stp, ev_lk, ev_fv, ev_as, ev_sz, ev_st1, ev_st2, ev_rm, ev_pk, ev_Jof, ev_go, lv_args, List.map_cons, List.map_nil, List.zip_cons_cons, List.zip_nil_left, List.zip_nil_right, List.nil_append, List.cons_append, ↓reduceIte, reduceCtorEq, Int.reduceToNat, Nat.reduceEqDiff, Nat.reduceAdd, Nat.reduceLT, Nat.reduceLeDiff, Nat.reduceMul, Value.category, false_implies, true_and, and_true, Bool.false_eq_true, Option.some.injEq, exists_eq_left', Option.toList_some, Option.toList_none, ev_km, ev_k2, ev_k3, ev_k4, ev_k5, ev_l0, ev_l1, sh_1, sh_2, sh_3, sh_4, sh_5, at_X11_lookAt_37, at_X11_lookAt_38, at_X11_lookAt_56, at_X11_lookAt_57, ca_X11_195, ca_X11_394, ca_X11_397, ca_X11_72, cd_X11_lookAt_0, cd_X11_lookAt_37, cd_X11_lookAt_38, cd_X11_lookAt_56, cd_X11_lookAt_57, fl_X11_47, no_0, no_1, no_lt, no_le, no_eq, no_lt0, no_ge0, no_gt0, no_le0, no_eq0, no_0eq, no_eqm, no_meq, no_m0, no_mlt, no_mge, no_mgt, no_mm, no_i01, no_i10, no_in, no_or, no_ifm, no_mul, nI_add, no_sub, pk_div, iI_if, nI_clamp, oI_n, oI_s, not_true_eq_false, not_false_eq_true, forall_const, true_implies, false_and, and_false, or_false, false_or, Classical.not_not, true_or, or_true, no_b, no_eq1, eq_self, and_self, sk_301, sk_302, sl_302, sp_301, he, h, thc_2, ne_eq])
        | (with_reducible refine ev_gid ?_; simp (disch := first | omega | assumption) only [ev_run_c, ev_run_n, ev_fj, ev_stp, ev_lk, ev_fv, ev_as, ev_sz, ev_st1, ev_st2, ev_rm, ev_pk, ev_Jof, ev_go, lv_args, List.map_cons, List.map_nil, List.zip_cons_cons, List.zip_nil_left, List.zip_nil_right, List.nil_append, List.cons_append, ↓reduceIte, reduceCtorEq, Int.reduceToNat, Nat.reduceEqDiff, Nat.reduceAdd, Nat.reduceLT, Nat.reduceLeDiff, Nat.reduceMul, Value.category, false_implies, true_and, and_true, Bool.false_eq_true, Option.some.injEq, exists_eq_left', Option.toList_some, Option.toList_none, ev_km, ev_k2, ev_k3, ev_k4, ev_k5, ev_l0, ev_l1, sh_1, sh_2, sh_3, sh_4, sh_5, at_X11_lookAt_37, at_X11_lookAt_38, at_X11_lookAt_56, at_X11_lookAt_57, ca_X11_195, ca_X11_394, ca_X11_397, ca_X11_72, cd_X11_lookAt_0, cd_X11_lookAt_37, cd_X11_lookAt_38, cd_X11_lookAt_56, cd_X11_lookAt_57, fl_X11_47, no_0, no_1, no_lt, no_le, no_eq, no_lt0, no_ge0, no_gt0, no_le0, no_eq0, no_0eq, no_eqm, no_meq, no_m0, no_mlt, no_mge, no_mgt, no_mm, no_i01, no_i10, no_in, no_or, no_ifm, no_mul, nI_add, no_sub, pk_div, iI_if, nI_clamp, oI_n, oI_s, not_true_eq_false, not_false_eq_true, forall_const, true_implies, false_and, and_false, or_false, false_or, Classical.not_not, true_or, or_true, no_b, no_eq1, eq_self, and_self, sk_301, sk_302, sl_302, sp_301, he, h, thc_2, ne_eq])
        | (with_reducible refine And.intro (fun q => ?_) (fun q => ?_) <;> (try simp (disch := first | omega | assumption) only [no_0, no_1, no_lt, no_le, no_eq, no_lt0, no_ge0, no_gt0, no_le0, no_eq0, no_0eq, no_eqm, no_meq, no_m0, no_mlt, no_mge, no_mgt, no_mm, no_i01, no_i10, no_in, no_or, no_ifm, no_mul, nI_add, no_sub, pk_div, iI_if, nI_clamp, oI_n, oI_s, not_true_eq_false, not_false_eq_true, forall_const, true_implies, false_and, and_false, or_false, false_or, Classical.not_not, true_or, or_true, no_b, no_eq1, eq_self, and_self, sk_301, sk_302, sl_302, sp_301, he, h, thc_2, ne_eq] at q))
        | with_reducible refine ev_ci (m_X11_isPancake hok (by first | with_reducible assumption | exact th_R (by with_reducible assumption) | exact mw_R | exact ms_R) (by with_reducible assumption) ?_ ?_ _) ?_
        | with_reducible refine ev_ci (m_X11_ofCake hok (by first | with_reducible assumption | exact th_R (by with_reducible assumption) | exact mw_R | exact ms_R) ?_ ?_) ?_
        | with_reducible refine ev_ci (m_X11_inI hok _ _ _) ?_
        | with_reducible refine ev_ci (m_X11_in hok _ _ _ ?_ ?_ ?_) ?_
        | with_reducible refine ev_ci (m_X11_mayTwo hok _ _ ?_ ?_) ?_
        | omega
        | with_reducible assumption
        | with_reducible rfl
        | with_reducible refine lp_nx ?_ ?_ ?_ ?_
        | with_reducible refine lp_st ?_ ?_ ?_
        | with_reducible refine ls_c ?_ ?_
        | with_reducible refine vi_c ?_
        | with_reducible refine re_c ?_
        | with_reducible refine vz_c ?_
        | with_reducible refine rz_c ?_
        | exact trivial
        | with_reducible refine And.intro ?_ ?_
        | simp (disch := first | omega | assumption) only [ev_run_c, ev_run_n, ev_fj, ev_stp, ev_lk, ev_fv, ev_as, ev_sz, ev_st1, ev_st2, ev_rm, ev_pk, ev_Jof, ev_go, lv_args, List.map_cons, List.map_nil, List.zip_cons_cons, List.zip_nil_left, List.zip_nil_right, List.nil_append, List.cons_append, ↓reduceIte, reduceCtorEq, Int.reduceToNat, Nat.reduceEqDiff, Nat.reduceAdd, Nat.reduceLT, Nat.reduceLeDiff, Nat.reduceMul, Value.category, false_implies, true_and, and_true, Bool.false_eq_true, Option.some.injEq, exists_eq_left', Option.toList_some, Option.toList_none, ev_km, ev_k2, ev_k3, ev_k4, ev_k5, ev_l0, ev_l1, sh_1, sh_2, sh_3, sh_4, sh_5, at_X11_lookAt_37, at_X11_lookAt_38, at_X11_lookAt_56, at_X11_lookAt_57, ca_X11_195, ca_X11_394, ca_X11_397, ca_X11_72, cd_X11_lookAt_0, cd_X11_lookAt_37, cd_X11_lookAt_38, cd_X11_lookAt_56, cd_X11_lookAt_57, fl_X11_47, no_0, no_1, no_lt, no_le, no_eq, no_lt0, no_ge0, no_gt0, no_le0, no_eq0, no_0eq, no_eqm, no_meq, no_m0, no_mlt, no_mge, no_mgt, no_mm, no_i01, no_i10, no_in, no_or, no_ifm, no_mul, nI_add, no_sub, pk_div, iI_if, nI_clamp, oI_n, oI_s, not_true_eq_false, not_false_eq_true, forall_const, true_implies, false_and, and_false, or_false, false_or, Classical.not_not, true_or, or_true, no_b, no_eq1, eq_self, and_self, sk_301, sk_302, sl_302, sp_301, he, h, thc_2, ne_eq]
        | exact rfl
        | (split <;> omega))
    | some j =>
      obtain ⟨hj, e1⟩ := rx_s (by omega) h
      have hmj := hm j hj
      cases g : rx (N (952 + 9 * j + w)) y with
      | none =>
        rw [v3_m (m := fun q => N (952 + 9 * q + w)) h g, c3_m (m := fun q => N (952 + 9 * q + w)) h g]
        have e2 := rx_n (by omega) g
        subst e1
        refine ev_tri hok (okM_X11_lookAt 0) (Nat.le_of_ble_eq_true rfl) 400 ?_
        rw [at_X11_lookAt_0]
        repeat' (first
          | (with_reducible refine ev_rid ?_; simp (disch := first | omega | assumption) only [ev_run_c, ev_run_n, ev_fj, ev_stp, ev_lk, ev_fv, ev_as, ev_sz, ev_st1, ev_st2, ev_rm, ev_pk, ev_Jof, ev_go, lv_args, List.map_cons, List.map_nil, List.zip_cons_cons, List.zip_nil_left, List.zip_nil_right, List.nil_append, List.cons_append, ↓reduceIte, reduceCtorEq, Int.reduceToNat, Nat.reduceEqDiff, Nat.reduceAdd, Nat.reduceLT, Nat.reduceLeDiff, Nat.reduceMul, Value.category, false_implies, true_and, and_true, Bool.false_eq_true, Option.some.injEq, exists_eq_left', Option.toList_some, Option.toList_none, ev_km, ev_k2, ev_k3, ev_k4, ev_k5, ev_l0, ev_l1, sh_1, sh_2, sh_3, sh_4, sh_5, at_X11_lookAt_37, at_X11_lookAt_38, at_X11_lookAt_56, at_X11_lookAt_57, ca_X11_195, ca_X11_394, ca_X11_397, ca_X11_72, cd_X11_lookAt_0, cd_X11_lookAt_37, cd_X11_lookAt_38, cd_X11_lookAt_56, cd_X11_lookAt_57, fl_X11_47, no_0, no_1, no_lt, no_le, no_eq, no_lt0, no_ge0, no_gt0, no_le0, no_eq0, no_0eq, no_eqm, no_meq, no_m0, no_mlt, no_mge, no_mgt, no_mm, no_i01, no_i10, no_in, no_or, no_ifm, no_mul, nI_add, pk_div, iI_if, nI_clamp, oI_n, oI_s, not_true_eq_false, not_false_eq_true, forall_const, true_implies, false_and, and_false, or_false, false_or, Classical.not_not, true_or, or_true, no_b, no_eq1, eq_self, and_self, sk_301, sk_302, sl_302, sp_301, he, h, thc_2, ne_eq, dI_i, e2])
          | (with_reducible refine ev_gid ?_; simp (disch := first | omega | assumption) only [ev_run_c, ev_run_n, ev_fj, ev_stp, ev_lk, ev_fv, ev_as, ev_sz, ev_st1, ev_st2, ev_rm, ev_pk, ev_Jof, ev_go, lv_args, List.map_cons, List.map_nil, List.zip_cons_cons, List.zip_nil_left, List.zip_nil_right, List.nil_append, List.cons_append, ↓reduceIte, reduceCtorEq, Int.reduceToNat, Nat.reduceEqDiff, Nat.reduceAdd, Nat.reduceLT, Nat.reduceLeDiff, Nat.reduceMul, Value.category, false_implies, true_and, and_true, Bool.false_eq_true, Option.some.injEq, exists_eq_left', Option.toList_some, Option.toList_none, ev_km, ev_k2, ev_k3, ev_k4, ev_k5, ev_l0, ev_l1, sh_1, sh_2, sh_3, sh_4, sh_5, at_X11_lookAt_37, at_X11_lookAt_38, at_X11_lookAt_56, at_X11_lookAt_57, ca_X11_195, ca_X11_394, ca_X11_397, ca_X11_72, cd_X11_lookAt_0, cd_X11_lookAt_37, cd_X11_lookAt_38, cd_X11_lookAt_56, cd_X11_lookAt_57, fl_X11_47, no_0, no_1, no_lt, no_le, no_eq, no_lt0, no_ge0, no_gt0, no_le0, no_eq0, no_0eq, no_eqm, no_meq, no_m0, no_mlt, no_mge, no_mgt, no_mm, no_i01, no_i10, no_in, no_or, no_ifm, no_mul, nI_add, pk_div, iI_if, nI_clamp, oI_n, oI_s, not_true_eq_false, not_false_eq_true, forall_const, true_implies, false_and, and_false, or_false, false_or, Classical.not_not, true_or, or_true, no_b, no_eq1, eq_self, and_self, sk_301, sk_302, sl_302, sp_301, he, h, thc_2, ne_eq, dI_i, e2])
          | (with_reducible refine And.intro (fun q => ?_) (fun q => ?_) <;> (try simp (disch := first | omega | assumption) only [no_0, no_1, no_lt, no_le, no_eq, no_lt0, no_ge0, no_gt0, no_le0, no_eq0, no_0eq, no_eqm, no_meq, no_m0, no_mlt, no_mge, no_mgt, no_mm, no_i01, no_i10, no_in, no_or, no_ifm, no_mul, nI_add, no_sub, pk_div, iI_if, nI_clamp, oI_n, oI_s, not_true_eq_false, not_false_eq_true, forall_const, true_implies, false_and, and_false, or_false, false_or, Classical.not_not, true_or, or_true, no_b, no_eq1, eq_self, and_self, sk_301, sk_302, sl_302, sp_301, he, h, thc_2, ne_eq, dI_i, e2] at q))
          | with_reducible refine ev_ci (m_X11_isPancake hok (by first | with_reducible assumption | exact th_R (by with_reducible assumption) | exact mw_R | exact ms_R) (by with_reducible assumption) ?_ ?_ _) ?_
          | with_reducible refine ev_ci (m_X11_ofCake hok (by first | with_reducible assumption | exact th_R (by with_reducible assumption) | exact mw_R | exact ms_R) ?_ ?_) ?_
          | with_reducible refine ev_ci (m_X11_inI hok _ _ _) ?_
          | with_reducible refine ev_ci (m_X11_in hok _ _ _ ?_ ?_ ?_) ?_
          | with_reducible refine ev_ci (m_X11_mayTwo hok _ _ ?_ ?_) ?_
          | omega
          | with_reducible assumption
          | with_reducible rfl
          | with_reducible refine lp_nx ?_ ?_ ?_ ?_
          | with_reducible refine lp_st ?_ ?_ ?_
          | with_reducible refine ls_c ?_ ?_
          | with_reducible refine vi_c ?_
          | with_reducible refine re_c ?_
          | with_reducible refine vz_c ?_
          | with_reducible refine rz_c ?_
          | exact trivial
          | with_reducible refine And.intro ?_ ?_
          | simp (disch := first | omega | assumption) only [ev_run_c, ev_run_n, ev_fj, ev_stp, ev_lk, ev_fv, ev_as, ev_sz, ev_st1, ev_st2, ev_rm, ev_pk, ev_Jof, ev_go, lv_args, List.map_cons, List.map_nil, List.zip_cons_cons, List.zip_nil_left, List.zip_nil_right, List.nil_append, List.cons_append, ↓reduceIte, reduceCtorEq, Int.reduceToNat, Nat.reduceEqDiff, Nat.reduceAdd, Nat.reduceLT, Nat.reduceLeDiff, Nat.reduceMul, Value.category, false_implies, true_and, and_true, Bool.false_eq_true, Option.some.injEq, exists_eq_left', Option.toList_some, Option.toList_none, ev_km, ev_k2, ev_k3, ev_k4, ev_k5, ev_l0, ev_l1, sh_1, sh_2, sh_3, sh_4, sh_5, at_X11_lookAt_37, at_X11_lookAt_38, at_X11_lookAt_56, at_X11_lookAt_57, ca_X11_195, ca_X11_394, ca_X11_397, ca_X11_72, cd_X11_lookAt_0, cd_X11_lookAt_37, cd_X11_lookAt_38, cd_X11_lookAt_56, cd_X11_lookAt_57, fl_X11_47, no_0, no_1, no_lt, no_le, no_eq, no_lt0, no_ge0, no_gt0, no_le0, no_eq0, no_0eq, no_eqm, no_meq, no_m0, no_mlt, no_mge, no_mgt, no_mm, no_i01, no_i10, no_in, no_or, no_ifm, no_mul, nI_add, pk_div, iI_if, nI_clamp, oI_n, oI_s, not_true_eq_false, not_false_eq_true, forall_const, true_implies, false_and, and_false, or_false, false_or, Classical.not_not, true_or, or_true, no_b, no_eq1, eq_self, and_self, sk_301, sk_302, sl_302, sp_301, he, h, thc_2, ne_eq, dI_i, e2]
          | exact rfl
          | (split <;> omega))
      | some k =>
        rw [v3_s (m := fun q => N (952 + 9 * q + w)) h g, c3_s (m := fun q => N (952 + 9 * q + w)) h g]
        obtain ⟨hk, rfl⟩ := rx_s (by omega) g
        have e2 := rx_y (n := N (952 + 9 * j + w)) (by omega) hk
        subst e1
        refine ev_tri hok (okM_X11_lookAt 0) (Nat.le_of_ble_eq_true rfl) 400 ?_
        rw [at_X11_lookAt_0]
        repeat' (first
          | (with_reducible refine ev_rid ?_; simp (disch := first | omega | assumption) only [ev_run_c, ev_run_n, ev_fj, ev_stp, ev_lk, ev_fv, ev_as, ev_sz, ev_st1, ev_st2, ev_rm, ev_pk, ev_Jof, ev_go, lv_args, List.map_cons, List.map_nil, List.zip_cons_cons, List.zip_nil_left, List.zip_nil_right, List.nil_append, List.cons_append, ↓reduceIte, reduceCtorEq, Int.reduceToNat, Nat.reduceEqDiff, Nat.reduceAdd, Nat.reduceLT, Nat.reduceLeDiff, Nat.reduceMul, Value.category, false_implies, true_and, and_true, Bool.false_eq_true, Option.some.injEq, exists_eq_left', Option.toList_some, Option.toList_none, ev_km, ev_k2, ev_k3, ev_k4, ev_k5, ev_l0, ev_l1, sh_1, sh_2, sh_3, sh_4, sh_5, at_X11_lookAt_37, at_X11_lookAt_38, at_X11_lookAt_56, at_X11_lookAt_57, ca_X11_195, ca_X11_394, ca_X11_397, ca_X11_72, cd_X11_lookAt_0, cd_X11_lookAt_37, cd_X11_lookAt_38, cd_X11_lookAt_56, cd_X11_lookAt_57, fl_X11_47, no_0, no_1, no_lt, no_lt0, no_ge0, no_gt0, no_le0, no_eq0, no_0eq, no_eqm, no_meq, no_m0, no_mlt, no_mge, no_mgt, no_mm, no_i01, no_i10, no_in, no_or, no_ifm, no_mul, nI_add, pk_div, iI_if, nI_clamp, oI_n, oI_s, not_true_eq_false, not_false_eq_true, forall_const, true_implies, false_and, and_false, or_false, false_or, Classical.not_not, true_or, or_true, no_b, no_eq1, eq_self, and_self, sk_301, sk_302, sl_302, sp_301, he, h, thc_0, ne_eq, dI_i, e2])
          | (with_reducible refine ev_gid ?_; simp (disch := first | omega | assumption) only [ev_run_c, ev_run_n, ev_fj, ev_stp, ev_lk, ev_fv, ev_as, ev_sz, ev_st1, ev_st2, ev_rm, ev_pk, ev_Jof, ev_go, lv_args, List.map_cons, List.map_nil, List.zip_cons_cons, List.zip_nil_left, List.zip_nil_right, List.nil_append, List.cons_append, ↓reduceIte, reduceCtorEq, Int.reduceToNat, Nat.reduceEqDiff, Nat.reduceAdd, Nat.reduceLT, Nat.reduceLeDiff, Nat.reduceMul, Value.category, false_implies, true_and, and_true, Bool.false_eq_true, Option.some.injEq, exists_eq_left', Option.toList_some, Option.toList_none, ev_km, ev_k2, ev_k3, ev_k4, ev_k5, ev_l0, ev_l1, sh_1, sh_2, sh_3, sh_4, sh_5, at_X11_lookAt_37, at_X11_lookAt_38, at_X11_lookAt_56, at_X11_lookAt_57, ca_X11_195, ca_X11_394, ca_X11_397, ca_X11_72, cd_X11_lookAt_0, cd_X11_lookAt_37, cd_X11_lookAt_38, cd_X11_lookAt_56, cd_X11_lookAt_57, fl_X11_47, no_0, no_1, no_lt, no_lt0, no_ge0, no_gt0, no_le0, no_eq0, no_0eq, no_eqm, no_meq, no_m0, no_mlt, no_mge, no_mgt, no_mm, no_i01, no_i10, no_in, no_or, no_ifm, no_mul, nI_add, pk_div, iI_if, nI_clamp, oI_n, oI_s, not_true_eq_false, not_false_eq_true, forall_const, true_implies, false_and, and_false, or_false, false_or, Classical.not_not, true_or, or_true, no_b, no_eq1, eq_self, and_self, sk_301, sk_302, sl_302, sp_301, he, h, thc_0, ne_eq, dI_i, e2])
          | (with_reducible refine And.intro (fun q => ?_) (fun q => ?_) <;> (try simp (disch := first | omega | assumption) only [no_0, no_1, no_lt, no_le, no_eq, no_lt0, no_ge0, no_gt0, no_le0, no_eq0, no_0eq, no_eqm, no_meq, no_m0, no_mlt, no_mge, no_mgt, no_mm, no_i01, no_i10, no_in, no_or, no_ifm, no_mul, nI_add, no_sub, pk_div, iI_if, nI_clamp, oI_n, oI_s, not_true_eq_false, not_false_eq_true, forall_const, true_implies, false_and, and_false, or_false, false_or, Classical.not_not, true_or, or_true, no_b, no_eq1, eq_self, and_self, sk_301, sk_302, sl_302, sp_301, he, h, thc_0, ne_eq, dI_i, e2] at q))
          | with_reducible refine ev_ci (m_X11_isPancake hok (by first | with_reducible assumption | exact th_R (by with_reducible assumption) | exact mw_R | exact ms_R) (by with_reducible assumption) ?_ ?_ _) ?_
          | with_reducible refine ev_ci (m_X11_ofCake hok (by first | with_reducible assumption | exact th_R (by with_reducible assumption) | exact mw_R | exact ms_R) ?_ ?_) ?_
          | with_reducible refine ev_ci (m_X11_inI hok _ _ _) ?_
          | with_reducible refine ev_ci (m_X11_in hok _ _ _ ?_ ?_ ?_) ?_
          | with_reducible refine ev_ci (m_X11_mayTwo hok _ _ ?_ ?_) ?_
          | omega
          | with_reducible assumption
          | with_reducible rfl
          | with_reducible refine lp_nx ?_ ?_ ?_ ?_
          | with_reducible refine lp_st ?_ ?_ ?_
          | with_reducible refine ls_c ?_ ?_
          | with_reducible refine vi_c ?_
          | with_reducible refine re_c ?_
          | with_reducible refine vz_c ?_
          | with_reducible refine rz_c ?_
          | exact trivial
          | with_reducible refine And.intro ?_ ?_
          | simp (disch := first | omega | assumption) only [ev_run_c, ev_run_n, ev_fj, ev_stp, ev_lk, ev_fv, ev_as, ev_sz, ev_st1, ev_st2, ev_rm, ev_pk, ev_Jof, ev_go, lv_args, List.map_cons, List.map_nil, List.zip_cons_cons, List.zip_nil_left, List.zip_nil_right, List.nil_append, List.cons_append, ↓reduceIte, reduceCtorEq, Int.reduceToNat, Nat.reduceEqDiff, Nat.reduceAdd, Nat.reduceLT, Nat.reduceLeDiff, Nat.reduceMul, Value.category, false_implies, true_and, and_true, Bool.false_eq_true, Option.some.injEq, exists_eq_left', Option.toList_some, Option.toList_none, ev_km, ev_k2, ev_k3, ev_k4, ev_k5, ev_l0, ev_l1, sh_1, sh_2, sh_3, sh_4, sh_5, at_X11_lookAt_37, at_X11_lookAt_38, at_X11_lookAt_56, at_X11_lookAt_57, ca_X11_195, ca_X11_394, ca_X11_397, ca_X11_72, cd_X11_lookAt_0, cd_X11_lookAt_37, cd_X11_lookAt_38, cd_X11_lookAt_56, cd_X11_lookAt_57, fl_X11_47, no_0, no_1, no_lt, no_lt0, no_ge0, no_gt0, no_le0, no_eq0, no_0eq, no_eqm, no_meq, no_m0, no_mlt, no_mge, no_mgt, no_mm, no_i01, no_i10, no_in, no_or, no_ifm, no_mul, nI_add, pk_div, iI_if, nI_clamp, oI_n, oI_s, not_true_eq_false, not_false_eq_true, forall_const, true_implies, false_and, and_false, or_false, false_or, Classical.not_not, true_or, or_true, no_b, no_eq1, eq_self, and_self, sk_301, sk_302, sl_302, sp_301, he, h, thc_0, ne_eq, dI_i, e2]
          | exact rfl
          | (split <;> omega))
theorem m_X11_cookAt (hok : ev_ok sh_S G) (hN : MR N μ) (hI : INV N) {e : Nat} (he : μ.1 301 6 = nI e) (he2 : e < 2) (x y : Int32) : ev_T sh_S G mi_X11_cookAt [.ref 301, .int x, .int y] μ (.inl (some (.int (v3 e (N 1) x y (fun q => N (952 + 9 * q + 1)) (fun q k => nI (N (952 + 9 * q + (2 + k)))))), th μ (c3 e (N 1) x y (fun q => N (952 + 9 * q + 1))))) := by
  have hh := iv_h hI
  have hm : ∀ q, q < N 1 → N (952 + 9 * q + 1) ≤ 3 ∧ (N (952 + 9 * q + 1) = 0 ∨ 2 + 3 ≤ 9) := fun q hq => by have := iv_q hI q (by omega); omega
  refine ev_tri hok (okM_X11_cookAt 0) (Nat.le_of_ble_eq_true rfl) 400 ?_
  rw [at_X11_cookAt_0]
  repeat' (first
    | (with_reducible refine ev_rid ?_; simp (disch := first | omega | assumption) only [ev_run_c, ev_run_n, ev_fj, ev_stp, ev_lk, ev_fv, ev_as, ev_sz, ev_st1, ev_st2, ev_rm, ev_pk, ev_Jof, ev_go, lv_args, List.map_cons, List.map_nil, List.zip_cons_cons, List.zip_nil_left, List.zip_nil_right, List.nil_append, List.cons_append, ↓reduceIte, reduceCtorEq, Int.reduceToNat, Nat.reduceEqDiff, Nat.reduceAdd, Nat.reduceLT, Nat.reduceLeDiff, Nat.reduceMul, Value.category, false_implies, true_and, and_true, Bool.false_eq_true, Option.some.injEq, exists_eq_left', Option.toList_some, Option.toList_none, ev_km, ev_k2, ev_k3, ev_k4, ev_k5, ev_l0, ev_l1, sh_1, sh_2, sh_3, sh_4, sh_5, ca_X11_423, cd_X11_cookAt_0, no_0, no_1, no_lt, no_le, no_eq, no_lt0, no_ge0, no_gt0, no_le0, no_eq0, no_0eq, no_eqm, no_meq, no_m0, no_mlt, no_mge, no_mgt, no_mm, no_i01, no_i10, no_in, no_or, no_ifm, no_mul, nI_add, no_sub, pk_div, iI_if, nI_clamp, oI_n, oI_s, not_true_eq_false, not_false_eq_true, forall_const, true_implies, false_and, and_false, or_false, false_or, Classical.not_not, true_or, or_true, no_b, no_eq1, eq_self, and_self, sk_301, sk_302, sl_302, sp_301])
    | (with_reducible refine ev_gid ?_; simp (disch := first | omega | assumption) only [ev_run_c, ev_run_n, ev_fj, ev_stp, ev_lk, ev_fv, ev_as, ev_sz, ev_st1, ev_st2, ev_rm, ev_pk, ev_Jof, ev_go, lv_args, List.map_cons, List.map_nil, List.zip_cons_cons, List.zip_nil_left, List.zip_nil_right, List.nil_append, List.cons_append, ↓reduceIte, reduceCtorEq, Int.reduceToNat, Nat.reduceEqDiff, Nat.reduceAdd, Nat.reduceLT, Nat.reduceLeDiff, Nat.reduceMul, Value.category, false_implies, true_and, and_true, Bool.false_eq_true, Option.some.injEq, exists_eq_left', Option.toList_some, Option.toList_none, ev_km, ev_k2, ev_k3, ev_k4, ev_k5, ev_l0, ev_l1, sh_1, sh_2, sh_3, sh_4, sh_5, ca_X11_423, cd_X11_cookAt_0, no_0, no_1, no_lt, no_le, no_eq, no_lt0, no_ge0, no_gt0, no_le0, no_eq0, no_0eq, no_eqm, no_meq, no_m0, no_mlt, no_mge, no_mgt, no_mm, no_i01, no_i10, no_in, no_or, no_ifm, no_mul, nI_add, no_sub, pk_div, iI_if, nI_clamp, oI_n, oI_s, not_true_eq_false, not_false_eq_true, forall_const, true_implies, false_and, and_false, or_false, false_or, Classical.not_not, true_or, or_true, no_b, no_eq1, eq_self, and_self, sk_301, sk_302, sl_302, sp_301])
    | (with_reducible refine And.intro (fun q => ?_) (fun q => ?_) <;> (try simp (disch := first | omega | assumption) only [no_0, no_1, no_lt, no_le, no_eq, no_lt0, no_ge0, no_gt0, no_le0, no_eq0, no_0eq, no_eqm, no_meq, no_m0, no_mlt, no_mge, no_mgt, no_mm, no_i01, no_i10, no_in, no_or, no_ifm, no_mul, nI_add, no_sub, pk_div, iI_if, nI_clamp, oI_n, oI_s, not_true_eq_false, not_false_eq_true, forall_const, true_implies, false_and, and_false, or_false, false_or, Classical.not_not, true_or, or_true, no_b, no_eq1, eq_self, and_self, sk_301, sk_302, sl_302, sp_301] at q))
    | with_reducible refine ev_ci (m_X11_lookAt hok (by first | with_reducible assumption | exact th_R (by with_reducible assumption) | exact mw_R | exact ms_R) (by with_reducible assumption) (by with_reducible assumption) ?_ _ _ ?_ ?_ ?_) ?_
    | omega
    | with_reducible assumption
    | with_reducible rfl
    | exact hm
    | with_reducible refine lp_nx ?_ ?_ ?_ ?_
    | with_reducible refine lp_st ?_ ?_ ?_
    | with_reducible refine ls_c ?_ ?_
    | with_reducible refine vi_c ?_
    | with_reducible refine re_c ?_
    | with_reducible refine vz_c ?_
    | with_reducible refine rz_c ?_
    | exact trivial
    | with_reducible refine And.intro ?_ ?_
    | simp (disch := first | omega | assumption) only [ev_run_c, ev_run_n, ev_fj, ev_stp, ev_lk, ev_fv, ev_as, ev_sz, ev_st1, ev_st2, ev_rm, ev_pk, ev_Jof, ev_go, lv_args, List.map_cons, List.map_nil, List.zip_cons_cons, List.zip_nil_left, List.zip_nil_right, List.nil_append, List.cons_append, ↓reduceIte, reduceCtorEq, Int.reduceToNat, Nat.reduceEqDiff, Nat.reduceAdd, Nat.reduceLT, Nat.reduceLeDiff, Nat.reduceMul, Value.category, false_implies, true_and, and_true, Bool.false_eq_true, Option.some.injEq, exists_eq_left', Option.toList_some, Option.toList_none, ev_km, ev_k2, ev_k3, ev_k4, ev_k5, ev_l0, ev_l1, sh_1, sh_2, sh_3, sh_4, sh_5, ca_X11_423, cd_X11_cookAt_0, no_0, no_1, no_lt, no_le, no_eq, no_lt0, no_ge0, no_gt0, no_le0, no_eq0, no_0eq, no_eqm, no_meq, no_m0, no_mlt, no_mge, no_mgt, no_mm, no_i01, no_i10, no_in, no_or, no_ifm, no_mul, nI_add, no_sub, pk_div, iI_if, nI_clamp, oI_n, oI_s, not_true_eq_false, not_false_eq_true, forall_const, true_implies, false_and, and_false, or_false, false_or, Classical.not_not, true_or, or_true, no_b, no_eq1, eq_self, and_self, sk_301, sk_302, sl_302, sp_301]
    | exact rfl
    | (split <;> omega))
theorem m_X11_seatAt (hok : ev_ok sh_S G) (hN : MR N μ) (hI : INV N) {e : Nat} (he : μ.1 301 6 = nI e) (he2 : e < 2) (x y : Int32) : ev_T sh_S G mi_X11_seatAt [.ref 301, .int x, .int y] μ (.inl (some (.int (v3 e (N 1) x y (fun q => N (952 + 9 * q + 5)) (fun q k => nI (N (952 + 9 * q + (6 + k)))))), th μ (c3 e (N 1) x y (fun q => N (952 + 9 * q + 5))))) := by
  have hh := iv_h hI
  have hm : ∀ q, q < N 1 → N (952 + 9 * q + 5) ≤ 3 ∧ (N (952 + 9 * q + 5) = 0 ∨ 6 + 3 ≤ 9) := fun q hq => by have := iv_q hI q (by omega); omega
  refine ev_tri hok (okM_X11_seatAt 0) (Nat.le_of_ble_eq_true rfl) 400 ?_
  rw [at_X11_seatAt_0]
  repeat' (first
    | (with_reducible refine ev_rid ?_; simp (disch := first | omega | assumption) only [ev_run_c, ev_run_n, ev_fj, ev_stp, ev_lk, ev_fv, ev_as, ev_sz, ev_st1, ev_st2, ev_rm, ev_pk, ev_Jof, ev_go, lv_args, List.map_cons, List.map_nil, List.zip_cons_cons, List.zip_nil_left, List.zip_nil_right, List.nil_append, List.cons_append, ↓reduceIte, reduceCtorEq, Int.reduceToNat, Nat.reduceEqDiff, Nat.reduceAdd, Nat.reduceLT, Nat.reduceLeDiff, Nat.reduceMul, Value.category, false_implies, true_and, and_true, Bool.false_eq_true, Option.some.injEq, exists_eq_left', Option.toList_some, Option.toList_none, ev_km, ev_k2, ev_k3, ev_k4, ev_k5, ev_l0, ev_l1, sh_1, sh_2, sh_3, sh_4, sh_5, ca_X11_423, cd_X11_seatAt_0, ev_b_6, no_0, no_1, no_lt, no_le, no_eq, no_lt0, no_ge0, no_gt0, no_le0, no_eq0, no_0eq, no_eqm, no_meq, no_m0, no_mlt, no_mge, no_mgt, no_mm, no_i01, no_i10, no_in, no_or, no_ifm, no_mul, nI_add, no_sub, pk_div, iI_if, nI_clamp, oI_n, oI_s, not_true_eq_false, not_false_eq_true, forall_const, true_implies, false_and, and_false, or_false, false_or, Classical.not_not, true_or, or_true, no_b, no_eq1, eq_self, and_self, sk_301, sk_302, sl_302, sp_301])
    | (with_reducible refine ev_gid ?_; simp (disch := first | omega | assumption) only [ev_run_c, ev_run_n, ev_fj, ev_stp, ev_lk, ev_fv, ev_as, ev_sz, ev_st1, ev_st2, ev_rm, ev_pk, ev_Jof, ev_go, lv_args, List.map_cons, List.map_nil, List.zip_cons_cons, List.zip_nil_left, List.zip_nil_right, List.nil_append, List.cons_append, ↓reduceIte, reduceCtorEq, Int.reduceToNat, Nat.reduceEqDiff, Nat.reduceAdd, Nat.reduceLT, Nat.reduceLeDiff, Nat.reduceMul, Value.category, false_implies, true_and, and_true, Bool.false_eq_true, Option.some.injEq, exists_eq_left', Option.toList_some, Option.toList_none, ev_km, ev_k2, ev_k3, ev_k4, ev_k5, ev_l0, ev_l1, sh_1, sh_2, sh_3, sh_4, sh_5, ca_X11_423, cd_X11_seatAt_0, ev_b_6, no_0, no_1, no_lt, no_le, no_eq, no_lt0, no_ge0, no_gt0, no_le0, no_eq0, no_0eq, no_eqm, no_meq, no_m0, no_mlt, no_mge, no_mgt, no_mm, no_i01, no_i10, no_in, no_or, no_ifm, no_mul, nI_add, no_sub, pk_div, iI_if, nI_clamp, oI_n, oI_s, not_true_eq_false, not_false_eq_true, forall_const, true_implies, false_and, and_false, or_false, false_or, Classical.not_not, true_or, or_true, no_b, no_eq1, eq_self, and_self, sk_301, sk_302, sl_302, sp_301])
    | (with_reducible refine And.intro (fun q => ?_) (fun q => ?_) <;> (try simp (disch := first | omega | assumption) only [no_0, no_1, no_lt, no_le, no_eq, no_lt0, no_ge0, no_gt0, no_le0, no_eq0, no_0eq, no_eqm, no_meq, no_m0, no_mlt, no_mge, no_mgt, no_mm, no_i01, no_i10, no_in, no_or, no_ifm, no_mul, nI_add, no_sub, pk_div, iI_if, nI_clamp, oI_n, oI_s, not_true_eq_false, not_false_eq_true, forall_const, true_implies, false_and, and_false, or_false, false_or, Classical.not_not, true_or, or_true, no_b, no_eq1, eq_self, and_self, sk_301, sk_302, sl_302, sp_301] at q))
    | with_reducible refine ev_ci (m_X11_lookAt hok (by first | with_reducible assumption | exact th_R (by with_reducible assumption) | exact mw_R | exact ms_R) (by with_reducible assumption) (by with_reducible assumption) ?_ _ _ ?_ ?_ ?_) ?_
    | omega
    | with_reducible assumption
    | with_reducible rfl
    | exact hm
    | with_reducible refine lp_nx ?_ ?_ ?_ ?_
    | with_reducible refine lp_st ?_ ?_ ?_
    | with_reducible refine ls_c ?_ ?_
    | with_reducible refine vi_c ?_
    | with_reducible refine re_c ?_
    | with_reducible refine vz_c ?_
    | with_reducible refine rz_c ?_
    | exact trivial
    | with_reducible refine And.intro ?_ ?_
    | simp (disch := first | omega | assumption) only [ev_run_c, ev_run_n, ev_fj, ev_stp, ev_lk, ev_fv, ev_as, ev_sz, ev_st1, ev_st2, ev_rm, ev_pk, ev_Jof, ev_go, lv_args, List.map_cons, List.map_nil, List.zip_cons_cons, List.zip_nil_left, List.zip_nil_right, List.nil_append, List.cons_append, ↓reduceIte, reduceCtorEq, Int.reduceToNat, Nat.reduceEqDiff, Nat.reduceAdd, Nat.reduceLT, Nat.reduceLeDiff, Nat.reduceMul, Value.category, false_implies, true_and, and_true, Bool.false_eq_true, Option.some.injEq, exists_eq_left', Option.toList_some, Option.toList_none, ev_km, ev_k2, ev_k3, ev_k4, ev_k5, ev_l0, ev_l1, sh_1, sh_2, sh_3, sh_4, sh_5, ca_X11_423, cd_X11_seatAt_0, ev_b_6, no_0, no_1, no_lt, no_le, no_eq, no_lt0, no_ge0, no_gt0, no_le0, no_eq0, no_0eq, no_eqm, no_meq, no_m0, no_mlt, no_mge, no_mgt, no_mm, no_i01, no_i10, no_in, no_or, no_ifm, no_mul, nI_add, no_sub, pk_div, iI_if, nI_clamp, oI_n, oI_s, not_true_eq_false, not_false_eq_true, forall_const, true_implies, false_and, and_false, or_false, false_or, Classical.not_not, true_or, or_true, no_b, no_eq1, eq_self, and_self, sk_301, sk_302, sl_302, sp_301]
    | exact rfl
    | (split <;> omega))
set_option maxHeartbeats 1000000 in
theorem m_X11_tasteOf (hok : ev_ok sh_S G) (hN : MR N μ) (hI : INV N) {e : Nat} (he : μ.1 301 6 = nI e) (he2 : e < 2) (x y : Int32) : ev_T sh_S G mi_X11_tasteOf [.ref 301, .int x, .int y] μ (.inl (some (.int (v3 e (N 0) x y (fun _ => 4) (fun i k => nI (N (8 + 59 * i + (2 + k)))))), th μ (c3 e (N 0) x y (fun _ => 4)))) := by
  have hh := iv_h hI
  have d3 : nI 3 = dI 4 := by decide
  rcases (show e = 0 ∨ e = 1 by omega) with rfl | rfl
  · rw [v3_0, c3_0]
    refine ev_tri hok (okM_X11_tasteOf 0) (Nat.le_of_ble_eq_true rfl) 400 ?_
    rw [at_X11_tasteOf_0]
    repeat' (first
      | (with_reducible refine ev_rid ?_; simp (disch := first | omega | assumption) only [ev_run_c, ev_run_n, ev_fj, ev_stp, ev_lk, ev_fv, ev_as, ev_sz, ev_st1, ev_st2, ev_rm, ev_pk, ev_Jof, ev_go, lv_args, List.map_cons, List.map_nil, List.zip_cons_cons, List.zip_nil_left, List.zip_nil_right, List.nil_append, List.cons_append, ↓reduceIte, reduceCtorEq, Int.reduceToNat, Nat.reduceEqDiff, Nat.reduceAdd, Nat.reduceLT, Nat.reduceLeDiff, Nat.reduceMul, Value.category, false_implies, true_and, and_true, Bool.false_eq_true, Option.some.injEq, exists_eq_left', Option.toList_some, Option.toList_none, ev_km, ev_k2, ev_k3, ev_k4, ev_k5, ev_l0, ev_l1, sh_1, sh_2, sh_3, sh_4, sh_5, at_X11_tasteOf_26, at_X11_tasteOf_27, at_X11_tasteOf_44, at_X11_tasteOf_45, ca_X11_121, ca_X11_397, ca_X11_401, ca_X11_72, cd_X11_tasteOf_0, cd_X11_tasteOf_26, cd_X11_tasteOf_27, cd_X11_tasteOf_44, cd_X11_tasteOf_45, fl_X11_47, no_0, no_1, no_lt, no_le, no_eq, no_lt0, no_ge0, no_gt0, no_le0, no_eq0, no_0eq, no_eqm, no_meq, no_m0, no_mlt, no_mge, no_mgt, no_mm, no_i01, no_i10, no_in, no_or, no_ifm, no_mul, nI_add, no_sub, pk_div, iI_if, nI_clamp, oI_n, oI_s, not_true_eq_false, not_false_eq_true, forall_const, true_implies, false_and, and_false, or_false, false_or, Classical.not_not, true_or, or_true, no_b, no_eq1, eq_self, and_self, sk_301, sk_302, sl_302, sp_301, he, thc_1])
      | (with_reducible refine ev_gid ?_; simp (disch := first | omega | assumption) only [ev_run_c, ev_run_n, ev_fj, ev_stp, ev_lk, ev_fv, ev_as, ev_sz, ev_st1, ev_st2, ev_rm, ev_pk, ev_Jof, ev_go, lv_args, List.map_cons, List.map_nil, List.zip_cons_cons, List.zip_nil_left, List.zip_nil_right, List.nil_append, List.cons_append, ↓reduceIte, reduceCtorEq, Int.reduceToNat, Nat.reduceEqDiff, Nat.reduceAdd, Nat.reduceLT, Nat.reduceLeDiff, Nat.reduceMul, Value.category, false_implies, true_and, and_true, Bool.false_eq_true, Option.some.injEq, exists_eq_left', Option.toList_some, Option.toList_none, ev_km, ev_k2, ev_k3, ev_k4, ev_k5, ev_l0, ev_l1, sh_1, sh_2, sh_3, sh_4, sh_5, at_X11_tasteOf_26, at_X11_tasteOf_27, at_X11_tasteOf_44, at_X11_tasteOf_45, ca_X11_121, ca_X11_397, ca_X11_401, ca_X11_72, cd_X11_tasteOf_0, cd_X11_tasteOf_26, cd_X11_tasteOf_27, cd_X11_tasteOf_44, cd_X11_tasteOf_45, fl_X11_47, no_0, no_1, no_lt, no_le, no_eq, no_lt0, no_ge0, no_gt0, no_le0, no_eq0, no_0eq, no_eqm, no_meq, no_m0, no_mlt, no_mge, no_mgt, no_mm, no_i01, no_i10, no_in, no_or, no_ifm, no_mul, nI_add, no_sub, pk_div, iI_if, nI_clamp, oI_n, oI_s, not_true_eq_false, not_false_eq_true, forall_const, true_implies, false_and, and_false, or_false, false_or, Classical.not_not, true_or, or_true, no_b, no_eq1, eq_self, and_self, sk_301, sk_302, sl_302, sp_301, he, thc_1])
      | (with_reducible refine And.intro (fun q => ?_) (fun q => ?_) <;> (try simp (disch := first | omega | assumption) only [no_0, no_1, no_lt, no_le, no_eq, no_lt0, no_ge0, no_gt0, no_le0, no_eq0, no_0eq, no_eqm, no_meq, no_m0, no_mlt, no_mge, no_mgt, no_mm, no_i01, no_i10, no_in, no_or, no_ifm, no_mul, nI_add, no_sub, pk_div, iI_if, nI_clamp, oI_n, oI_s, not_true_eq_false, not_false_eq_true, forall_const, true_implies, false_and, and_false, or_false, false_or, Classical.not_not, true_or, or_true, no_b, no_eq1, eq_self, and_self, sk_301, sk_302, sl_302, sp_301, he, thc_1] at q))
      | with_reducible refine ev_ci (m_X11_isPerson hok (by first | with_reducible assumption | exact th_R (by with_reducible assumption) | exact mw_R | exact ms_R) (by with_reducible assumption) ?_ ?_ _) ?_
      | with_reducible refine ev_ci (m_X11_inI hok _ _ _) ?_
      | with_reducible refine ev_ci (m_X11_in hok _ _ _ ?_ ?_ ?_) ?_
      | with_reducible refine ev_ci (m_X11_mayTwo hok _ _ ?_ ?_) ?_
      | with_reducible refine ev_ci (m_X11_of hok (by first | with_reducible assumption | exact th_R (by with_reducible assumption) | exact mw_R | exact ms_R) ?_ ?_) ?_
      | omega
      | with_reducible assumption
      | with_reducible rfl
      | with_reducible refine lp_nx ?_ ?_ ?_ ?_
      | with_reducible refine lp_st ?_ ?_ ?_
      | with_reducible refine ls_c ?_ ?_
      | with_reducible refine vi_c ?_
      | with_reducible refine re_c ?_
      | with_reducible refine vz_c ?_
      | with_reducible refine rz_c ?_
      | exact trivial
      | with_reducible refine And.intro ?_ ?_
      | simp (disch := first | omega | assumption) only [ev_run_c, ev_run_n, ev_fj, ev_stp, ev_lk, ev_fv, ev_as, ev_sz, ev_st1, ev_st2, ev_rm, ev_pk, ev_Jof, ev_go, lv_args, List.map_cons, List.map_nil, List.zip_cons_cons, List.zip_nil_left, List.zip_nil_right, List.nil_append, List.cons_append, ↓reduceIte, reduceCtorEq, Int.reduceToNat, Nat.reduceEqDiff, Nat.reduceAdd, Nat.reduceLT, Nat.reduceLeDiff, Nat.reduceMul, Value.category, false_implies, true_and, and_true, Bool.false_eq_true, Option.some.injEq, exists_eq_left', Option.toList_some, Option.toList_none, ev_km, ev_k2, ev_k3, ev_k4, ev_k5, ev_l0, ev_l1, sh_1, sh_2, sh_3, sh_4, sh_5, at_X11_tasteOf_26, at_X11_tasteOf_27, at_X11_tasteOf_44, at_X11_tasteOf_45, ca_X11_121, ca_X11_397, ca_X11_401, ca_X11_72, cd_X11_tasteOf_0, cd_X11_tasteOf_26, cd_X11_tasteOf_27, cd_X11_tasteOf_44, cd_X11_tasteOf_45, fl_X11_47, no_0, no_1, no_lt, no_le, no_eq, no_lt0, no_ge0, no_gt0, no_le0, no_eq0, no_0eq, no_eqm, no_meq, no_m0, no_mlt, no_mge, no_mgt, no_mm, no_i01, no_i10, no_in, no_or, no_ifm, no_mul, nI_add, no_sub, pk_div, iI_if, nI_clamp, oI_n, oI_s, not_true_eq_false, not_false_eq_true, forall_const, true_implies, false_and, and_false, or_false, false_or, Classical.not_not, true_or, or_true, no_b, no_eq1, eq_self, and_self, sk_301, sk_302, sl_302, sp_301, he, thc_1]
      | exact rfl
      | (split <;> omega))
  · cases h : rx (N 0) x with
    | none =>
      rw [v3_n (m := fun _ => 4) h, c3_n (m := fun _ => 4) h]
      refine ev_tri hok (okM_X11_tasteOf 0) (Nat.le_of_ble_eq_true rfl) 400 ?_
      rw [at_X11_tasteOf_0]
      repeat' (first
        | (with_reducible refine ev_rid ?_; simp (disch := first | omega | assumption) only [ev_run_c, ev_run_n, ev_fj, ev_stp, ev_lk, ev_fv, ev_as, ev_sz, ev_st1, ev_st2, ev_rm, ev_pk, ev_Jof, ev_go, lv_args, List.map_cons, List.map_nil, List.zip_cons_cons, List.zip_nil_left, List.zip_nil_right, List.nil_append, List.cons_append, ↓reduceIte, reduceCtorEq, Int.reduceToNat, Nat.reduceEqDiff, Nat.reduceAdd, Nat.reduceLT, Nat.reduceLeDiff, Nat.reduceMul, Value.category, false_implies, true_and, and_true, Bool.false_eq_true, Option.some.injEq, exists_eq_left', Option.toList_some, Option.toList_none, ev_km, ev_k2, ev_k3, ev_k4, ev_k5, ev_l0, ev_l1, sh_1, sh_2, sh_3, sh_4, sh_5, at_X11_tasteOf_26, at_X11_tasteOf_27, at_X11_tasteOf_44, at_X11_tasteOf_45, ca_X11_121, ca_X11_397, ca_X11_401, ca_X11_72, cd_X11_tasteOf_0, cd_X11_tasteOf_26, cd_X11_tasteOf_27, cd_X11_tasteOf_44, cd_X11_tasteOf_45, fl_X11_47, no_0, no_1, no_lt, no_le, no_eq, no_lt0, no_ge0, no_gt0, no_le0, no_eq0, no_0eq, no_eqm, no_meq, no_m0, no_mlt, no_mge, no_mgt, no_mm, no_i01, no_i10, no_in, no_or, no_ifm, no_mul, nI_add, no_sub, pk_div, iI_if, nI_clamp, oI_n, oI_s, not_true_eq_false, not_false_eq_true, forall_const, true_implies, false_and, and_false, or_false, false_or, Classical.not_not, true_or, or_true, no_b, no_eq1, eq_self, and_self, sk_301, sk_302, sl_302, sp_301, he, h, thc_2, ne_eq])
        | (with_reducible refine ev_gid ?_; simp (disch := first | omega | assumption) only [ev_run_c, ev_run_n, ev_fj, ev_stp, ev_lk, ev_fv, ev_as, ev_sz, ev_st1, ev_st2, ev_rm, ev_pk, ev_Jof, ev_go, lv_args, List.map_cons, List.map_nil, List.zip_cons_cons, List.zip_nil_left, List.zip_nil_right, List.nil_append, List.cons_append, ↓reduceIte, reduceCtorEq, Int.reduceToNat, Nat.reduceEqDiff, Nat.reduceAdd, Nat.reduceLT, Nat.reduceLeDiff, Nat.reduceMul, Value.category, false_implies, true_and, and_true, Bool.false_eq_true, Option.some.injEq, exists_eq_left', Option.toList_some, Option.toList_none, ev_km, ev_k2, ev_k3, ev_k4, ev_k5, ev_l0, ev_l1, sh_1, sh_2, sh_3, sh_4, sh_5, at_X11_tasteOf_26, at_X11_tasteOf_27, at_X11_tasteOf_44, at_X11_tasteOf_45, ca_X11_121, ca_X11_397, ca_X11_401, ca_X11_72, cd_X11_tasteOf_0, cd_X11_tasteOf_26, cd_X11_tasteOf_27, cd_X11_tasteOf_44, cd_X11_tasteOf_45, fl_X11_47, no_0, no_1, no_lt, no_le, no_eq, no_lt0, no_ge0, no_gt0, no_le0, no_eq0, no_0eq, no_eqm, no_meq, no_m0, no_mlt, no_mge, no_mgt, no_mm, no_i01, no_i10, no_in, no_or, no_ifm, no_mul, nI_add, no_sub, pk_div, iI_if, nI_clamp, oI_n, oI_s, not_true_eq_false, not_false_eq_true, forall_const, true_implies, false_and, and_false, or_false, false_or, Classical.not_not, true_or, or_true, no_b, no_eq1, eq_self, and_self, sk_301, sk_302, sl_302, sp_301, he, h, thc_2, ne_eq])
        | (with_reducible refine And.intro (fun q => ?_) (fun q => ?_) <;> (try simp (disch := first | omega | assumption) only [no_0, no_1, no_lt, no_le, no_eq, no_lt0, no_ge0, no_gt0, no_le0, no_eq0, no_0eq, no_eqm, no_meq, no_m0, no_mlt, no_mge, no_mgt, no_mm, no_i01, no_i10, no_in, no_or, no_ifm, no_mul, nI_add, no_sub, pk_div, iI_if, nI_clamp, oI_n, oI_s, not_true_eq_false, not_false_eq_true, forall_const, true_implies, false_and, and_false, or_false, false_or, Classical.not_not, true_or, or_true, no_b, no_eq1, eq_self, and_self, sk_301, sk_302, sl_302, sp_301, he, h, thc_2, ne_eq] at q))
        | with_reducible refine ev_ci (m_X11_isPerson hok (by first | with_reducible assumption | exact th_R (by with_reducible assumption) | exact mw_R | exact ms_R) (by with_reducible assumption) ?_ ?_ _) ?_
        | with_reducible refine ev_ci (m_X11_inI hok _ _ _) ?_
        | with_reducible refine ev_ci (m_X11_in hok _ _ _ ?_ ?_ ?_) ?_
        | with_reducible refine ev_ci (m_X11_mayTwo hok _ _ ?_ ?_) ?_
        | with_reducible refine ev_ci (m_X11_of hok (by first | with_reducible assumption | exact th_R (by with_reducible assumption) | exact mw_R | exact ms_R) ?_ ?_) ?_
        | omega
        | with_reducible assumption
        | with_reducible rfl
        | with_reducible refine lp_nx ?_ ?_ ?_ ?_
        | with_reducible refine lp_st ?_ ?_ ?_
        | with_reducible refine ls_c ?_ ?_
        | with_reducible refine vi_c ?_
        | with_reducible refine re_c ?_
        | with_reducible refine vz_c ?_
        | with_reducible refine rz_c ?_
        | exact trivial
        | with_reducible refine And.intro ?_ ?_
        | simp (disch := first | omega | assumption) only [ev_run_c, ev_run_n, ev_fj, ev_stp, ev_lk, ev_fv, ev_as, ev_sz, ev_st1, ev_st2, ev_rm, ev_pk, ev_Jof, ev_go, lv_args, List.map_cons, List.map_nil, List.zip_cons_cons, List.zip_nil_left, List.zip_nil_right, List.nil_append, List.cons_append, ↓reduceIte, reduceCtorEq, Int.reduceToNat, Nat.reduceEqDiff, Nat.reduceAdd, Nat.reduceLT, Nat.reduceLeDiff, Nat.reduceMul, Value.category, false_implies, true_and, and_true, Bool.false_eq_true, Option.some.injEq, exists_eq_left', Option.toList_some, Option.toList_none, ev_km, ev_k2, ev_k3, ev_k4, ev_k5, ev_l0, ev_l1, sh_1, sh_2, sh_3, sh_4, sh_5, at_X11_tasteOf_26, at_X11_tasteOf_27, at_X11_tasteOf_44, at_X11_tasteOf_45, ca_X11_121, ca_X11_397, ca_X11_401, ca_X11_72, cd_X11_tasteOf_0, cd_X11_tasteOf_26, cd_X11_tasteOf_27, cd_X11_tasteOf_44, cd_X11_tasteOf_45, fl_X11_47, no_0, no_1, no_lt, no_le, no_eq, no_lt0, no_ge0, no_gt0, no_le0, no_eq0, no_0eq, no_eqm, no_meq, no_m0, no_mlt, no_mge, no_mgt, no_mm, no_i01, no_i10, no_in, no_or, no_ifm, no_mul, nI_add, no_sub, pk_div, iI_if, nI_clamp, oI_n, oI_s, not_true_eq_false, not_false_eq_true, forall_const, true_implies, false_and, and_false, or_false, false_or, Classical.not_not, true_or, or_true, no_b, no_eq1, eq_self, and_self, sk_301, sk_302, sl_302, sp_301, he, h, thc_2, ne_eq]
        | exact rfl
        | (split <;> omega))
    | some j =>
      obtain ⟨hj, e1⟩ := rx_s (by omega) h
      cases g : rx 4 y with
      | none =>
        rw [v3_m (m := fun _ => 4) h g, c3_m (m := fun _ => 4) h g]
        have e2 := rx_n (by omega) g
        subst e1
        refine ev_tri hok (okM_X11_tasteOf 0) (Nat.le_of_ble_eq_true rfl) 400 ?_
        rw [at_X11_tasteOf_0]
        repeat' (first
          | (with_reducible refine ev_rid ?_; simp (disch := first | omega | assumption) only [ev_run_c, ev_run_n, ev_fj, ev_stp, ev_lk, ev_fv, ev_as, ev_sz, ev_st1, ev_st2, ev_rm, ev_pk, ev_Jof, ev_go, lv_args, List.map_cons, List.map_nil, List.zip_cons_cons, List.zip_nil_left, List.zip_nil_right, List.nil_append, List.cons_append, ↓reduceIte, reduceCtorEq, Int.reduceToNat, Nat.reduceEqDiff, Nat.reduceAdd, Nat.reduceLT, Nat.reduceLeDiff, Nat.reduceMul, Value.category, false_implies, true_and, and_true, Bool.false_eq_true, Option.some.injEq, exists_eq_left', Option.toList_some, Option.toList_none, ev_km, ev_k2, ev_k3, ev_k4, ev_k5, ev_l0, ev_l1, sh_1, sh_2, sh_3, sh_4, sh_5, at_X11_tasteOf_26, at_X11_tasteOf_27, at_X11_tasteOf_44, at_X11_tasteOf_45, ca_X11_121, ca_X11_397, ca_X11_401, ca_X11_72, cd_X11_tasteOf_0, cd_X11_tasteOf_26, cd_X11_tasteOf_27, cd_X11_tasteOf_44, cd_X11_tasteOf_45, fl_X11_47, no_0, no_1, no_lt, no_le, no_eq, no_lt0, no_ge0, no_gt0, no_le0, no_eq0, no_0eq, no_eqm, no_meq, no_m0, no_mlt, no_mge, no_mgt, no_mm, no_i01, no_i10, no_in, no_or, no_ifm, no_mul, nI_add, no_sub, pk_div, iI_if, nI_clamp, oI_n, oI_s, not_true_eq_false, not_false_eq_true, forall_const, true_implies, false_and, and_false, or_false, false_or, Classical.not_not, true_or, or_true, no_b, no_eq1, eq_self, and_self, sk_301, sk_302, sl_302, sp_301, he, h, thc_2, ne_eq, d3, e2])
          | (with_reducible refine ev_gid ?_; simp (disch := first | omega | assumption) only [ev_run_c, ev_run_n, ev_fj, ev_stp, ev_lk, ev_fv, ev_as, ev_sz, ev_st1, ev_st2, ev_rm, ev_pk, ev_Jof, ev_go, lv_args, List.map_cons, List.map_nil, List.zip_cons_cons, List.zip_nil_left, List.zip_nil_right, List.nil_append, List.cons_append, ↓reduceIte, reduceCtorEq, Int.reduceToNat, Nat.reduceEqDiff, Nat.reduceAdd, Nat.reduceLT, Nat.reduceLeDiff, Nat.reduceMul, Value.category, false_implies, true_and, and_true, Bool.false_eq_true, Option.some.injEq, exists_eq_left', Option.toList_some, Option.toList_none, ev_km, ev_k2, ev_k3, ev_k4, ev_k5, ev_l0, ev_l1, sh_1, sh_2, sh_3, sh_4, sh_5, at_X11_tasteOf_26, at_X11_tasteOf_27, at_X11_tasteOf_44, at_X11_tasteOf_45, ca_X11_121, ca_X11_397, ca_X11_401, ca_X11_72, cd_X11_tasteOf_0, cd_X11_tasteOf_26, cd_X11_tasteOf_27, cd_X11_tasteOf_44, cd_X11_tasteOf_45, fl_X11_47, no_0, no_1, no_lt, no_le, no_eq, no_lt0, no_ge0, no_gt0, no_le0, no_eq0, no_0eq, no_eqm, no_meq, no_m0, no_mlt, no_mge, no_mgt, no_mm, no_i01, no_i10, no_in, no_or, no_ifm, no_mul, nI_add, no_sub, pk_div, iI_if, nI_clamp, oI_n, oI_s, not_true_eq_false, not_false_eq_true, forall_const, true_implies, false_and, and_false, or_false, false_or, Classical.not_not, true_or, or_true, no_b, no_eq1, eq_self, and_self, sk_301, sk_302, sl_302, sp_301, he, h, thc_2, ne_eq, d3, e2])
          | (with_reducible refine And.intro (fun q => ?_) (fun q => ?_) <;> (try simp (disch := first | omega | assumption) only [no_0, no_1, no_lt, no_le, no_eq, no_lt0, no_ge0, no_gt0, no_le0, no_eq0, no_0eq, no_eqm, no_meq, no_m0, no_mlt, no_mge, no_mgt, no_mm, no_i01, no_i10, no_in, no_or, no_ifm, no_mul, nI_add, no_sub, pk_div, iI_if, nI_clamp, oI_n, oI_s, not_true_eq_false, not_false_eq_true, forall_const, true_implies, false_and, and_false, or_false, false_or, Classical.not_not, true_or, or_true, no_b, no_eq1, eq_self, and_self, sk_301, sk_302, sl_302, sp_301, he, h, thc_2, ne_eq, d3, e2] at q))
          | with_reducible refine ev_ci (m_X11_isPerson hok (by first | with_reducible assumption | exact th_R (by with_reducible assumption) | exact mw_R | exact ms_R) (by with_reducible assumption) ?_ ?_ _) ?_
          | with_reducible refine ev_ci (m_X11_inI hok _ _ _) ?_
          | with_reducible refine ev_ci (m_X11_in hok _ _ _ ?_ ?_ ?_) ?_
          | with_reducible refine ev_ci (m_X11_mayTwo hok _ _ ?_ ?_) ?_
          | with_reducible refine ev_ci (m_X11_of hok (by first | with_reducible assumption | exact th_R (by with_reducible assumption) | exact mw_R | exact ms_R) ?_ ?_) ?_
          | omega
          | with_reducible assumption
          | with_reducible rfl
          | with_reducible refine lp_nx ?_ ?_ ?_ ?_
          | with_reducible refine lp_st ?_ ?_ ?_
          | with_reducible refine ls_c ?_ ?_
          | with_reducible refine vi_c ?_
          | with_reducible refine re_c ?_
          | with_reducible refine vz_c ?_
          | with_reducible refine rz_c ?_
          | exact trivial
          | with_reducible refine And.intro ?_ ?_
          | simp (disch := first | omega | assumption) only [ev_run_c, ev_run_n, ev_fj, ev_stp, ev_lk, ev_fv, ev_as, ev_sz, ev_st1, ev_st2, ev_rm, ev_pk, ev_Jof, ev_go, lv_args, List.map_cons, List.map_nil, List.zip_cons_cons, List.zip_nil_left, List.zip_nil_right, List.nil_append, List.cons_append, ↓reduceIte, reduceCtorEq, Int.reduceToNat, Nat.reduceEqDiff, Nat.reduceAdd, Nat.reduceLT, Nat.reduceLeDiff, Nat.reduceMul, Value.category, false_implies, true_and, and_true, Bool.false_eq_true, Option.some.injEq, exists_eq_left', Option.toList_some, Option.toList_none, ev_km, ev_k2, ev_k3, ev_k4, ev_k5, ev_l0, ev_l1, sh_1, sh_2, sh_3, sh_4, sh_5, at_X11_tasteOf_26, at_X11_tasteOf_27, at_X11_tasteOf_44, at_X11_tasteOf_45, ca_X11_121, ca_X11_397, ca_X11_401, ca_X11_72, cd_X11_tasteOf_0, cd_X11_tasteOf_26, cd_X11_tasteOf_27, cd_X11_tasteOf_44, cd_X11_tasteOf_45, fl_X11_47, no_0, no_1, no_lt, no_le, no_eq, no_lt0, no_ge0, no_gt0, no_le0, no_eq0, no_0eq, no_eqm, no_meq, no_m0, no_mlt, no_mge, no_mgt, no_mm, no_i01, no_i10, no_in, no_or, no_ifm, no_mul, nI_add, no_sub, pk_div, iI_if, nI_clamp, oI_n, oI_s, not_true_eq_false, not_false_eq_true, forall_const, true_implies, false_and, and_false, or_false, false_or, Classical.not_not, true_or, or_true, no_b, no_eq1, eq_self, and_self, sk_301, sk_302, sl_302, sp_301, he, h, thc_2, ne_eq, d3, e2]
          | exact rfl
          | (split <;> omega))
      | some k =>
        rw [v3_s (m := fun _ => 4) h g, c3_s (m := fun _ => 4) h g]
        obtain ⟨hk, rfl⟩ := rx_s (by omega) g
        have e2 := rx_y (n := 4) (by omega) hk
        subst e1
        refine ev_tri hok (okM_X11_tasteOf 0) (Nat.le_of_ble_eq_true rfl) 400 ?_
        rw [at_X11_tasteOf_0]
        repeat' (first
          | (with_reducible refine ev_rid ?_; simp (disch := first | omega | assumption) only [ev_run_c, ev_run_n, ev_fj, ev_stp, ev_lk, ev_fv, ev_as, ev_sz, ev_st1, ev_st2, ev_rm, ev_pk, ev_Jof, ev_go, lv_args, List.map_cons, List.map_nil, List.zip_cons_cons, List.zip_nil_left, List.zip_nil_right, List.nil_append, List.cons_append, ↓reduceIte, reduceCtorEq, Int.reduceToNat, Nat.reduceEqDiff, Nat.reduceAdd, Nat.reduceLT, Nat.reduceLeDiff, Nat.reduceMul, Value.category, false_implies, true_and, and_true, Bool.false_eq_true, Option.some.injEq, exists_eq_left', Option.toList_some, Option.toList_none, ev_km, ev_k2, ev_k3, ev_k4, ev_k5, ev_l0, ev_l1, sh_1, sh_2, sh_3, sh_4, sh_5, at_X11_tasteOf_26, at_X11_tasteOf_27, at_X11_tasteOf_44, at_X11_tasteOf_45, ca_X11_121, ca_X11_397, ca_X11_401, ca_X11_72, cd_X11_tasteOf_0, cd_X11_tasteOf_26, cd_X11_tasteOf_27, cd_X11_tasteOf_44, cd_X11_tasteOf_45, fl_X11_47, no_0, no_1, no_lt, no_lt0, no_ge0, no_gt0, no_le0, no_eq0, no_0eq, no_eqm, no_meq, no_m0, no_mlt, no_mge, no_mgt, no_mm, no_i01, no_i10, no_in, no_or, no_ifm, no_mul, nI_add, no_sub, pk_div, iI_if, nI_clamp, oI_n, oI_s, not_true_eq_false, not_false_eq_true, forall_const, true_implies, false_and, and_false, or_false, false_or, Classical.not_not, true_or, or_true, no_b, no_eq1, eq_self, and_self, sk_301, sk_302, sl_302, sp_301, he, h, thc_0, ne_eq, d3, e2])
          | (with_reducible refine ev_gid ?_; simp (disch := first | omega | assumption) only [ev_run_c, ev_run_n, ev_fj, ev_stp, ev_lk, ev_fv, ev_as, ev_sz, ev_st1, ev_st2, ev_rm, ev_pk, ev_Jof, ev_go, lv_args, List.map_cons, List.map_nil, List.zip_cons_cons, List.zip_nil_left, List.zip_nil_right, List.nil_append, List.cons_append, ↓reduceIte, reduceCtorEq, Int.reduceToNat, Nat.reduceEqDiff, Nat.reduceAdd, Nat.reduceLT, Nat.reduceLeDiff, Nat.reduceMul, Value.category, false_implies, true_and, and_true, Bool.false_eq_true, Option.some.injEq, exists_eq_left', Option.toList_some, Option.toList_none, ev_km, ev_k2, ev_k3, ev_k4, ev_k5, ev_l0, ev_l1, sh_1, sh_2, sh_3, sh_4, sh_5, at_X11_tasteOf_26, at_X11_tasteOf_27, at_X11_tasteOf_44, at_X11_tasteOf_45, ca_X11_121, ca_X11_397, ca_X11_401, ca_X11_72, cd_X11_tasteOf_0, cd_X11_tasteOf_26, cd_X11_tasteOf_27, cd_X11_tasteOf_44, cd_X11_tasteOf_45, fl_X11_47, no_0, no_1, no_lt, no_lt0, no_ge0, no_gt0, no_le0, no_eq0, no_0eq, no_eqm, no_meq, no_m0, no_mlt, no_mge, no_mgt, no_mm, no_i01, no_i10, no_in, no_or, no_ifm, no_mul, nI_add, no_sub, pk_div, iI_if, nI_clamp, oI_n, oI_s, not_true_eq_false, not_false_eq_true, forall_const, true_implies, false_and, and_false, or_false, false_or, Classical.not_not, true_or, or_true, no_b, no_eq1, eq_self, and_self, sk_301, sk_302, sl_302, sp_301, he, h, thc_0, ne_eq, d3, e2])
          | (with_reducible refine And.intro (fun q => ?_) (fun q => ?_) <;> (try simp (disch := first | omega | assumption) only [no_0, no_1, no_lt, no_le, no_eq, no_lt0, no_ge0, no_gt0, no_le0, no_eq0, no_0eq, no_eqm, no_meq, no_m0, no_mlt, no_mge, no_mgt, no_mm, no_i01, no_i10, no_in, no_or, no_ifm, no_mul, nI_add, no_sub, pk_div, iI_if, nI_clamp, oI_n, oI_s, not_true_eq_false, not_false_eq_true, forall_const, true_implies, false_and, and_false, or_false, false_or, Classical.not_not, true_or, or_true, no_b, no_eq1, eq_self, and_self, sk_301, sk_302, sl_302, sp_301, he, h, thc_0, ne_eq, d3, e2] at q))
          | with_reducible refine ev_ci (m_X11_isPerson hok (by first | with_reducible assumption | exact th_R (by with_reducible assumption) | exact mw_R | exact ms_R) (by with_reducible assumption) ?_ ?_ _) ?_
          | with_reducible refine ev_ci (m_X11_inI hok _ _ _) ?_
          | with_reducible refine ev_ci (m_X11_in hok _ _ _ ?_ ?_ ?_) ?_
          | with_reducible refine ev_ci (m_X11_mayTwo hok _ _ ?_ ?_) ?_
          | with_reducible refine ev_ci (m_X11_of hok (by first | with_reducible assumption | exact th_R (by with_reducible assumption) | exact mw_R | exact ms_R) ?_ ?_) ?_
          | omega
          | with_reducible assumption
          | with_reducible rfl
          | with_reducible refine lp_nx ?_ ?_ ?_ ?_
          | with_reducible refine lp_st ?_ ?_ ?_
          | with_reducible refine ls_c ?_ ?_
          | with_reducible refine vi_c ?_
          | with_reducible refine re_c ?_
          | with_reducible refine vz_c ?_
          | with_reducible refine rz_c ?_
          | exact trivial
          | with_reducible refine And.intro ?_ ?_
          | simp (disch := first | omega | assumption) only [ev_run_c, ev_run_n, ev_fj, ev_stp, ev_lk, ev_fv, ev_as, ev_sz, ev_st1, ev_st2, ev_rm, ev_pk, ev_Jof, ev_go, lv_args, List.map_cons, List.map_nil, List.zip_cons_cons, List.zip_nil_left, List.zip_nil_right, List.nil_append, List.cons_append, ↓reduceIte, reduceCtorEq, Int.reduceToNat, Nat.reduceEqDiff, Nat.reduceAdd, Nat.reduceLT, Nat.reduceLeDiff, Nat.reduceMul, Value.category, false_implies, true_and, and_true, Bool.false_eq_true, Option.some.injEq, exists_eq_left', Option.toList_some, Option.toList_none, ev_km, ev_k2, ev_k3, ev_k4, ev_k5, ev_l0, ev_l1, sh_1, sh_2, sh_3, sh_4, sh_5, at_X11_tasteOf_26, at_X11_tasteOf_27, at_X11_tasteOf_44, at_X11_tasteOf_45, ca_X11_121, ca_X11_397, ca_X11_401, ca_X11_72, cd_X11_tasteOf_0, cd_X11_tasteOf_26, cd_X11_tasteOf_27, cd_X11_tasteOf_44, cd_X11_tasteOf_45, fl_X11_47, no_0, no_1, no_lt, no_lt0, no_ge0, no_gt0, no_le0, no_eq0, no_0eq, no_eqm, no_meq, no_m0, no_mlt, no_mge, no_mgt, no_mm, no_i01, no_i10, no_in, no_or, no_ifm, no_mul, nI_add, no_sub, pk_div, iI_if, nI_clamp, oI_n, oI_s, not_true_eq_false, not_false_eq_true, forall_const, true_implies, false_and, and_false, or_false, false_or, Classical.not_not, true_or, or_true, no_b, no_eq1, eq_self, and_self, sk_301, sk_302, sl_302, sp_301, he, h, thc_0, ne_eq, d3, e2]
          | exact rfl
          | (split <;> omega))
set_option maxHeartbeats 1000000 in
theorem m_X11_nameLetter (hok : ev_ok sh_S G) (hN : MR N μ) (hI : INV N) {e : Nat} (he : μ.1 301 6 = nI e) (he2 : e < 2) (x y : Int32) : ev_T sh_S G mi_X11_nameLetter [.ref 301, .int x, .int y] μ (.inl (some (.int (v1 e (N 0) x (fun i => match rx (N (8 + 59 * i + 6)) y with | none => -1 | some k => nI (N (8 + 59 * i + (7 + k)))))), th μ (c1 e (N 0) x))) := by
  have hh := iv_h hI
  rcases (show e = 0 ∨ e = 1 by omega) with rfl | rfl
  · rw [v1_0]
    refine ev_tri hok (okM_X11_nameLetter 0) (Nat.le_of_ble_eq_true rfl) 400 ?_
    rw [at_X11_nameLetter_0]
    repeat' (first
      | (with_reducible refine ev_rid ?_; simp (disch := first | omega | assumption) only [ev_run_c, ev_run_n, ev_fj, ev_stp, ev_lk, ev_fv, ev_as, ev_sz, ev_st1, ev_st2, ev_rm, ev_pk, ev_Jof, ev_go, lv_args, List.map_cons, List.map_nil, List.zip_cons_cons, List.zip_nil_left, List.zip_nil_right, List.nil_append, List.cons_append, ↓reduceIte, reduceCtorEq, Int.reduceToNat, Nat.reduceEqDiff, Nat.reduceAdd, Nat.reduceLT, Nat.reduceLeDiff, Nat.reduceMul, Value.category, false_implies, true_and, and_true, Bool.false_eq_true, Option.some.injEq, exists_eq_left', Option.toList_some, Option.toList_none, ev_km, ev_k2, ev_k3, ev_k4, ev_k5, ev_l0, ev_l1, sh_1, sh_2, sh_3, sh_4, sh_5, at_X11_nameLetter_10, at_X11_nameLetter_39, at_X11_nameLetter_40, ca_X11_121, ca_X11_414, ca_X11_72, cd_X11_nameLetter_0, cd_X11_nameLetter_10, cd_X11_nameLetter_39, cd_X11_nameLetter_40, ev_b_6, ev_b_7, no_0, no_1, no_lt, no_le, no_eq, no_lt0, no_ge0, no_gt0, no_le0, no_eq0, no_0eq, no_eqm, no_meq, no_m0, no_mlt, no_mge, no_mgt, no_mm, no_i01, no_i10, no_in, no_or, no_ifm, no_mul, nI_add, no_sub, pk_div, iI_if, nI_clamp, oI_n, oI_s, not_true_eq_false, not_false_eq_true, forall_const, true_implies, false_and, and_false, or_false, false_or, Classical.not_not, true_or, or_true, no_b, no_eq1, eq_self, and_self, sk_301, sk_302, sl_302, sp_301, c1_0])
      | (with_reducible refine ev_gid ?_; simp (disch := first | omega | assumption) only [ev_run_c, ev_run_n, ev_fj, ev_stp, ev_lk, ev_fv, ev_as, ev_sz, ev_st1, ev_st2, ev_rm, ev_pk, ev_Jof, ev_go, lv_args, List.map_cons, List.map_nil, List.zip_cons_cons, List.zip_nil_left, List.zip_nil_right, List.nil_append, List.cons_append, ↓reduceIte, reduceCtorEq, Int.reduceToNat, Nat.reduceEqDiff, Nat.reduceAdd, Nat.reduceLT, Nat.reduceLeDiff, Nat.reduceMul, Value.category, false_implies, true_and, and_true, Bool.false_eq_true, Option.some.injEq, exists_eq_left', Option.toList_some, Option.toList_none, ev_km, ev_k2, ev_k3, ev_k4, ev_k5, ev_l0, ev_l1, sh_1, sh_2, sh_3, sh_4, sh_5, at_X11_nameLetter_10, at_X11_nameLetter_39, at_X11_nameLetter_40, ca_X11_121, ca_X11_414, ca_X11_72, cd_X11_nameLetter_0, cd_X11_nameLetter_10, cd_X11_nameLetter_39, cd_X11_nameLetter_40, ev_b_6, ev_b_7, no_0, no_1, no_lt, no_le, no_eq, no_lt0, no_ge0, no_gt0, no_le0, no_eq0, no_0eq, no_eqm, no_meq, no_m0, no_mlt, no_mge, no_mgt, no_mm, no_i01, no_i10, no_in, no_or, no_ifm, no_mul, nI_add, no_sub, pk_div, iI_if, nI_clamp, oI_n, oI_s, not_true_eq_false, not_false_eq_true, forall_const, true_implies, false_and, and_false, or_false, false_or, Classical.not_not, true_or, or_true, no_b, no_eq1, eq_self, and_self, sk_301, sk_302, sl_302, sp_301, c1_0])
      | (with_reducible refine And.intro (fun q => ?_) (fun q => ?_) <;> (try simp (disch := first | omega | assumption) only [no_0, no_1, no_lt, no_le, no_eq, no_lt0, no_ge0, no_gt0, no_le0, no_eq0, no_0eq, no_eqm, no_meq, no_m0, no_mlt, no_mge, no_mgt, no_mm, no_i01, no_i10, no_in, no_or, no_ifm, no_mul, nI_add, no_sub, pk_div, iI_if, nI_clamp, oI_n, oI_s, not_true_eq_false, not_false_eq_true, forall_const, true_implies, false_and, and_false, or_false, false_or, Classical.not_not, true_or, or_true, no_b, no_eq1, eq_self, and_self, sk_301, sk_302, sl_302, sp_301, c1_0] at q))
      | with_reducible refine ev_ci (m_X11_mayPerson hok (by first | with_reducible assumption | exact th_R (by with_reducible assumption) | exact mw_R | exact ms_R) (by with_reducible assumption) ?_ ?_ _) ?_
      | with_reducible refine ev_ci (m_X11_of hok (by first | with_reducible assumption | exact th_R (by with_reducible assumption) | exact mw_R | exact ms_R) ?_ ?_) ?_
      | with_reducible refine ev_ci (m_X11_inI hok _ _ _) ?_
      | with_reducible refine ev_ci (m_X11_in hok _ _ _ ?_ ?_ ?_) ?_
      | omega
      | with_reducible assumption
      | with_reducible rfl
      | with_reducible refine lp_nx ?_ ?_ ?_ ?_
      | with_reducible refine lp_st ?_ ?_ ?_
      | with_reducible refine ls_c ?_ ?_
      | with_reducible refine vi_c ?_
      | with_reducible refine re_c ?_
      | with_reducible refine vz_c ?_
      | with_reducible refine rz_c ?_
      | exact trivial
      | with_reducible refine And.intro ?_ ?_
      | simp (disch := first | omega | assumption) only [ev_run_c, ev_run_n, ev_fj, ev_stp, ev_lk, ev_fv, ev_as, ev_sz, ev_st1, ev_st2, ev_rm, ev_pk, ev_Jof, ev_go, lv_args, List.map_cons, List.map_nil, List.zip_cons_cons, List.zip_nil_left, List.zip_nil_right, List.nil_append, List.cons_append, ↓reduceIte, reduceCtorEq, Int.reduceToNat, Nat.reduceEqDiff, Nat.reduceAdd, Nat.reduceLT, Nat.reduceLeDiff, Nat.reduceMul, Value.category, false_implies, true_and, and_true, Bool.false_eq_true, Option.some.injEq, exists_eq_left', Option.toList_some, Option.toList_none, ev_km, ev_k2, ev_k3, ev_k4, ev_k5, ev_l0, ev_l1, sh_1, sh_2, sh_3, sh_4, sh_5, at_X11_nameLetter_10, at_X11_nameLetter_39, at_X11_nameLetter_40, ca_X11_121, ca_X11_414, ca_X11_72, cd_X11_nameLetter_0, cd_X11_nameLetter_10, cd_X11_nameLetter_39, cd_X11_nameLetter_40, ev_b_6, ev_b_7, no_0, no_1, no_lt, no_le, no_eq, no_lt0, no_ge0, no_gt0, no_le0, no_eq0, no_0eq, no_eqm, no_meq, no_m0, no_mlt, no_mge, no_mgt, no_mm, no_i01, no_i10, no_in, no_or, no_ifm, no_mul, nI_add, no_sub, pk_div, iI_if, nI_clamp, oI_n, oI_s, not_true_eq_false, not_false_eq_true, forall_const, true_implies, false_and, and_false, or_false, false_or, Classical.not_not, true_or, or_true, no_b, no_eq1, eq_self, and_self, sk_301, sk_302, sl_302, sp_301, c1_0]
      | exact rfl
      | (split <;> omega))
  · cases h : rx (N 0) x with
    | none =>
      rw [v1_n h]
      refine ev_tri hok (okM_X11_nameLetter 0) (Nat.le_of_ble_eq_true rfl) 400 ?_
      rw [at_X11_nameLetter_0]
      repeat' (first
        | (with_reducible refine ev_rid ?_; simp (disch := first | omega | assumption) only [ev_run_c, ev_run_n, ev_fj, ev_stp, ev_lk, ev_fv, ev_as, ev_sz, ev_st1, ev_st2, ev_rm, ev_pk, ev_Jof, ev_go, lv_args, List.map_cons, List.map_nil, List.zip_cons_cons, List.zip_nil_left, List.zip_nil_right, List.nil_append, List.cons_append, ↓reduceIte, reduceCtorEq, Int.reduceToNat, Nat.reduceEqDiff, Nat.reduceAdd, Nat.reduceLT, Nat.reduceLeDiff, Nat.reduceMul, Value.category, false_implies, true_and, and_true, Bool.false_eq_true, Option.some.injEq, exists_eq_left', Option.toList_some, Option.toList_none, ev_km, ev_k2, ev_k3, ev_k4, ev_k5, ev_l0, ev_l1, sh_1, sh_2, sh_3, sh_4, sh_5, at_X11_nameLetter_10, at_X11_nameLetter_39, at_X11_nameLetter_40, ca_X11_121, ca_X11_414, ca_X11_72, cd_X11_nameLetter_0, cd_X11_nameLetter_10, cd_X11_nameLetter_39, cd_X11_nameLetter_40, ev_b_6, ev_b_7, no_0, no_1, no_lt, no_le, no_eq, no_lt0, no_ge0, no_gt0, no_le0, no_eq0, no_0eq, no_eqm, no_meq, no_m0, no_mlt, no_mge, no_mgt, no_mm, no_i01, no_i10, no_in, no_or, no_ifm, no_mul, nI_add, no_sub, pk_div, iI_if, nI_clamp, oI_n, oI_s, not_true_eq_false, not_false_eq_true, forall_const, true_implies, false_and, and_false, or_false, false_or, Classical.not_not, true_or, or_true, no_b, no_eq1, eq_self, and_self, sk_301, sk_302, sl_302, sp_301, c1_n h])
        | (with_reducible refine ev_gid ?_; simp (disch := first | omega | assumption) only [ev_run_c, ev_run_n, ev_fj, ev_stp, ev_lk, ev_fv, ev_as, ev_sz, ev_st1, ev_st2, ev_rm, ev_pk, ev_Jof, ev_go, lv_args, List.map_cons, List.map_nil, List.zip_cons_cons, List.zip_nil_left, List.zip_nil_right, List.nil_append, List.cons_append, ↓reduceIte, reduceCtorEq, Int.reduceToNat, Nat.reduceEqDiff, Nat.reduceAdd, Nat.reduceLT, Nat.reduceLeDiff, Nat.reduceMul, Value.category, false_implies, true_and, and_true, Bool.false_eq_true, Option.some.injEq, exists_eq_left', Option.toList_some, Option.toList_none, ev_km, ev_k2, ev_k3, ev_k4, ev_k5, ev_l0, ev_l1, sh_1, sh_2, sh_3, sh_4, sh_5, at_X11_nameLetter_10, at_X11_nameLetter_39, at_X11_nameLetter_40, ca_X11_121, ca_X11_414, ca_X11_72, cd_X11_nameLetter_0, cd_X11_nameLetter_10, cd_X11_nameLetter_39, cd_X11_nameLetter_40, ev_b_6, ev_b_7, no_0, no_1, no_lt, no_le, no_eq, no_lt0, no_ge0, no_gt0, no_le0, no_eq0, no_0eq, no_eqm, no_meq, no_m0, no_mlt, no_mge, no_mgt, no_mm, no_i01, no_i10, no_in, no_or, no_ifm, no_mul, nI_add, no_sub, pk_div, iI_if, nI_clamp, oI_n, oI_s, not_true_eq_false, not_false_eq_true, forall_const, true_implies, false_and, and_false, or_false, false_or, Classical.not_not, true_or, or_true, no_b, no_eq1, eq_self, and_self, sk_301, sk_302, sl_302, sp_301, c1_n h])
        | (with_reducible refine And.intro (fun q => ?_) (fun q => ?_) <;> (try simp (disch := first | omega | assumption) only [no_0, no_1, no_lt, no_le, no_eq, no_lt0, no_ge0, no_gt0, no_le0, no_eq0, no_0eq, no_eqm, no_meq, no_m0, no_mlt, no_mge, no_mgt, no_mm, no_i01, no_i10, no_in, no_or, no_ifm, no_mul, nI_add, no_sub, pk_div, iI_if, nI_clamp, oI_n, oI_s, not_true_eq_false, not_false_eq_true, forall_const, true_implies, false_and, and_false, or_false, false_or, Classical.not_not, true_or, or_true, no_b, no_eq1, eq_self, and_self, sk_301, sk_302, sl_302, sp_301, c1_n h] at q))
        | with_reducible refine ev_ci (m_X11_mayPerson hok (by first | with_reducible assumption | exact th_R (by with_reducible assumption) | exact mw_R | exact ms_R) (by with_reducible assumption) ?_ ?_ _) ?_
        | with_reducible refine ev_ci (m_X11_of hok (by first | with_reducible assumption | exact th_R (by with_reducible assumption) | exact mw_R | exact ms_R) ?_ ?_) ?_
        | with_reducible refine ev_ci (m_X11_inI hok _ _ _) ?_
        | with_reducible refine ev_ci (m_X11_in hok _ _ _ ?_ ?_ ?_) ?_
        | omega
        | with_reducible assumption
        | with_reducible rfl
        | with_reducible refine lp_nx ?_ ?_ ?_ ?_
        | with_reducible refine lp_st ?_ ?_ ?_
        | with_reducible refine ls_c ?_ ?_
        | with_reducible refine vi_c ?_
        | with_reducible refine re_c ?_
        | with_reducible refine vz_c ?_
        | with_reducible refine rz_c ?_
        | exact trivial
        | with_reducible refine And.intro ?_ ?_
        | simp (disch := first | omega | assumption) only [ev_run_c, ev_run_n, ev_fj, ev_stp, ev_lk, ev_fv, ev_as, ev_sz, ev_st1, ev_st2, ev_rm, ev_pk, ev_Jof, ev_go, lv_args, List.map_cons, List.map_nil, List.zip_cons_cons, List.zip_nil_left, List.zip_nil_right, List.nil_append, List.cons_append, ↓reduceIte, reduceCtorEq, Int.reduceToNat, Nat.reduceEqDiff, Nat.reduceAdd, Nat.reduceLT, Nat.reduceLeDiff, Nat.reduceMul, Value.category, false_implies, true_and, and_true, Bool.false_eq_true, Option.some.injEq, exists_eq_left', Option.toList_some, Option.toList_none, ev_km, ev_k2, ev_k3, ev_k4, ev_k5, ev_l0, ev_l1, sh_1, sh_2, sh_3, sh_4, sh_5, at_X11_nameLetter_10, at_X11_nameLetter_39, at_X11_nameLetter_40, ca_X11_121, ca_X11_414, ca_X11_72, cd_X11_nameLetter_0, cd_X11_nameLetter_10, cd_X11_nameLetter_39, cd_X11_nameLetter_40, ev_b_6, ev_b_7, no_0, no_1, no_lt, no_le, no_eq, no_lt0, no_ge0, no_gt0, no_le0, no_eq0, no_0eq, no_eqm, no_meq, no_m0, no_mlt, no_mge, no_mgt, no_mm, no_i01, no_i10, no_in, no_or, no_ifm, no_mul, nI_add, no_sub, pk_div, iI_if, nI_clamp, oI_n, oI_s, not_true_eq_false, not_false_eq_true, forall_const, true_implies, false_and, and_false, or_false, false_or, Classical.not_not, true_or, or_true, no_b, no_eq1, eq_self, and_self, sk_301, sk_302, sl_302, sp_301, c1_n h]
        | exact rfl
        | (split <;> omega))
    | some i =>
      rw [v1_s h]
      obtain ⟨hi, rfl⟩ := rx_s (by omega) h
      have h2 := iv_p hI i (by omega)
      cases g : rx (N (8 + 59 * i + 6)) y with
      | none =>
        have e2 := rx_n (by omega) g
        refine ev_tri hok (okM_X11_nameLetter 0) (Nat.le_of_ble_eq_true rfl) 400 ?_
        rw [at_X11_nameLetter_0]
        repeat' (first
          | (with_reducible refine ev_rid ?_; simp (disch := first | omega | assumption) only [ev_run_c, ev_run_n, ev_fj, ev_stp, ev_lk, ev_fv, ev_as, ev_sz, ev_st1, ev_st2, ev_rm, ev_pk, ev_Jof, ev_go, lv_args, List.map_cons, List.map_nil, List.zip_cons_cons, List.zip_nil_left, List.zip_nil_right, List.nil_append, List.cons_append, ↓reduceIte, reduceCtorEq, Int.reduceToNat, Nat.reduceEqDiff, Nat.reduceAdd, Nat.reduceLT, Nat.reduceLeDiff, Nat.reduceMul, Value.category, false_implies, true_and, and_true, Bool.false_eq_true, Option.some.injEq, exists_eq_left', Option.toList_some, Option.toList_none, ev_km, ev_k2, ev_k3, ev_k4, ev_k5, ev_l0, ev_l1, sh_1, sh_2, sh_3, sh_4, sh_5, at_X11_nameLetter_10, at_X11_nameLetter_39, at_X11_nameLetter_40, ca_X11_121, ca_X11_414, ca_X11_72, cd_X11_nameLetter_0, cd_X11_nameLetter_10, cd_X11_nameLetter_39, cd_X11_nameLetter_40, ev_b_6, ev_b_7, no_0, no_1, no_lt, no_le, no_eq, no_lt0, no_ge0, no_gt0, no_le0, no_eq0, no_0eq, no_eqm, no_meq, no_m0, no_mlt, no_mge, no_mgt, no_mm, no_i01, no_i10, no_in, no_or, no_ifm, no_mul, nI_add, pk_div, iI_if, nI_clamp, oI_n, oI_s, not_true_eq_false, not_false_eq_true, forall_const, true_implies, false_and, and_false, or_false, false_or, Classical.not_not, true_or, or_true, no_b, no_eq1, eq_self, and_self, sk_301, sk_302, sl_302, sp_301, c1_s h, dI_i, e2])
          | (with_reducible refine ev_gid ?_; simp (disch := first | omega | assumption) only [ev_run_c, ev_run_n, ev_fj, ev_stp, ev_lk, ev_fv, ev_as, ev_sz, ev_st1, ev_st2, ev_rm, ev_pk, ev_Jof, ev_go, lv_args, List.map_cons, List.map_nil, List.zip_cons_cons, List.zip_nil_left, List.zip_nil_right, List.nil_append, List.cons_append, ↓reduceIte, reduceCtorEq, Int.reduceToNat, Nat.reduceEqDiff, Nat.reduceAdd, Nat.reduceLT, Nat.reduceLeDiff, Nat.reduceMul, Value.category, false_implies, true_and, and_true, Bool.false_eq_true, Option.some.injEq, exists_eq_left', Option.toList_some, Option.toList_none, ev_km, ev_k2, ev_k3, ev_k4, ev_k5, ev_l0, ev_l1, sh_1, sh_2, sh_3, sh_4, sh_5, at_X11_nameLetter_10, at_X11_nameLetter_39, at_X11_nameLetter_40, ca_X11_121, ca_X11_414, ca_X11_72, cd_X11_nameLetter_0, cd_X11_nameLetter_10, cd_X11_nameLetter_39, cd_X11_nameLetter_40, ev_b_6, ev_b_7, no_0, no_1, no_lt, no_le, no_eq, no_lt0, no_ge0, no_gt0, no_le0, no_eq0, no_0eq, no_eqm, no_meq, no_m0, no_mlt, no_mge, no_mgt, no_mm, no_i01, no_i10, no_in, no_or, no_ifm, no_mul, nI_add, pk_div, iI_if, nI_clamp, oI_n, oI_s, not_true_eq_false, not_false_eq_true, forall_const, true_implies, false_and, and_false, or_false, false_or, Classical.not_not, true_or, or_true, no_b, no_eq1, eq_self, and_self, sk_301, sk_302, sl_302, sp_301, c1_s h, dI_i, e2])
          | (with_reducible refine And.intro (fun q => ?_) (fun q => ?_) <;> (try simp (disch := first | omega | assumption) only [no_0, no_1, no_lt, no_le, no_eq, no_lt0, no_ge0, no_gt0, no_le0, no_eq0, no_0eq, no_eqm, no_meq, no_m0, no_mlt, no_mge, no_mgt, no_mm, no_i01, no_i10, no_in, no_or, no_ifm, no_mul, nI_add, no_sub, pk_div, iI_if, nI_clamp, oI_n, oI_s, not_true_eq_false, not_false_eq_true, forall_const, true_implies, false_and, and_false, or_false, false_or, Classical.not_not, true_or, or_true, no_b, no_eq1, eq_self, and_self, sk_301, sk_302, sl_302, sp_301, c1_s h, dI_i, e2] at q))
          | with_reducible refine ev_ci (m_X11_mayPerson hok (by first | with_reducible assumption | exact th_R (by with_reducible assumption) | exact mw_R | exact ms_R) (by with_reducible assumption) ?_ ?_ _) ?_
          | with_reducible refine ev_ci (m_X11_of hok (by first | with_reducible assumption | exact th_R (by with_reducible assumption) | exact mw_R | exact ms_R) ?_ ?_) ?_
          | with_reducible refine ev_ci (m_X11_inI hok _ _ _) ?_
          | with_reducible refine ev_ci (m_X11_in hok _ _ _ ?_ ?_ ?_) ?_
          | omega
          | with_reducible assumption
          | with_reducible rfl
          | with_reducible refine lp_nx ?_ ?_ ?_ ?_
          | with_reducible refine lp_st ?_ ?_ ?_
          | with_reducible refine ls_c ?_ ?_
          | with_reducible refine vi_c ?_
          | with_reducible refine re_c ?_
          | with_reducible refine vz_c ?_
          | with_reducible refine rz_c ?_
          | exact trivial
          | with_reducible refine And.intro ?_ ?_
          | simp (disch := first | omega | assumption) only [ev_run_c, ev_run_n, ev_fj, ev_stp, ev_lk, ev_fv, ev_as, ev_sz, ev_st1, ev_st2, ev_rm, ev_pk, ev_Jof, ev_go, lv_args, List.map_cons, List.map_nil, List.zip_cons_cons, List.zip_nil_left, List.zip_nil_right, List.nil_append, List.cons_append, ↓reduceIte, reduceCtorEq, Int.reduceToNat, Nat.reduceEqDiff, Nat.reduceAdd, Nat.reduceLT, Nat.reduceLeDiff, Nat.reduceMul, Value.category, false_implies, true_and, and_true, Bool.false_eq_true, Option.some.injEq, exists_eq_left', Option.toList_some, Option.toList_none, ev_km, ev_k2, ev_k3, ev_k4, ev_k5, ev_l0, ev_l1, sh_1, sh_2, sh_3, sh_4, sh_5, at_X11_nameLetter_10, at_X11_nameLetter_39, at_X11_nameLetter_40, ca_X11_121, ca_X11_414, ca_X11_72, cd_X11_nameLetter_0, cd_X11_nameLetter_10, cd_X11_nameLetter_39, cd_X11_nameLetter_40, ev_b_6, ev_b_7, no_0, no_1, no_lt, no_le, no_eq, no_lt0, no_ge0, no_gt0, no_le0, no_eq0, no_0eq, no_eqm, no_meq, no_m0, no_mlt, no_mge, no_mgt, no_mm, no_i01, no_i10, no_in, no_or, no_ifm, no_mul, nI_add, pk_div, iI_if, nI_clamp, oI_n, oI_s, not_true_eq_false, not_false_eq_true, forall_const, true_implies, false_and, and_false, or_false, false_or, Classical.not_not, true_or, or_true, no_b, no_eq1, eq_self, and_self, sk_301, sk_302, sl_302, sp_301, c1_s h, dI_i, e2]
          | exact rfl
          | (split <;> omega))
      | some k =>
        obtain ⟨hk, rfl⟩ := rx_s (by omega) g
        have e2 := rx_y (n := N (8 + 59 * i + 6)) (by omega) hk
        refine ev_tri hok (okM_X11_nameLetter 0) (Nat.le_of_ble_eq_true rfl) 400 ?_
        rw [at_X11_nameLetter_0]
        repeat' (first
          | (with_reducible refine ev_rid ?_; simp (disch := first | omega | assumption) only [ev_run_c, ev_run_n, ev_fj, ev_stp, ev_lk, ev_fv, ev_as, ev_sz, ev_st1, ev_st2, ev_rm, ev_pk, ev_Jof, ev_go, lv_args, List.map_cons, List.map_nil, List.zip_cons_cons, List.zip_nil_left, List.zip_nil_right, List.nil_append, List.cons_append, ↓reduceIte, reduceCtorEq, Int.reduceToNat, Nat.reduceEqDiff, Nat.reduceAdd, Nat.reduceLT, Nat.reduceLeDiff, Nat.reduceMul, Value.category, false_implies, true_and, and_true, Bool.false_eq_true, Option.some.injEq, exists_eq_left', Option.toList_some, Option.toList_none, ev_km, ev_k2, ev_k3, ev_k4, ev_k5, ev_l0, ev_l1, sh_1, sh_2, sh_3, sh_4, sh_5, at_X11_nameLetter_10, at_X11_nameLetter_39, at_X11_nameLetter_40, ca_X11_121, ca_X11_414, ca_X11_72, cd_X11_nameLetter_0, cd_X11_nameLetter_10, cd_X11_nameLetter_39, cd_X11_nameLetter_40, ev_b_6, ev_b_7, no_0, no_1, no_lt, no_lt0, no_ge0, no_gt0, no_le0, no_eq0, no_0eq, no_eqm, no_meq, no_m0, no_mlt, no_mge, no_mgt, no_mm, no_i01, no_i10, no_in, no_or, no_ifm, no_mul, nI_add, pk_div, iI_if, nI_clamp, oI_n, oI_s, not_true_eq_false, not_false_eq_true, forall_const, true_implies, false_and, and_false, or_false, false_or, Classical.not_not, true_or, or_true, no_b, no_eq1, eq_self, and_self, sk_301, sk_302, sl_302, sp_301, c1_s h, dI_i, e2])
          | (with_reducible refine ev_gid ?_; simp (disch := first | omega | assumption) only [ev_run_c, ev_run_n, ev_fj, ev_stp, ev_lk, ev_fv, ev_as, ev_sz, ev_st1, ev_st2, ev_rm, ev_pk, ev_Jof, ev_go, lv_args, List.map_cons, List.map_nil, List.zip_cons_cons, List.zip_nil_left, List.zip_nil_right, List.nil_append, List.cons_append, ↓reduceIte, reduceCtorEq, Int.reduceToNat, Nat.reduceEqDiff, Nat.reduceAdd, Nat.reduceLT, Nat.reduceLeDiff, Nat.reduceMul, Value.category, false_implies, true_and, and_true, Bool.false_eq_true, Option.some.injEq, exists_eq_left', Option.toList_some, Option.toList_none, ev_km, ev_k2, ev_k3, ev_k4, ev_k5, ev_l0, ev_l1, sh_1, sh_2, sh_3, sh_4, sh_5, at_X11_nameLetter_10, at_X11_nameLetter_39, at_X11_nameLetter_40, ca_X11_121, ca_X11_414, ca_X11_72, cd_X11_nameLetter_0, cd_X11_nameLetter_10, cd_X11_nameLetter_39, cd_X11_nameLetter_40, ev_b_6, ev_b_7, no_0, no_1, no_lt, no_lt0, no_ge0, no_gt0, no_le0, no_eq0, no_0eq, no_eqm, no_meq, no_m0, no_mlt, no_mge, no_mgt, no_mm, no_i01, no_i10, no_in, no_or, no_ifm, no_mul, nI_add, pk_div, iI_if, nI_clamp, oI_n, oI_s, not_true_eq_false, not_false_eq_true, forall_const, true_implies, false_and, and_false, or_false, false_or, Classical.not_not, true_or, or_true, no_b, no_eq1, eq_self, and_self, sk_301, sk_302, sl_302, sp_301, c1_s h, dI_i, e2])
          | (with_reducible refine And.intro (fun q => ?_) (fun q => ?_) <;> (try simp (disch := first | omega | assumption) only [no_0, no_1, no_lt, no_le, no_eq, no_lt0, no_ge0, no_gt0, no_le0, no_eq0, no_0eq, no_eqm, no_meq, no_m0, no_mlt, no_mge, no_mgt, no_mm, no_i01, no_i10, no_in, no_or, no_ifm, no_mul, nI_add, no_sub, pk_div, iI_if, nI_clamp, oI_n, oI_s, not_true_eq_false, not_false_eq_true, forall_const, true_implies, false_and, and_false, or_false, false_or, Classical.not_not, true_or, or_true, no_b, no_eq1, eq_self, and_self, sk_301, sk_302, sl_302, sp_301, c1_s h, dI_i, e2] at q))
          | with_reducible refine ev_ci (m_X11_mayPerson hok (by first | with_reducible assumption | exact th_R (by with_reducible assumption) | exact mw_R | exact ms_R) (by with_reducible assumption) ?_ ?_ _) ?_
          | with_reducible refine ev_ci (m_X11_of hok (by first | with_reducible assumption | exact th_R (by with_reducible assumption) | exact mw_R | exact ms_R) ?_ ?_) ?_
          | with_reducible refine ev_ci (m_X11_inI hok _ _ _) ?_
          | with_reducible refine ev_ci (m_X11_in hok _ _ _ ?_ ?_ ?_) ?_
          | omega
          | with_reducible assumption
          | with_reducible rfl
          | with_reducible refine lp_nx ?_ ?_ ?_ ?_
          | with_reducible refine lp_st ?_ ?_ ?_
          | with_reducible refine ls_c ?_ ?_
          | with_reducible refine vi_c ?_
          | with_reducible refine re_c ?_
          | with_reducible refine vz_c ?_
          | with_reducible refine rz_c ?_
          | exact trivial
          | with_reducible refine And.intro ?_ ?_
          | simp (disch := first | omega | assumption) only [ev_run_c, ev_run_n, ev_fj, ev_stp, ev_lk, ev_fv, ev_as, ev_sz, ev_st1, ev_st2, ev_rm, ev_pk, ev_Jof, ev_go, lv_args, List.map_cons, List.map_nil, List.zip_cons_cons, List.zip_nil_left, List.zip_nil_right, List.nil_append, List.cons_append, ↓reduceIte, reduceCtorEq, Int.reduceToNat, Nat.reduceEqDiff, Nat.reduceAdd, Nat.reduceLT, Nat.reduceLeDiff, Nat.reduceMul, Value.category, false_implies, true_and, and_true, Bool.false_eq_true, Option.some.injEq, exists_eq_left', Option.toList_some, Option.toList_none, ev_km, ev_k2, ev_k3, ev_k4, ev_k5, ev_l0, ev_l1, sh_1, sh_2, sh_3, sh_4, sh_5, at_X11_nameLetter_10, at_X11_nameLetter_39, at_X11_nameLetter_40, ca_X11_121, ca_X11_414, ca_X11_72, cd_X11_nameLetter_0, cd_X11_nameLetter_10, cd_X11_nameLetter_39, cd_X11_nameLetter_40, ev_b_6, ev_b_7, no_0, no_1, no_lt, no_lt0, no_ge0, no_gt0, no_le0, no_eq0, no_0eq, no_eqm, no_meq, no_m0, no_mlt, no_mge, no_mgt, no_mm, no_i01, no_i10, no_in, no_or, no_ifm, no_mul, nI_add, pk_div, iI_if, nI_clamp, oI_n, oI_s, not_true_eq_false, not_false_eq_true, forall_const, true_implies, false_and, and_false, or_false, false_or, Classical.not_not, true_or, or_true, no_b, no_eq1, eq_self, and_self, sk_301, sk_302, sl_302, sp_301, c1_s h, dI_i, e2]
          | exact rfl
          | (split <;> omega))
/-- n elements of a's row from i on copied to b's from j on -/
def cpy (μ : ev_M) (a i b j n : Nat) : ev_M := (fun c x => if c = b ∧ j ≤ x ∧ x < j + n then μ.1 a (i + (x - j)) else μ.1 c x, μ.2)
theorem cpy_0 {a i b j : Nat} : cpy μ a i b j 0 = μ := Prod.ext (funext fun c => funext fun x => if_neg (by omega)) rfl
theorem cpy_s {a i b j n : Nat} (h : a ≠ b) : (ev_up (cpy μ a i b j n).1 b (j + n) ((cpy μ a i b j n).1 a (i + n)), (cpy μ a i b j n).2) = cpy μ a i b j (n + 1) := by
  refine Prod.ext (funext fun c => funext fun x => ?_) rfl
  show (if c = b ∧ x = j + n then (if a = b ∧ j ≤ i + n ∧ i + n < j + n then μ.1 a (i + (i + n - j)) else μ.1 a (i + n)) else if c = b ∧ j ≤ x ∧ x < j + n then μ.1 a (i + (x - j)) else μ.1 c x) = if c = b ∧ j ≤ x ∧ x < j + (n + 1) then μ.1 a (i + (x - j)) else μ.1 c x
  rw [if_neg (show ¬ (a = b ∧ j ≤ i + n ∧ i + n < j + n) from fun q => h q.1)]
  by_cases h1 : c = b ∧ x = j + n
  · rw [if_pos h1, if_pos (by omega), h1.2]
    exact congrArg (μ.1 a) (by omega)
  · rw [if_neg h1]
    by_cases h2 : c = b ∧ j ≤ x ∧ x < j + n
    · rw [if_pos h2, if_pos (by omega)]
    · rw [if_neg h2, if_neg (by omega)]
theorem m_X11_lays (hok : ev_ok sh_S G) {a i b j : Nat} (ha : a < 312) (hb : b < 312) (hka : sh_kd a = 10) (hkb : sh_kd b = 10) (hab : a ≠ b) (hi : i + 1042 ≤ sh_ln a) (hj : j + 1042 ≤ sh_ln b) (hla : sh_ln a < 10000) (hlb : sh_ln b < 10000) : ev_T sh_S G mi_X11_lays [.ref a, .int (nI i), .ref b, .int (nI j)] μ (.inl (none, cpy μ a i b j 1042)) := by
  refine ev_tri1 hok (okM_X11_lays 0) (Nat.le_of_ble_eq_true rfl) 3 [0, 1, 2, 3, 4] 1042 400 (fun k => [.ref a, .int (nI i), .ref b, .int (nI j), .int (nI k)]) (fun k => cpy μ a i b j k) (fun _ => True) ?_ ?_
  · intro k hk _
    rw [at_X11_lays_3]
    have e := cpy_s (μ := μ) (i := i) (j := j) (n := k) hab
    rcases Nat.lt_or_ge k 1042 with hkn | hkn
    · repeat' (first
        | (with_reducible refine ev_rid ?_; simp (disch := first | omega | assumption) only [ev_run_c, ev_run_n, ev_fj, ev_stp, ev_lk, ev_fv, ev_as, ev_sz, ev_st1, ev_st2, ev_rm, ev_pk, ev_Jof, ev_go, lv_args, List.map_cons, List.map_nil, List.zip_cons_cons, List.zip_nil_left, List.zip_nil_right, List.nil_append, List.cons_append, ↓reduceIte, reduceCtorEq, Int.reduceToNat, Nat.reduceEqDiff, Nat.reduceAdd, Nat.reduceLT, Nat.reduceLeDiff, Nat.reduceMul, Value.category, false_implies, true_and, and_true, Bool.false_eq_true, Option.some.injEq, exists_eq_left', Option.toList_some, Option.toList_none, ev_km, ev_k2, ev_k3, ev_k4, ev_k5, ev_l0, ev_l1, sh_1, sh_2, sh_3, sh_4, sh_5, at_X11_lays_29, at_X11_lays_3, cd_X11_lays_0, cd_X11_lays_29, cd_X11_lays_3, ev_h_1042, no_0, no_1, no_lt, no_le, no_eq, no_lt0, no_ge0, no_gt0, no_le0, no_eq0, no_0eq, no_eqm, no_meq, no_m0, no_mlt, no_mge, no_mgt, no_mm, no_i01, no_i10, no_in, no_or, no_ifm, no_mul, nI_add, no_sub, pk_div, iI_if, nI_clamp, oI_n, oI_s, not_true_eq_false, not_false_eq_true, forall_const, true_implies, false_and, and_false, or_false, false_or, Classical.not_not, true_or, or_true, no_b, no_eq1, eq_self, and_self, sk_301, sk_302, sl_302, sp_301, hka, hkb, e])
        | (with_reducible refine ev_gid ?_; simp (disch := first | omega | assumption) only [ev_run_c, ev_run_n, ev_fj, ev_stp, ev_lk, ev_fv, ev_as, ev_sz, ev_st1, ev_st2, ev_rm, ev_pk, ev_Jof, ev_go, lv_args, List.map_cons, List.map_nil, List.zip_cons_cons, List.zip_nil_left, List.zip_nil_right, List.nil_append, List.cons_append, ↓reduceIte, reduceCtorEq, Int.reduceToNat, Nat.reduceEqDiff, Nat.reduceAdd, Nat.reduceLT, Nat.reduceLeDiff, Nat.reduceMul, Value.category, false_implies, true_and, and_true, Bool.false_eq_true, Option.some.injEq, exists_eq_left', Option.toList_some, Option.toList_none, ev_km, ev_k2, ev_k3, ev_k4, ev_k5, ev_l0, ev_l1, sh_1, sh_2, sh_3, sh_4, sh_5, at_X11_lays_29, at_X11_lays_3, cd_X11_lays_0, cd_X11_lays_29, cd_X11_lays_3, ev_h_1042, no_0, no_1, no_lt, no_le, no_eq, no_lt0, no_ge0, no_gt0, no_le0, no_eq0, no_0eq, no_eqm, no_meq, no_m0, no_mlt, no_mge, no_mgt, no_mm, no_i01, no_i10, no_in, no_or, no_ifm, no_mul, nI_add, no_sub, pk_div, iI_if, nI_clamp, oI_n, oI_s, not_true_eq_false, not_false_eq_true, forall_const, true_implies, false_and, and_false, or_false, false_or, Classical.not_not, true_or, or_true, no_b, no_eq1, eq_self, and_self, sk_301, sk_302, sl_302, sp_301, hka, hkb, e])
        | (with_reducible refine And.intro (fun q => ?_) (fun q => ?_) <;> (try simp (disch := first | omega | assumption) only [no_0, no_1, no_lt, no_le, no_eq, no_lt0, no_ge0, no_gt0, no_le0, no_eq0, no_0eq, no_eqm, no_meq, no_m0, no_mlt, no_mge, no_mgt, no_mm, no_i01, no_i10, no_in, no_or, no_ifm, no_mul, nI_add, no_sub, pk_div, iI_if, nI_clamp, oI_n, oI_s, not_true_eq_false, not_false_eq_true, forall_const, true_implies, false_and, and_false, or_false, false_or, Classical.not_not, true_or, or_true, no_b, no_eq1, eq_self, and_self, sk_301, sk_302, sl_302, sp_301, hka, hkb, e] at q))
        | omega
        | with_reducible assumption
        | with_reducible rfl
        | with_reducible refine lp_nx ?_ ?_ ?_ ?_
        | with_reducible refine lp_st ?_ ?_ ?_
        | with_reducible refine ls_c ?_ ?_
        | with_reducible refine vi_c ?_
        | with_reducible refine re_c ?_
        | with_reducible refine vz_c ?_
        | with_reducible refine rz_c ?_
        | exact trivial
        | with_reducible refine And.intro ?_ ?_
        | simp (disch := first | omega | assumption) only [ev_run_c, ev_run_n, ev_fj, ev_stp, ev_lk, ev_fv, ev_as, ev_sz, ev_st1, ev_st2, ev_rm, ev_pk, ev_Jof, ev_go, lv_args, List.map_cons, List.map_nil, List.zip_cons_cons, List.zip_nil_left, List.zip_nil_right, List.nil_append, List.cons_append, ↓reduceIte, reduceCtorEq, Int.reduceToNat, Nat.reduceEqDiff, Nat.reduceAdd, Nat.reduceLT, Nat.reduceLeDiff, Nat.reduceMul, Value.category, false_implies, true_and, and_true, Bool.false_eq_true, Option.some.injEq, exists_eq_left', Option.toList_some, Option.toList_none, ev_km, ev_k2, ev_k3, ev_k4, ev_k5, ev_l0, ev_l1, sh_1, sh_2, sh_3, sh_4, sh_5, at_X11_lays_29, at_X11_lays_3, cd_X11_lays_0, cd_X11_lays_29, cd_X11_lays_3, ev_h_1042, no_0, no_1, no_lt, no_le, no_eq, no_lt0, no_ge0, no_gt0, no_le0, no_eq0, no_0eq, no_eqm, no_meq, no_m0, no_mlt, no_mge, no_mgt, no_mm, no_i01, no_i10, no_in, no_or, no_ifm, no_mul, nI_add, no_sub, pk_div, iI_if, nI_clamp, oI_n, oI_s, not_true_eq_false, not_false_eq_true, forall_const, true_implies, false_and, and_false, or_false, false_or, Classical.not_not, true_or, or_true, no_b, no_eq1, eq_self, and_self, sk_301, sk_302, sl_302, sp_301, hka, hkb, e]
        | exact rfl
        | (split <;> omega))
    · have e2 : k = 1042 := by omega
      subst e2
      repeat' (first
        | (with_reducible refine ev_rid ?_; simp (disch := first | omega | assumption) only [ev_run_c, ev_run_n, ev_fj, ev_stp, ev_lk, ev_fv, ev_as, ev_sz, ev_st1, ev_st2, ev_rm, ev_pk, ev_Jof, ev_go, lv_args, List.map_cons, List.map_nil, List.zip_cons_cons, List.zip_nil_left, List.zip_nil_right, List.nil_append, List.cons_append, ↓reduceIte, reduceCtorEq, Int.reduceToNat, Nat.reduceEqDiff, Nat.reduceAdd, Nat.reduceLT, Nat.reduceLeDiff, Nat.reduceMul, Value.category, false_implies, true_and, and_true, Bool.false_eq_true, Option.some.injEq, exists_eq_left', Option.toList_some, Option.toList_none, ev_km, ev_k2, ev_k3, ev_k4, ev_k5, ev_l0, ev_l1, sh_1, sh_2, sh_3, sh_4, sh_5, at_X11_lays_29, at_X11_lays_3, cd_X11_lays_0, cd_X11_lays_29, cd_X11_lays_3, ev_h_1042, no_0, no_1, no_lt, no_le, no_eq, no_lt0, no_ge0, no_gt0, no_le0, no_eq0, no_0eq, no_eqm, no_meq, no_m0, no_mlt, no_mge, no_mgt, no_mm, no_i01, no_i10, no_in, no_or, no_ifm, no_mul, nI_add, no_sub, pk_div, iI_if, nI_clamp, oI_n, oI_s, not_true_eq_false, not_false_eq_true, forall_const, true_implies, false_and, and_false, or_false, false_or, Classical.not_not, true_or, or_true, no_b, no_eq1, eq_self, and_self, sk_301, sk_302, sl_302, sp_301])
        | (with_reducible refine ev_gid ?_; simp (disch := first | omega | assumption) only [ev_run_c, ev_run_n, ev_fj, ev_stp, ev_lk, ev_fv, ev_as, ev_sz, ev_st1, ev_st2, ev_rm, ev_pk, ev_Jof, ev_go, lv_args, List.map_cons, List.map_nil, List.zip_cons_cons, List.zip_nil_left, List.zip_nil_right, List.nil_append, List.cons_append, ↓reduceIte, reduceCtorEq, Int.reduceToNat, Nat.reduceEqDiff, Nat.reduceAdd, Nat.reduceLT, Nat.reduceLeDiff, Nat.reduceMul, Value.category, false_implies, true_and, and_true, Bool.false_eq_true, Option.some.injEq, exists_eq_left', Option.toList_some, Option.toList_none, ev_km, ev_k2, ev_k3, ev_k4, ev_k5, ev_l0, ev_l1, sh_1, sh_2, sh_3, sh_4, sh_5, at_X11_lays_29, at_X11_lays_3, cd_X11_lays_0, cd_X11_lays_29, cd_X11_lays_3, ev_h_1042, no_0, no_1, no_lt, no_le, no_eq, no_lt0, no_ge0, no_gt0, no_le0, no_eq0, no_0eq, no_eqm, no_meq, no_m0, no_mlt, no_mge, no_mgt, no_mm, no_i01, no_i10, no_in, no_or, no_ifm, no_mul, nI_add, no_sub, pk_div, iI_if, nI_clamp, oI_n, oI_s, not_true_eq_false, not_false_eq_true, forall_const, true_implies, false_and, and_false, or_false, false_or, Classical.not_not, true_or, or_true, no_b, no_eq1, eq_self, and_self, sk_301, sk_302, sl_302, sp_301])
        | (with_reducible refine And.intro (fun q => ?_) (fun q => ?_) <;> (try simp (disch := first | omega | assumption) only [no_0, no_1, no_lt, no_le, no_eq, no_lt0, no_ge0, no_gt0, no_le0, no_eq0, no_0eq, no_eqm, no_meq, no_m0, no_mlt, no_mge, no_mgt, no_mm, no_i01, no_i10, no_in, no_or, no_ifm, no_mul, nI_add, no_sub, pk_div, iI_if, nI_clamp, oI_n, oI_s, not_true_eq_false, not_false_eq_true, forall_const, true_implies, false_and, and_false, or_false, false_or, Classical.not_not, true_or, or_true, no_b, no_eq1, eq_self, and_self, sk_301, sk_302, sl_302, sp_301] at q))
        | omega
        | with_reducible assumption
        | with_reducible rfl
        | with_reducible refine lp_nx ?_ ?_ ?_ ?_
        | with_reducible refine lp_st ?_ ?_ ?_
        | with_reducible refine ls_c ?_ ?_
        | with_reducible refine vi_c ?_
        | with_reducible refine re_c ?_
        | with_reducible refine vz_c ?_
        | with_reducible refine rz_c ?_
        | exact trivial
        | with_reducible refine And.intro ?_ ?_
        | simp (disch := first | omega | assumption) only [ev_run_c, ev_run_n, ev_fj, ev_stp, ev_lk, ev_fv, ev_as, ev_sz, ev_st1, ev_st2, ev_rm, ev_pk, ev_Jof, ev_go, lv_args, List.map_cons, List.map_nil, List.zip_cons_cons, List.zip_nil_left, List.zip_nil_right, List.nil_append, List.cons_append, ↓reduceIte, reduceCtorEq, Int.reduceToNat, Nat.reduceEqDiff, Nat.reduceAdd, Nat.reduceLT, Nat.reduceLeDiff, Nat.reduceMul, Value.category, false_implies, true_and, and_true, Bool.false_eq_true, Option.some.injEq, exists_eq_left', Option.toList_some, Option.toList_none, ev_km, ev_k2, ev_k3, ev_k4, ev_k5, ev_l0, ev_l1, sh_1, sh_2, sh_3, sh_4, sh_5, at_X11_lays_29, at_X11_lays_3, cd_X11_lays_0, cd_X11_lays_29, cd_X11_lays_3, ev_h_1042, no_0, no_1, no_lt, no_le, no_eq, no_lt0, no_ge0, no_gt0, no_le0, no_eq0, no_0eq, no_eqm, no_meq, no_m0, no_mlt, no_mge, no_mgt, no_mm, no_i01, no_i10, no_in, no_or, no_ifm, no_mul, nI_add, no_sub, pk_div, iI_if, nI_clamp, oI_n, oI_s, not_true_eq_false, not_false_eq_true, forall_const, true_implies, false_and, and_false, or_false, false_or, Classical.not_not, true_or, or_true, no_b, no_eq1, eq_self, and_self, sk_301, sk_302, sl_302, sp_301]
        | exact rfl
        | (split <;> omega))
  · rw [at_X11_lays_0]
    repeat' (first
      | (with_reducible refine ev_rid ?_; simp (disch := first | omega | assumption) only [ev_run_c, ev_run_n, ev_fj, ev_stp, ev_lk, ev_fv, ev_as, ev_sz, ev_st1, ev_st2, ev_rm, ev_pk, ev_Jof, ev_go, lv_args, List.map_cons, List.map_nil, List.zip_cons_cons, List.zip_nil_left, List.zip_nil_right, List.nil_append, List.cons_append, ↓reduceIte, reduceCtorEq, Int.reduceToNat, Nat.reduceEqDiff, Nat.reduceAdd, Nat.reduceLT, Nat.reduceLeDiff, Nat.reduceMul, Value.category, false_implies, true_and, and_true, Bool.false_eq_true, Option.some.injEq, exists_eq_left', Option.toList_some, Option.toList_none, ev_km, ev_k2, ev_k3, ev_k4, ev_k5, ev_l0, ev_l1, sh_1, sh_2, sh_3, sh_4, sh_5, at_X11_lays_29, at_X11_lays_3, cd_X11_lays_0, cd_X11_lays_29, cd_X11_lays_3, ev_h_1042, no_0, no_1, no_lt, no_le, no_eq, no_lt0, no_ge0, no_gt0, no_le0, no_eq0, no_0eq, no_eqm, no_meq, no_m0, no_mlt, no_mge, no_mgt, no_mm, no_i01, no_i10, no_in, no_or, no_ifm, no_mul, nI_add, no_sub, pk_div, iI_if, nI_clamp, oI_n, oI_s, not_true_eq_false, not_false_eq_true, forall_const, true_implies, false_and, and_false, or_false, false_or, Classical.not_not, true_or, or_true, no_b, no_eq1, eq_self, and_self, sk_301, sk_302, sl_302, sp_301])
      | (with_reducible refine ev_gid ?_; simp (disch := first | omega | assumption) only [ev_run_c, ev_run_n, ev_fj, ev_stp, ev_lk, ev_fv, ev_as, ev_sz, ev_st1, ev_st2, ev_rm, ev_pk, ev_Jof, ev_go, lv_args, List.map_cons, List.map_nil, List.zip_cons_cons, List.zip_nil_left, List.zip_nil_right, List.nil_append, List.cons_append, ↓reduceIte, reduceCtorEq, Int.reduceToNat, Nat.reduceEqDiff, Nat.reduceAdd, Nat.reduceLT, Nat.reduceLeDiff, Nat.reduceMul, Value.category, false_implies, true_and, and_true, Bool.false_eq_true, Option.some.injEq, exists_eq_left', Option.toList_some, Option.toList_none, ev_km, ev_k2, ev_k3, ev_k4, ev_k5, ev_l0, ev_l1, sh_1, sh_2, sh_3, sh_4, sh_5, at_X11_lays_29, at_X11_lays_3, cd_X11_lays_0, cd_X11_lays_29, cd_X11_lays_3, ev_h_1042, no_0, no_1, no_lt, no_le, no_eq, no_lt0, no_ge0, no_gt0, no_le0, no_eq0, no_0eq, no_eqm, no_meq, no_m0, no_mlt, no_mge, no_mgt, no_mm, no_i01, no_i10, no_in, no_or, no_ifm, no_mul, nI_add, no_sub, pk_div, iI_if, nI_clamp, oI_n, oI_s, not_true_eq_false, not_false_eq_true, forall_const, true_implies, false_and, and_false, or_false, false_or, Classical.not_not, true_or, or_true, no_b, no_eq1, eq_self, and_self, sk_301, sk_302, sl_302, sp_301])
      | (with_reducible refine And.intro (fun q => ?_) (fun q => ?_) <;> (try simp (disch := first | omega | assumption) only [no_0, no_1, no_lt, no_le, no_eq, no_lt0, no_ge0, no_gt0, no_le0, no_eq0, no_0eq, no_eqm, no_meq, no_m0, no_mlt, no_mge, no_mgt, no_mm, no_i01, no_i10, no_in, no_or, no_ifm, no_mul, nI_add, no_sub, pk_div, iI_if, nI_clamp, oI_n, oI_s, not_true_eq_false, not_false_eq_true, forall_const, true_implies, false_and, and_false, or_false, false_or, Classical.not_not, true_or, or_true, no_b, no_eq1, eq_self, and_self, sk_301, sk_302, sl_302, sp_301] at q))
      | omega
      | with_reducible assumption
      | with_reducible rfl
      | exact cpy_0.symm
      | with_reducible refine lp_nx ?_ ?_ ?_ ?_
      | with_reducible refine lp_st ?_ ?_ ?_
      | with_reducible refine ls_c ?_ ?_
      | with_reducible refine vi_c ?_
      | with_reducible refine re_c ?_
      | with_reducible refine vz_c ?_
      | with_reducible refine rz_c ?_
      | exact trivial
      | with_reducible refine And.intro ?_ ?_
      | simp (disch := first | omega | assumption) only [ev_run_c, ev_run_n, ev_fj, ev_stp, ev_lk, ev_fv, ev_as, ev_sz, ev_st1, ev_st2, ev_rm, ev_pk, ev_Jof, ev_go, lv_args, List.map_cons, List.map_nil, List.zip_cons_cons, List.zip_nil_left, List.zip_nil_right, List.nil_append, List.cons_append, ↓reduceIte, reduceCtorEq, Int.reduceToNat, Nat.reduceEqDiff, Nat.reduceAdd, Nat.reduceLT, Nat.reduceLeDiff, Nat.reduceMul, Value.category, false_implies, true_and, and_true, Bool.false_eq_true, Option.some.injEq, exists_eq_left', Option.toList_some, Option.toList_none, ev_km, ev_k2, ev_k3, ev_k4, ev_k5, ev_l0, ev_l1, sh_1, sh_2, sh_3, sh_4, sh_5, at_X11_lays_29, at_X11_lays_3, cd_X11_lays_0, cd_X11_lays_29, cd_X11_lays_3, ev_h_1042, no_0, no_1, no_lt, no_le, no_eq, no_lt0, no_ge0, no_gt0, no_le0, no_eq0, no_0eq, no_eqm, no_meq, no_m0, no_mlt, no_mge, no_mgt, no_mm, no_i01, no_i10, no_in, no_or, no_ifm, no_mul, nI_add, no_sub, pk_div, iI_if, nI_clamp, oI_n, oI_s, not_true_eq_false, not_false_eq_true, forall_const, true_implies, false_and, and_false, or_false, false_or, Classical.not_not, true_or, or_true, no_b, no_eq1, eq_self, and_self, sk_301, sk_302, sl_302, sp_301]
      | exact rfl
      | (split <;> omega))
theorem sk_303 : sh_kd 303 = 10 := by decide +kernel
theorem sl_303 : sh_ln 303 = 1042 := by decide +kernel
theorem sp_303 : sh_pt 301 2 = 303 := by decide +kernel
theorem sk_304 : sh_kd 304 = 10 := by decide +kernel
theorem sl_304 : sh_ln 304 = 8336 := by decide +kernel
theorem sp_304 : sh_pt 301 3 = 304 := by decide +kernel
theorem sk_305 : sh_kd 305 = 10 := by decide +kernel
theorem sl_305 : sh_ln 305 = 2084 := by decide +kernel
theorem sp_305 : sh_pt 301 4 = 305 := by decide +kernel
theorem sk_306 : sh_kd 306 = 12 := by decide +kernel
theorem sl_306 : sh_ln 306 = 2 := by decide +kernel
theorem sp_306 : sh_pt 301 5 = 306 := by decide +kernel
theorem m_X11_thinks (hok : ev_ok sh_S G) : ev_T sh_S G mi_X11_thinks [.ref 301] μ (.inl (none, cpy μ 302 0 303 0 1042)) := by
  refine ev_tri hok (okM_X11_thinks 0) (Nat.le_of_ble_eq_true rfl) 400 ?_
  rw [at_X11_thinks_0]
  repeat' (first
    | (with_reducible refine ev_rid ?_; simp (disch := first | omega | assumption) only [ev_run_c, ev_run_n, ev_fj, ev_stp, ev_lk, ev_fv, ev_as, ev_sz, ev_st1, ev_st2, ev_rm, ev_pk, ev_Jof, ev_go, lv_args, List.map_cons, List.map_nil, List.zip_cons_cons, List.zip_nil_left, List.zip_nil_right, List.nil_append, List.cons_append, ↓reduceIte, reduceCtorEq, Int.reduceToNat, Nat.reduceEqDiff, Nat.reduceAdd, Nat.reduceLT, Nat.reduceLeDiff, Nat.reduceMul, Value.category, false_implies, true_and, and_true, Bool.false_eq_true, Option.some.injEq, exists_eq_left', Option.toList_some, Option.toList_none, ev_km, ev_k2, ev_k3, ev_k4, ev_k5, ev_l0, ev_l1, sh_1, sh_2, sh_3, sh_4, sh_5, ca_X11_51, cd_X11_thinks_0, fl_X11_13, fl_X11_9, no_0, no_1, no_lt, no_le, no_eq, no_lt0, no_ge0, no_gt0, no_le0, no_eq0, no_0eq, no_eqm, no_meq, no_m0, no_mlt, no_mge, no_mgt, no_mm, no_i01, no_i10, no_in, no_or, no_ifm, no_mul, nI_add, no_sub, pk_div, iI_if, nI_clamp, oI_n, oI_s, not_true_eq_false, not_false_eq_true, forall_const, true_implies, false_and, and_false, or_false, false_or, Classical.not_not, true_or, or_true, no_b, no_eq1, eq_self, and_self, sk_301, sk_302, sl_302, sp_301, sk_303, sl_303, sp_303])
    | (with_reducible refine ev_gid ?_; simp (disch := first | omega | assumption) only [ev_run_c, ev_run_n, ev_fj, ev_stp, ev_lk, ev_fv, ev_as, ev_sz, ev_st1, ev_st2, ev_rm, ev_pk, ev_Jof, ev_go, lv_args, List.map_cons, List.map_nil, List.zip_cons_cons, List.zip_nil_left, List.zip_nil_right, List.nil_append, List.cons_append, ↓reduceIte, reduceCtorEq, Int.reduceToNat, Nat.reduceEqDiff, Nat.reduceAdd, Nat.reduceLT, Nat.reduceLeDiff, Nat.reduceMul, Value.category, false_implies, true_and, and_true, Bool.false_eq_true, Option.some.injEq, exists_eq_left', Option.toList_some, Option.toList_none, ev_km, ev_k2, ev_k3, ev_k4, ev_k5, ev_l0, ev_l1, sh_1, sh_2, sh_3, sh_4, sh_5, ca_X11_51, cd_X11_thinks_0, fl_X11_13, fl_X11_9, no_0, no_1, no_lt, no_le, no_eq, no_lt0, no_ge0, no_gt0, no_le0, no_eq0, no_0eq, no_eqm, no_meq, no_m0, no_mlt, no_mge, no_mgt, no_mm, no_i01, no_i10, no_in, no_or, no_ifm, no_mul, nI_add, no_sub, pk_div, iI_if, nI_clamp, oI_n, oI_s, not_true_eq_false, not_false_eq_true, forall_const, true_implies, false_and, and_false, or_false, false_or, Classical.not_not, true_or, or_true, no_b, no_eq1, eq_self, and_self, sk_301, sk_302, sl_302, sp_301, sk_303, sl_303, sp_303])
    | (with_reducible refine And.intro (fun q => ?_) (fun q => ?_) <;> (try simp (disch := first | omega | assumption) only [no_0, no_1, no_lt, no_le, no_eq, no_lt0, no_ge0, no_gt0, no_le0, no_eq0, no_0eq, no_eqm, no_meq, no_m0, no_mlt, no_mge, no_mgt, no_mm, no_i01, no_i10, no_in, no_or, no_ifm, no_mul, nI_add, no_sub, pk_div, iI_if, nI_clamp, oI_n, oI_s, not_true_eq_false, not_false_eq_true, forall_const, true_implies, false_and, and_false, or_false, false_or, Classical.not_not, true_or, or_true, no_b, no_eq1, eq_self, and_self, sk_301, sk_302, sl_302, sp_301, sk_303, sl_303, sp_303] at q))
    | with_reducible refine ev_ci (m_X11_lays hok ?_ ?_ ?_ ?_ ?_ ?_ ?_ ?_ ?_) ?_
    | omega
    | with_reducible assumption
    | with_reducible rfl
    | with_reducible refine lp_nx ?_ ?_ ?_ ?_
    | with_reducible refine lp_st ?_ ?_ ?_
    | with_reducible refine ls_c ?_ ?_
    | with_reducible refine vi_c ?_
    | with_reducible refine re_c ?_
    | with_reducible refine vz_c ?_
    | with_reducible refine rz_c ?_
    | exact trivial
    | with_reducible refine And.intro ?_ ?_
    | simp (disch := first | omega | assumption) only [ev_run_c, ev_run_n, ev_fj, ev_stp, ev_lk, ev_fv, ev_as, ev_sz, ev_st1, ev_st2, ev_rm, ev_pk, ev_Jof, ev_go, lv_args, List.map_cons, List.map_nil, List.zip_cons_cons, List.zip_nil_left, List.zip_nil_right, List.nil_append, List.cons_append, ↓reduceIte, reduceCtorEq, Int.reduceToNat, Nat.reduceEqDiff, Nat.reduceAdd, Nat.reduceLT, Nat.reduceLeDiff, Nat.reduceMul, Value.category, false_implies, true_and, and_true, Bool.false_eq_true, Option.some.injEq, exists_eq_left', Option.toList_some, Option.toList_none, ev_km, ev_k2, ev_k3, ev_k4, ev_k5, ev_l0, ev_l1, sh_1, sh_2, sh_3, sh_4, sh_5, ca_X11_51, cd_X11_thinks_0, fl_X11_13, fl_X11_9, no_0, no_1, no_lt, no_le, no_eq, no_lt0, no_ge0, no_gt0, no_le0, no_eq0, no_0eq, no_eqm, no_meq, no_m0, no_mlt, no_mge, no_mgt, no_mm, no_i01, no_i10, no_in, no_or, no_ifm, no_mul, nI_add, no_sub, pk_div, iI_if, nI_clamp, oI_n, oI_s, not_true_eq_false, not_false_eq_true, forall_const, true_implies, false_and, and_false, or_false, false_or, Classical.not_not, true_or, or_true, no_b, no_eq1, eq_self, and_self, sk_301, sk_302, sl_302, sp_301, sk_303, sl_303, sp_303]
    | exact rfl
    | (split <;> omega))
theorem m_X11_back (hok : ev_ok sh_S G) (x : Int32) : ev_T sh_S G mi_X11_back [.ref 301, .int x] μ (.inl (some (.int x), cpy μ 303 0 302 0 1042)) := by
  refine ev_tri hok (okM_X11_back 0) (Nat.le_of_ble_eq_true rfl) 400 ?_
  rw [at_X11_back_0]
  repeat' (first
    | (with_reducible refine ev_rid ?_; simp (disch := first | omega | assumption) only [ev_run_c, ev_run_n, ev_fj, ev_stp, ev_lk, ev_fv, ev_as, ev_sz, ev_st1, ev_st2, ev_rm, ev_pk, ev_Jof, ev_go, lv_args, List.map_cons, List.map_nil, List.zip_cons_cons, List.zip_nil_left, List.zip_nil_right, List.nil_append, List.cons_append, ↓reduceIte, reduceCtorEq, Int.reduceToNat, Nat.reduceEqDiff, Nat.reduceAdd, Nat.reduceLT, Nat.reduceLeDiff, Nat.reduceMul, Value.category, false_implies, true_and, and_true, Bool.false_eq_true, Option.some.injEq, exists_eq_left', Option.toList_some, Option.toList_none, ev_km, ev_k2, ev_k3, ev_k4, ev_k5, ev_l0, ev_l1, sh_1, sh_2, sh_3, sh_4, sh_5, ca_X11_51, cd_X11_back_0, fl_X11_13, fl_X11_9, no_0, no_1, no_lt, no_le, no_eq, no_lt0, no_ge0, no_gt0, no_le0, no_eq0, no_0eq, no_eqm, no_meq, no_m0, no_mlt, no_mge, no_mgt, no_mm, no_i01, no_i10, no_in, no_or, no_ifm, no_mul, nI_add, no_sub, pk_div, iI_if, nI_clamp, oI_n, oI_s, not_true_eq_false, not_false_eq_true, forall_const, true_implies, false_and, and_false, or_false, false_or, Classical.not_not, true_or, or_true, no_b, no_eq1, eq_self, and_self, sk_301, sk_302, sl_302, sp_301, sk_303, sl_303, sp_303])
    | (with_reducible refine ev_gid ?_; simp (disch := first | omega | assumption) only [ev_run_c, ev_run_n, ev_fj, ev_stp, ev_lk, ev_fv, ev_as, ev_sz, ev_st1, ev_st2, ev_rm, ev_pk, ev_Jof, ev_go, lv_args, List.map_cons, List.map_nil, List.zip_cons_cons, List.zip_nil_left, List.zip_nil_right, List.nil_append, List.cons_append, ↓reduceIte, reduceCtorEq, Int.reduceToNat, Nat.reduceEqDiff, Nat.reduceAdd, Nat.reduceLT, Nat.reduceLeDiff, Nat.reduceMul, Value.category, false_implies, true_and, and_true, Bool.false_eq_true, Option.some.injEq, exists_eq_left', Option.toList_some, Option.toList_none, ev_km, ev_k2, ev_k3, ev_k4, ev_k5, ev_l0, ev_l1, sh_1, sh_2, sh_3, sh_4, sh_5, ca_X11_51, cd_X11_back_0, fl_X11_13, fl_X11_9, no_0, no_1, no_lt, no_le, no_eq, no_lt0, no_ge0, no_gt0, no_le0, no_eq0, no_0eq, no_eqm, no_meq, no_m0, no_mlt, no_mge, no_mgt, no_mm, no_i01, no_i10, no_in, no_or, no_ifm, no_mul, nI_add, no_sub, pk_div, iI_if, nI_clamp, oI_n, oI_s, not_true_eq_false, not_false_eq_true, forall_const, true_implies, false_and, and_false, or_false, false_or, Classical.not_not, true_or, or_true, no_b, no_eq1, eq_self, and_self, sk_301, sk_302, sl_302, sp_301, sk_303, sl_303, sp_303])
    | (with_reducible refine And.intro (fun q => ?_) (fun q => ?_) <;> (try simp (disch := first | omega | assumption) only [no_0, no_1, no_lt, no_le, no_eq, no_lt0, no_ge0, no_gt0, no_le0, no_eq0, no_0eq, no_eqm, no_meq, no_m0, no_mlt, no_mge, no_mgt, no_mm, no_i01, no_i10, no_in, no_or, no_ifm, no_mul, nI_add, no_sub, pk_div, iI_if, nI_clamp, oI_n, oI_s, not_true_eq_false, not_false_eq_true, forall_const, true_implies, false_and, and_false, or_false, false_or, Classical.not_not, true_or, or_true, no_b, no_eq1, eq_self, and_self, sk_301, sk_302, sl_302, sp_301, sk_303, sl_303, sp_303] at q))
    | with_reducible refine ev_ci (m_X11_lays hok ?_ ?_ ?_ ?_ ?_ ?_ ?_ ?_ ?_) ?_
    | omega
    | with_reducible assumption
    | with_reducible rfl
    | with_reducible refine lp_nx ?_ ?_ ?_ ?_
    | with_reducible refine lp_st ?_ ?_ ?_
    | with_reducible refine ls_c ?_ ?_
    | with_reducible refine vi_c ?_
    | with_reducible refine re_c ?_
    | with_reducible refine vz_c ?_
    | with_reducible refine rz_c ?_
    | exact trivial
    | with_reducible refine And.intro ?_ ?_
    | simp (disch := first | omega | assumption) only [ev_run_c, ev_run_n, ev_fj, ev_stp, ev_lk, ev_fv, ev_as, ev_sz, ev_st1, ev_st2, ev_rm, ev_pk, ev_Jof, ev_go, lv_args, List.map_cons, List.map_nil, List.zip_cons_cons, List.zip_nil_left, List.zip_nil_right, List.nil_append, List.cons_append, ↓reduceIte, reduceCtorEq, Int.reduceToNat, Nat.reduceEqDiff, Nat.reduceAdd, Nat.reduceLT, Nat.reduceLeDiff, Nat.reduceMul, Value.category, false_implies, true_and, and_true, Bool.false_eq_true, Option.some.injEq, exists_eq_left', Option.toList_some, Option.toList_none, ev_km, ev_k2, ev_k3, ev_k4, ev_k5, ev_l0, ev_l1, sh_1, sh_2, sh_3, sh_4, sh_5, ca_X11_51, cd_X11_back_0, fl_X11_13, fl_X11_9, no_0, no_1, no_lt, no_le, no_eq, no_lt0, no_ge0, no_gt0, no_le0, no_eq0, no_0eq, no_eqm, no_meq, no_m0, no_mlt, no_mge, no_mgt, no_mm, no_i01, no_i10, no_in, no_or, no_ifm, no_mul, nI_add, no_sub, pk_div, iI_if, nI_clamp, oI_n, oI_s, not_true_eq_false, not_false_eq_true, forall_const, true_implies, false_and, and_false, or_false, false_or, Classical.not_not, true_or, or_true, no_b, no_eq1, eq_self, and_self, sk_301, sk_302, sl_302, sp_301, sk_303, sl_303, sp_303]
    | exact rfl
    | (split <;> omega))
theorem cpy_1 {a i b j n c : Nat} (h : c ≠ b) : (cpy μ a i b j n).1 c = μ.1 c := funext fun x => if_neg (fun q => h q.1)
theorem cpy_R {a i b j n : Nat} (h : b ≠ 302) (hN : MR N μ) : MR N (cpy μ a i b j n) := fun k hk => by rw [cpy_1 (fun q => h q.symm)]; exact hN k hk
theorem cpy_in {a i b j n x : Nat} (h : x < n) : (cpy μ a i b j n).1 b (j + x) = μ.1 a (i + x) := by
  show (if b = b ∧ j ≤ j + x ∧ j + x < j + n then μ.1 a (i + (j + x - j)) else μ.1 b (j + x)) = _
  rw [if_pos (by omega)]
  exact congrArg (μ.1 a) (by omega)
/-- nothing but what the reference needs in between -/
def Fm (μ μ' : ev_M) : Prop := (∀ a k, a ≠ 302 → a ≠ 303 → a ≠ 308 → ¬ (a = 301 ∧ k = 0) → μ'.1 a k = μ.1 a k) ∧ μ'.2 = μ.2
theorem Fm_rf : Fm μ μ := ⟨fun _ _ _ _ _ _ => rfl, rfl⟩
theorem Fm_tr {μ' μ'' : ev_M} (h : Fm μ μ') (h2 : Fm μ' μ'') : Fm μ μ'' := ⟨fun a k h3 h4 h5 h6 => (h2.1 a k h3 h4 h5 h6).trans (h.1 a k h3 h4 h5 h6), h2.2.trans h.2⟩
theorem Fm_th {t : Nat} : Fm μ (th μ t) := ⟨fun _ _ _ _ _ h => th_1 h, rfl⟩
theorem Fm_mw : Fm μ (mw μ N) := ⟨fun a k h _ _ _ => by rw [mw_1 h], rfl⟩
theorem Fm_ms {g : Nat → Nat} : Fm μ (ms μ N g) := ⟨fun a k h _ h2 _ => by
  show (if a = 302 ∧ k < 1042 then nI (N k) else if a = 308 ∧ k < 10 then nI (g k) else μ.1 a k) = _
  rw [if_neg (fun q => h q.1), if_neg (fun q => h2 q.1)], rfl⟩
theorem Fm_cp {a i b j n : Nat} (h : b = 302 ∨ b = 303) : Fm μ (cpy μ a i b j n) := ⟨fun c k h1 h2 _ _ => by rw [cpy_1 (by omega)], rfl⟩
end MFace5
