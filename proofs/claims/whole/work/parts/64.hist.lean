/-! ===== the class: the history, a ring ===== -/
section XHist
variable {G : ev_G} {N : Nat → Nat} {μ μ' : ev_M} {p : Nat}
theorem hs_78 : sh_kd 78 = 1 := by decide +kernel
theorem hs_79 : sh_kd 79 = 14 := by decide +kernel
theorem hl_79 : sh_ln 79 = 8 := by decide +kernel
theorem hp_79 : sh_pt 78 0 = 79 := by decide +kernel
theorem sh_B_d : ∀ a ∈ sh_B, ∀ b ∈ sh_B, a ≠ b → a + 22 ≤ b ∨ b + 22 ≤ a := by decide +kernel
/-- where in the ring the latest state lies -/
def hxl (μ : ev_M) : Nat := (μ.1 78 1).toNatClampNeg
/-- the panel that holds the state i steps back -/
def hx (μ : ev_M) (i : Nat) : Nat := μ.2.2 79 ((hxl μ + 8 - i) % 8)
theorem hx_c (h1 : μ'.1 78 1 = μ.1 78 1) (h2 : ∀ x, μ'.2.2 79 x = μ.2.2 79 x) (i : Nat) : hx μ' i = hx μ i := by
  unfold hx hxl
  rw [h1, h2]
theorem hl_c (h : ∃ l, l < 8 ∧ μ.1 78 1 = nI l) (h1 : μ'.1 78 1 = μ.1 78 1) : ∃ l, l < 8 ∧ μ'.1 78 1 = nI l := h.imp (fun _ q => ⟨q.1, h1.trans q.2⟩)
theorem hxl_e {l : Nat} (hl : l < 8) (h : μ.1 78 1 = nI l) : hxl μ = l := by
  unfold hxl
  rw [h, nI_clamp (by omega)]
/-- the history's panels are in order -/
def HR (μ : ev_M) : Prop := (∀ i, i < 8 → hx μ i ∈ sh_B ∧ 80 ≤ hx μ i ∧ hx μ i ≤ 234) ∧ (∀ i j, i < 8 → j < 8 → i ≠ j → hx μ i ≠ hx μ j) ∧ ∃ l, l < 8 ∧ μ.1 78 1 = nI l
def nxl (l : Nat) : Nat := if l < 7 then l + 1 else 0
def pvl (l : Nat) : Nat := if 0 < l then l - 1 else 7
theorem nxl_8 {l : Nat} : nxl l < 8 := by unfold nxl; split <;> omega
theorem pvl_8 {l : Nat} (h : l < 8) : pvl l < 8 := by unfold pvl; split <;> omega
def x_rmA (μ : ev_M) : ev_M := w1 μ 78 1 (nI (nxl (hxl μ)))
def x_rem (p n : Nat) (μ : ev_M) : ev_M := w1 (x_cpP p (hx μ 7) (x_rmA μ)) 78 2 (if 8 < n + 1 then nI 8 else nI (n + 1))
theorem hx_7 {l : Nat} (hl : l < 8) (h : μ.1 78 1 = nI l) : hx μ 7 = μ.2.2 79 (nxl l) := by
  unfold hx
  rw [hxl_e hl h]
  exact congrArg (μ.2.2 79) (by unfold nxl; split <;> omega)
theorem hx_0 {l : Nat} (hl : l < 8) (h : μ.1 78 1 = nI l) : hx μ 0 = μ.2.2 79 l := by
  unfold hx
  rw [hxl_e hl h]
  exact congrArg (μ.2.2 79) (by omega)
theorem hx_1 {a k : Nat} (h : ¬ (a = 78 ∧ k = 1)) : (x_rmA μ).1 a k = μ.1 a k := w1_n h
set_option maxRecDepth 20000 in
theorem m_X2_remember (hok : ev_ok sh_S G) (hH : HR μ) (hp : p ∈ sh_B) (hd : p + 22 ≤ 78 ∨ 257 ≤ p) (hb : μ.1 p 0 = nI 0 ∨ μ.1 p 0 = nI 1) {n : Nat} (hn : n ≤ 8) (hs : μ.1 78 2 = nI n) : ev_T sh_S G mi_X2_remember [.ref 78, .ref p] μ (.inl (none, x_rem p n μ)) := by
  have hlt := xp_lt hp
  obtain ⟨l, hl, hs1⟩ := hH.2.2
  obtain ⟨g1, g2, g3⟩ := hH.1 7 (by omega)
  have e7 := hx_7 hl hs1
  have ec := m_X4_copyFrom (μ := x_rmA μ) hok g1 hp (by omega) (by rw [hx_1 (by omega)]; exact hb)
  have es : (x_cpP p (hx μ 7) (x_rmA μ)).1 78 2 = nI n := by rw [cpP_n (by omega), hx_1 (by omega), hs]
  unfold x_rem
  have eA : x_rmA μ = w1 μ 78 1 (nI (nxl l)) := by unfold x_rmA; rw [hxl_e hl hs1]
  rw [eA] at ec es ⊢
  generalize hx μ 7 = q at g1 g2 g3 e7 ec es ⊢
  have gk := xk_0 g1
  by_cases c : l < 7
  · have en : nxl l = l + 1 := if_pos c
    rw [en] at e7 ec es ⊢
    have er : μ.2.2 79 (l + 1) = q := e7.symm
    refine ev_tri hok okM_X2_remember (Nat.le_of_ble_eq_true rfl) 400 ?_
    rw [at_X2_remember_0]
    repeat' (first
      | (with_reducible refine ev_rid ?_; simp (disch := first | omega | assumption) only [ev_run_c, ev_run_n, ev_fj, ev_stp, ev_lk, ev_fv, ev_as, ev_sz, ev_st1, ev_st2, ev_rm, ev_pk, ev_Jof, ev_go, lv_args, List.map_cons, List.map_nil, List.zip_cons_cons, List.zip_nil_left, List.zip_nil_right, List.nil_append, List.cons_append, ↓reduceIte, reduceCtorEq, Int.reduceToNat, Nat.reduceEqDiff, Nat.reduceAdd, Nat.reduceLT, Nat.reduceLeDiff, Nat.reduceMul, Nat.reduceSub, Value.category, false_implies, true_and, and_true, Bool.false_eq_true, Option.some.injEq, exists_eq_left', Option.toList_some, Option.toList_none, ev_km, ev_k2, ev_k3, ev_k4, ev_k5, ev_l0, ev_l1, sh_1, sh_2, sh_3, sh_4, sh_5, at_X2_remember_24, at_X2_remember_25, at_X2_remember_78, ca_X2_25, ca_X2_29, cd_X2_remember_0, cd_X2_remember_24, cd_X2_remember_25, cd_X2_remember_78, fl_X2_11, fl_X2_18, fl_X2_22, no_0, no_1, no_lt, no_le, no_eq, no_lt0, no_ge0, no_gt0, no_le0, no_eq0, no_0eq, no_eqm, no_meq, no_m0, no_mlt, no_mge, no_mgt, no_mm, no_i01, no_i10, no_in, no_or, no_ifm, no_mul, nI_add, no_sub, pk_div, iI_if, nI_clamp, oI_n, oI_s, not_true_eq_false, not_false_eq_true, forall_const, true_implies, false_and, and_false, or_false, false_or, Classical.not_not, true_or, or_true, no_b, no_eq1, eq_self, and_self, no_on, hs_78, hs_79, hl_79, hp_79, hs1, er, es, w1_d, w1_s, w1_2, xk_0 hp])
      | (with_reducible refine ev_gid ?_; simp (disch := first | omega | assumption) only [ev_run_c, ev_run_n, ev_fj, ev_stp, ev_lk, ev_fv, ev_as, ev_sz, ev_st1, ev_st2, ev_rm, ev_pk, ev_Jof, ev_go, lv_args, List.map_cons, List.map_nil, List.zip_cons_cons, List.zip_nil_left, List.zip_nil_right, List.nil_append, List.cons_append, ↓reduceIte, reduceCtorEq, Int.reduceToNat, Nat.reduceEqDiff, Nat.reduceAdd, Nat.reduceLT, Nat.reduceLeDiff, Nat.reduceMul, Nat.reduceSub, Value.category, false_implies, true_and, and_true, Bool.false_eq_true, Option.some.injEq, exists_eq_left', Option.toList_some, Option.toList_none, ev_km, ev_k2, ev_k3, ev_k4, ev_k5, ev_l0, ev_l1, sh_1, sh_2, sh_3, sh_4, sh_5, at_X2_remember_24, at_X2_remember_25, at_X2_remember_78, ca_X2_25, ca_X2_29, cd_X2_remember_0, cd_X2_remember_24, cd_X2_remember_25, cd_X2_remember_78, fl_X2_11, fl_X2_18, fl_X2_22, no_0, no_1, no_lt, no_le, no_eq, no_lt0, no_ge0, no_gt0, no_le0, no_eq0, no_0eq, no_eqm, no_meq, no_m0, no_mlt, no_mge, no_mgt, no_mm, no_i01, no_i10, no_in, no_or, no_ifm, no_mul, nI_add, no_sub, pk_div, iI_if, nI_clamp, oI_n, oI_s, not_true_eq_false, not_false_eq_true, forall_const, true_implies, false_and, and_false, or_false, false_or, Classical.not_not, true_or, or_true, no_b, no_eq1, eq_self, and_self, no_on, hs_78, hs_79, hl_79, hp_79, hs1, er, es, w1_d, w1_s, w1_2, xk_0 hp])
      | (with_reducible refine And.intro (fun q => ?_) (fun q => ?_) <;> (try simp (disch := first | omega | assumption) only [no_0, no_1, no_lt, no_le, no_eq, no_lt0, no_ge0, no_gt0, no_le0, no_eq0, no_0eq, no_eqm, no_meq, no_m0, no_mlt, no_mge, no_mgt, no_mm, no_i01, no_i10, no_in, no_or, no_ifm, no_mul, nI_add, no_sub, pk_div, iI_if, nI_clamp, oI_n, oI_s, not_true_eq_false, not_false_eq_true, forall_const, true_implies, false_and, and_false, or_false, false_or, Classical.not_not, true_or, or_true, no_b, no_eq1, eq_self, and_self, no_on, hs_78, hs_79, hl_79, hp_79, hs1, er, es, w1_d, w1_s, w1_2, xk_0 hp] at q))
      | (with_reducible refine ev_ci ec ?_)
      | omega
      | with_reducible assumption
      | with_reducible rfl
      | (refine Nat.lt_of_lt_of_le ?_ (Nat.le_refl 312); omega)
      | with_reducible refine lp_nx ?_ ?_ ?_ ?_
      | with_reducible refine lp_st ?_ ?_ ?_
      | with_reducible refine ls_c ?_ ?_
      | with_reducible refine vi_c ?_
      | with_reducible refine re_c ?_
      | with_reducible refine vz_c ?_
      | with_reducible refine rz_c ?_
      | exact trivial
      | with_reducible refine And.intro ?_ ?_
      | simp (disch := first | omega | assumption) only [ev_run_c, ev_run_n, ev_fj, ev_stp, ev_lk, ev_fv, ev_as, ev_sz, ev_st1, ev_st2, ev_rm, ev_pk, ev_Jof, ev_go, lv_args, List.map_cons, List.map_nil, List.zip_cons_cons, List.zip_nil_left, List.zip_nil_right, List.nil_append, List.cons_append, ↓reduceIte, reduceCtorEq, Int.reduceToNat, Nat.reduceEqDiff, Nat.reduceAdd, Nat.reduceLT, Nat.reduceLeDiff, Nat.reduceMul, Nat.reduceSub, Value.category, false_implies, true_and, and_true, Bool.false_eq_true, Option.some.injEq, exists_eq_left', Option.toList_some, Option.toList_none, ev_km, ev_k2, ev_k3, ev_k4, ev_k5, ev_l0, ev_l1, sh_1, sh_2, sh_3, sh_4, sh_5, at_X2_remember_24, at_X2_remember_25, at_X2_remember_78, ca_X2_25, ca_X2_29, cd_X2_remember_0, cd_X2_remember_24, cd_X2_remember_25, cd_X2_remember_78, fl_X2_11, fl_X2_18, fl_X2_22, no_0, no_1, no_lt, no_le, no_eq, no_lt0, no_ge0, no_gt0, no_le0, no_eq0, no_0eq, no_eqm, no_meq, no_m0, no_mlt, no_mge, no_mgt, no_mm, no_i01, no_i10, no_in, no_or, no_ifm, no_mul, nI_add, no_sub, pk_div, iI_if, nI_clamp, oI_n, oI_s, not_true_eq_false, not_false_eq_true, forall_const, true_implies, false_and, and_false, or_false, false_or, Classical.not_not, true_or, or_true, no_b, no_eq1, eq_self, and_self, no_on, hs_78, hs_79, hl_79, hp_79, hs1, er, es, w1_d, w1_s, w1_2, xk_0 hp]
      | exact rfl
      | (split <;> omega))
  · have en : nxl l = 0 := if_neg c
    have el : l = 7 := by omega
    subst el
    rw [en] at e7 ec es ⊢
    have er : μ.2.2 79 0 = q := e7.symm
    refine ev_tri hok okM_X2_remember (Nat.le_of_ble_eq_true rfl) 400 ?_
    rw [at_X2_remember_0]
    repeat' (first
      | (with_reducible refine ev_rid ?_; simp (disch := first | omega | assumption) only [ev_run_c, ev_run_n, ev_fj, ev_stp, ev_lk, ev_fv, ev_as, ev_sz, ev_st1, ev_st2, ev_rm, ev_pk, ev_Jof, ev_go, lv_args, List.map_cons, List.map_nil, List.zip_cons_cons, List.zip_nil_left, List.zip_nil_right, List.nil_append, List.cons_append, ↓reduceIte, reduceCtorEq, Int.reduceToNat, Nat.reduceEqDiff, Nat.reduceAdd, Nat.reduceLT, Nat.reduceLeDiff, Nat.reduceMul, Nat.reduceSub, Value.category, false_implies, true_and, and_true, Bool.false_eq_true, Option.some.injEq, exists_eq_left', Option.toList_some, Option.toList_none, ev_km, ev_k2, ev_k3, ev_k4, ev_k5, ev_l0, ev_l1, sh_1, sh_2, sh_3, sh_4, sh_5, at_X2_remember_24, at_X2_remember_25, at_X2_remember_78, ca_X2_25, ca_X2_29, cd_X2_remember_0, cd_X2_remember_24, cd_X2_remember_25, cd_X2_remember_78, fl_X2_11, fl_X2_18, fl_X2_22, no_0, no_1, no_lt, no_le, no_eq, no_lt0, no_ge0, no_gt0, no_le0, no_eq0, no_0eq, no_eqm, no_meq, no_m0, no_mlt, no_mge, no_mgt, no_mm, no_i01, no_i10, no_in, no_or, no_ifm, no_mul, nI_add, no_sub, pk_div, iI_if, nI_clamp, oI_n, oI_s, not_true_eq_false, not_false_eq_true, forall_const, true_implies, false_and, and_false, or_false, false_or, Classical.not_not, true_or, or_true, no_b, no_eq1, eq_self, and_self, no_on, hs_78, hs_79, hl_79, hp_79, hs1, er, es, w1_d, w1_s, w1_2, xk_0 hp])
      | (with_reducible refine ev_gid ?_; simp (disch := first | omega | assumption) only [ev_run_c, ev_run_n, ev_fj, ev_stp, ev_lk, ev_fv, ev_as, ev_sz, ev_st1, ev_st2, ev_rm, ev_pk, ev_Jof, ev_go, lv_args, List.map_cons, List.map_nil, List.zip_cons_cons, List.zip_nil_left, List.zip_nil_right, List.nil_append, List.cons_append, ↓reduceIte, reduceCtorEq, Int.reduceToNat, Nat.reduceEqDiff, Nat.reduceAdd, Nat.reduceLT, Nat.reduceLeDiff, Nat.reduceMul, Nat.reduceSub, Value.category, false_implies, true_and, and_true, Bool.false_eq_true, Option.some.injEq, exists_eq_left', Option.toList_some, Option.toList_none, ev_km, ev_k2, ev_k3, ev_k4, ev_k5, ev_l0, ev_l1, sh_1, sh_2, sh_3, sh_4, sh_5, at_X2_remember_24, at_X2_remember_25, at_X2_remember_78, ca_X2_25, ca_X2_29, cd_X2_remember_0, cd_X2_remember_24, cd_X2_remember_25, cd_X2_remember_78, fl_X2_11, fl_X2_18, fl_X2_22, no_0, no_1, no_lt, no_le, no_eq, no_lt0, no_ge0, no_gt0, no_le0, no_eq0, no_0eq, no_eqm, no_meq, no_m0, no_mlt, no_mge, no_mgt, no_mm, no_i01, no_i10, no_in, no_or, no_ifm, no_mul, nI_add, no_sub, pk_div, iI_if, nI_clamp, oI_n, oI_s, not_true_eq_false, not_false_eq_true, forall_const, true_implies, false_and, and_false, or_false, false_or, Classical.not_not, true_or, or_true, no_b, no_eq1, eq_self, and_self, no_on, hs_78, hs_79, hl_79, hp_79, hs1, er, es, w1_d, w1_s, w1_2, xk_0 hp])
      | (with_reducible refine And.intro (fun q => ?_) (fun q => ?_) <;> (try simp (disch := first | omega | assumption) only [no_0, no_1, no_lt, no_le, no_eq, no_lt0, no_ge0, no_gt0, no_le0, no_eq0, no_0eq, no_eqm, no_meq, no_m0, no_mlt, no_mge, no_mgt, no_mm, no_i01, no_i10, no_in, no_or, no_ifm, no_mul, nI_add, no_sub, pk_div, iI_if, nI_clamp, oI_n, oI_s, not_true_eq_false, not_false_eq_true, forall_const, true_implies, false_and, and_false, or_false, false_or, Classical.not_not, true_or, or_true, no_b, no_eq1, eq_self, and_self, no_on, hs_78, hs_79, hl_79, hp_79, hs1, er, es, w1_d, w1_s, w1_2, xk_0 hp] at q))
      | (with_reducible refine ev_ci ec ?_)
      | omega
      | with_reducible assumption
      | with_reducible rfl
      | (refine Nat.lt_of_lt_of_le ?_ (Nat.le_refl 312); omega)
      | with_reducible refine lp_nx ?_ ?_ ?_ ?_
      | with_reducible refine lp_st ?_ ?_ ?_
      | with_reducible refine ls_c ?_ ?_
      | with_reducible refine vi_c ?_
      | with_reducible refine re_c ?_
      | with_reducible refine vz_c ?_
      | with_reducible refine rz_c ?_
      | exact trivial
      | with_reducible refine And.intro ?_ ?_
      | simp (disch := first | omega | assumption) only [ev_run_c, ev_run_n, ev_fj, ev_stp, ev_lk, ev_fv, ev_as, ev_sz, ev_st1, ev_st2, ev_rm, ev_pk, ev_Jof, ev_go, lv_args, List.map_cons, List.map_nil, List.zip_cons_cons, List.zip_nil_left, List.zip_nil_right, List.nil_append, List.cons_append, ↓reduceIte, reduceCtorEq, Int.reduceToNat, Nat.reduceEqDiff, Nat.reduceAdd, Nat.reduceLT, Nat.reduceLeDiff, Nat.reduceMul, Nat.reduceSub, Value.category, false_implies, true_and, and_true, Bool.false_eq_true, Option.some.injEq, exists_eq_left', Option.toList_some, Option.toList_none, ev_km, ev_k2, ev_k3, ev_k4, ev_k5, ev_l0, ev_l1, sh_1, sh_2, sh_3, sh_4, sh_5, at_X2_remember_24, at_X2_remember_25, at_X2_remember_78, ca_X2_25, ca_X2_29, cd_X2_remember_0, cd_X2_remember_24, cd_X2_remember_25, cd_X2_remember_78, fl_X2_11, fl_X2_18, fl_X2_22, no_0, no_1, no_lt, no_le, no_eq, no_lt0, no_ge0, no_gt0, no_le0, no_eq0, no_0eq, no_eqm, no_meq, no_m0, no_mlt, no_mge, no_mgt, no_mm, no_i01, no_i10, no_in, no_or, no_ifm, no_mul, nI_add, no_sub, pk_div, iI_if, nI_clamp, oI_n, oI_s, not_true_eq_false, not_false_eq_true, forall_const, true_implies, false_and, and_false, or_false, false_or, Classical.not_not, true_or, or_true, no_b, no_eq1, eq_self, and_self, no_on, hs_78, hs_79, hl_79, hp_79, hs1, er, es, w1_d, w1_s, w1_2, xk_0 hp]
      | exact rfl
      | (split <;> omega))
def x_bbA (p : Nat) (μ : ev_M) : ev_M := w1 (x_cpP (hx μ 0) p μ) 78 1 (nI (pvl (hxl μ)))
def x_bb (p n : Nat) (μ : ev_M) : ev_M := w1 (x_bbA p μ) 78 2 (nI (n - 1))
set_option maxRecDepth 20000 in
theorem m_X2_bringBack (hok : ev_ok sh_S G) (hH : HR μ) (hp : p ∈ sh_B) (hd : p + 22 ≤ 78) (hb : μ.1 (hx μ 0) 0 = nI 0 ∨ μ.1 (hx μ 0) 0 = nI 1) {n : Nat} (hn : n ≤ 8) (h0 : 0 < n) (hs : μ.1 78 2 = nI n) : ev_T sh_S G mi_X2_bringBack [.ref 78, .ref p] μ (.inl (none, x_bb p n μ)) := by
  have hlt := xp_lt hp
  obtain ⟨l, hl, hs1⟩ := hH.2.2
  obtain ⟨g1, g2, g3⟩ := hH.1 0 (by omega)
  have e0 := hx_0 hl hs1
  have ec := m_X4_copyFrom (μ := μ) hok hp g1 (by omega) hb
  have es1 : (x_cpP (hx μ 0) p μ).1 78 1 = nI l := by rw [cpP_n (by omega), hs1]
  have es : (x_cpP (hx μ 0) p μ).1 78 2 = nI n := by rw [cpP_n (by omega), hs]
  unfold x_bb x_bbA
  rw [hxl_e hl hs1]
  generalize hx μ 0 = q at g1 g2 g3 e0 ec es1 es hb ⊢
  have gk := xk_0 g1
  have er : μ.2.2 79 l = q := e0.symm
  by_cases c : 0 < l
  · have en : pvl l = l - 1 := if_pos c
    rw [en]
    have es2 : (w1 (x_cpP q p μ) 78 1 (nI (l - 1))).1 78 2 = nI n := (w1_n (by omega)).trans es
    refine ev_tri hok okM_X2_bringBack (Nat.le_of_ble_eq_true rfl) 400 ?_
    rw [at_X2_bringBack_0]
    repeat' (first
      | (with_reducible refine ev_rid ?_; simp (disch := first | omega | assumption) only [ev_run_c, ev_run_n, ev_fj, ev_stp, ev_lk, ev_fv, ev_as, ev_sz, ev_st1, ev_st2, ev_rm, ev_pk, ev_Jof, ev_go, lv_args, List.map_cons, List.map_nil, List.zip_cons_cons, List.zip_nil_left, List.zip_nil_right, List.nil_append, List.cons_append, ↓reduceIte, reduceCtorEq, Int.reduceToNat, Nat.reduceEqDiff, Nat.reduceAdd, Nat.reduceLT, Nat.reduceLeDiff, Nat.reduceMul, Nat.reduceSub, Value.category, false_implies, true_and, and_true, Bool.false_eq_true, Option.some.injEq, exists_eq_left', Option.toList_some, Option.toList_none, ev_km, ev_k2, ev_k3, ev_k4, ev_k5, ev_l0, ev_l1, sh_1, sh_2, sh_3, sh_4, sh_5, at_X2_bringBack_56, at_X2_bringBack_63, at_X2_bringBack_76, ca_X2_25, cd_X2_bringBack_0, cd_X2_bringBack_56, cd_X2_bringBack_63, cd_X2_bringBack_76, fl_X2_11, fl_X2_18, fl_X2_22, no_0, no_1, no_lt, no_le, no_eq, no_lt0, no_ge0, no_gt0, no_le0, no_eq0, no_0eq, no_eqm, no_meq, no_m0, no_mlt, no_mge, no_mgt, no_mm, no_i01, no_i10, no_in, no_or, no_ifm, no_mul, nI_add, no_sub, pk_div, iI_if, nI_clamp, oI_n, oI_s, not_true_eq_false, not_false_eq_true, forall_const, true_implies, false_and, and_false, or_false, false_or, Classical.not_not, true_or, or_true, no_b, no_eq1, eq_self, and_self, no_on, hs_78, hs_79, hl_79, hp_79, hs, hs1, er, es, es1, es2, w1_d, xk_0 hp])
      | (with_reducible refine ev_gid ?_; simp (disch := first | omega | assumption) only [ev_run_c, ev_run_n, ev_fj, ev_stp, ev_lk, ev_fv, ev_as, ev_sz, ev_st1, ev_st2, ev_rm, ev_pk, ev_Jof, ev_go, lv_args, List.map_cons, List.map_nil, List.zip_cons_cons, List.zip_nil_left, List.zip_nil_right, List.nil_append, List.cons_append, ↓reduceIte, reduceCtorEq, Int.reduceToNat, Nat.reduceEqDiff, Nat.reduceAdd, Nat.reduceLT, Nat.reduceLeDiff, Nat.reduceMul, Nat.reduceSub, Value.category, false_implies, true_and, and_true, Bool.false_eq_true, Option.some.injEq, exists_eq_left', Option.toList_some, Option.toList_none, ev_km, ev_k2, ev_k3, ev_k4, ev_k5, ev_l0, ev_l1, sh_1, sh_2, sh_3, sh_4, sh_5, at_X2_bringBack_56, at_X2_bringBack_63, at_X2_bringBack_76, ca_X2_25, cd_X2_bringBack_0, cd_X2_bringBack_56, cd_X2_bringBack_63, cd_X2_bringBack_76, fl_X2_11, fl_X2_18, fl_X2_22, no_0, no_1, no_lt, no_le, no_eq, no_lt0, no_ge0, no_gt0, no_le0, no_eq0, no_0eq, no_eqm, no_meq, no_m0, no_mlt, no_mge, no_mgt, no_mm, no_i01, no_i10, no_in, no_or, no_ifm, no_mul, nI_add, no_sub, pk_div, iI_if, nI_clamp, oI_n, oI_s, not_true_eq_false, not_false_eq_true, forall_const, true_implies, false_and, and_false, or_false, false_or, Classical.not_not, true_or, or_true, no_b, no_eq1, eq_self, and_self, no_on, hs_78, hs_79, hl_79, hp_79, hs, hs1, er, es, es1, es2, w1_d, xk_0 hp])
      | (with_reducible refine And.intro (fun q => ?_) (fun q => ?_) <;> (try simp (disch := first | omega | assumption) only [no_0, no_1, no_lt, no_le, no_eq, no_lt0, no_ge0, no_gt0, no_le0, no_eq0, no_0eq, no_eqm, no_meq, no_m0, no_mlt, no_mge, no_mgt, no_mm, no_i01, no_i10, no_in, no_or, no_ifm, no_mul, nI_add, no_sub, pk_div, iI_if, nI_clamp, oI_n, oI_s, not_true_eq_false, not_false_eq_true, forall_const, true_implies, false_and, and_false, or_false, false_or, Classical.not_not, true_or, or_true, no_b, no_eq1, eq_self, and_self, no_on, hs_78, hs_79, hl_79, hp_79, hs, hs1, er, es, es1, es2, w1_d, xk_0 hp] at q))
      | (with_reducible refine ev_ci ec ?_)
      | omega
      | with_reducible assumption
      | with_reducible rfl
      | (refine Nat.lt_of_lt_of_le ?_ (Nat.le_refl 312); omega)
      | with_reducible refine lp_nx ?_ ?_ ?_ ?_
      | with_reducible refine lp_st ?_ ?_ ?_
      | with_reducible refine ls_c ?_ ?_
      | with_reducible refine vi_c ?_
      | with_reducible refine re_c ?_
      | with_reducible refine vz_c ?_
      | with_reducible refine rz_c ?_
      | exact trivial
      | with_reducible refine And.intro ?_ ?_
      | simp (disch := first | omega | assumption) only [ev_run_c, ev_run_n, ev_fj, ev_stp, ev_lk, ev_fv, ev_as, ev_sz, ev_st1, ev_st2, ev_rm, ev_pk, ev_Jof, ev_go, lv_args, List.map_cons, List.map_nil, List.zip_cons_cons, List.zip_nil_left, List.zip_nil_right, List.nil_append, List.cons_append, ↓reduceIte, reduceCtorEq, Int.reduceToNat, Nat.reduceEqDiff, Nat.reduceAdd, Nat.reduceLT, Nat.reduceLeDiff, Nat.reduceMul, Nat.reduceSub, Value.category, false_implies, true_and, and_true, Bool.false_eq_true, Option.some.injEq, exists_eq_left', Option.toList_some, Option.toList_none, ev_km, ev_k2, ev_k3, ev_k4, ev_k5, ev_l0, ev_l1, sh_1, sh_2, sh_3, sh_4, sh_5, at_X2_bringBack_56, at_X2_bringBack_63, at_X2_bringBack_76, ca_X2_25, cd_X2_bringBack_0, cd_X2_bringBack_56, cd_X2_bringBack_63, cd_X2_bringBack_76, fl_X2_11, fl_X2_18, fl_X2_22, no_0, no_1, no_lt, no_le, no_eq, no_lt0, no_ge0, no_gt0, no_le0, no_eq0, no_0eq, no_eqm, no_meq, no_m0, no_mlt, no_mge, no_mgt, no_mm, no_i01, no_i10, no_in, no_or, no_ifm, no_mul, nI_add, no_sub, pk_div, iI_if, nI_clamp, oI_n, oI_s, not_true_eq_false, not_false_eq_true, forall_const, true_implies, false_and, and_false, or_false, false_or, Classical.not_not, true_or, or_true, no_b, no_eq1, eq_self, and_self, no_on, hs_78, hs_79, hl_79, hp_79, hs, hs1, er, es, es1, es2, w1_d, xk_0 hp]
      | exact rfl
      | (split <;> omega))
  · have en : pvl l = 7 := if_neg c
    have el : l = 0 := by omega
    subst el
    rw [en]
    have es2 : (w1 (x_cpP q p μ) 78 1 (nI 7)).1 78 2 = nI n := (w1_n (by omega)).trans es
    refine ev_tri hok okM_X2_bringBack (Nat.le_of_ble_eq_true rfl) 400 ?_
    rw [at_X2_bringBack_0]
    repeat' (first
      | (with_reducible refine ev_rid ?_; simp (disch := first | omega | assumption) only [ev_run_c, ev_run_n, ev_fj, ev_stp, ev_lk, ev_fv, ev_as, ev_sz, ev_st1, ev_st2, ev_rm, ev_pk, ev_Jof, ev_go, lv_args, List.map_cons, List.map_nil, List.zip_cons_cons, List.zip_nil_left, List.zip_nil_right, List.nil_append, List.cons_append, ↓reduceIte, reduceCtorEq, Int.reduceToNat, Nat.reduceEqDiff, Nat.reduceAdd, Nat.reduceLT, Nat.reduceLeDiff, Nat.reduceMul, Nat.reduceSub, Value.category, false_implies, true_and, and_true, Bool.false_eq_true, Option.some.injEq, exists_eq_left', Option.toList_some, Option.toList_none, ev_km, ev_k2, ev_k3, ev_k4, ev_k5, ev_l0, ev_l1, sh_1, sh_2, sh_3, sh_4, sh_5, at_X2_bringBack_56, at_X2_bringBack_63, at_X2_bringBack_76, ca_X2_25, cd_X2_bringBack_0, cd_X2_bringBack_56, cd_X2_bringBack_63, cd_X2_bringBack_76, fl_X2_11, fl_X2_18, fl_X2_22, no_0, no_1, no_lt, no_le, no_eq, no_lt0, no_ge0, no_gt0, no_le0, no_eq0, no_0eq, no_eqm, no_meq, no_m0, no_mlt, no_mge, no_mgt, no_mm, no_i01, no_i10, no_in, no_or, no_ifm, no_mul, nI_add, no_sub, pk_div, iI_if, nI_clamp, oI_n, oI_s, not_true_eq_false, not_false_eq_true, forall_const, true_implies, false_and, and_false, or_false, false_or, Classical.not_not, true_or, or_true, no_b, no_eq1, eq_self, and_self, no_on, hs_78, hs_79, hl_79, hp_79, hs, hs1, er, es, es1, es2, w1_d, xk_0 hp])
      | (with_reducible refine ev_gid ?_; simp (disch := first | omega | assumption) only [ev_run_c, ev_run_n, ev_fj, ev_stp, ev_lk, ev_fv, ev_as, ev_sz, ev_st1, ev_st2, ev_rm, ev_pk, ev_Jof, ev_go, lv_args, List.map_cons, List.map_nil, List.zip_cons_cons, List.zip_nil_left, List.zip_nil_right, List.nil_append, List.cons_append, ↓reduceIte, reduceCtorEq, Int.reduceToNat, Nat.reduceEqDiff, Nat.reduceAdd, Nat.reduceLT, Nat.reduceLeDiff, Nat.reduceMul, Nat.reduceSub, Value.category, false_implies, true_and, and_true, Bool.false_eq_true, Option.some.injEq, exists_eq_left', Option.toList_some, Option.toList_none, ev_km, ev_k2, ev_k3, ev_k4, ev_k5, ev_l0, ev_l1, sh_1, sh_2, sh_3, sh_4, sh_5, at_X2_bringBack_56, at_X2_bringBack_63, at_X2_bringBack_76, ca_X2_25, cd_X2_bringBack_0, cd_X2_bringBack_56, cd_X2_bringBack_63, cd_X2_bringBack_76, fl_X2_11, fl_X2_18, fl_X2_22, no_0, no_1, no_lt, no_le, no_eq, no_lt0, no_ge0, no_gt0, no_le0, no_eq0, no_0eq, no_eqm, no_meq, no_m0, no_mlt, no_mge, no_mgt, no_mm, no_i01, no_i10, no_in, no_or, no_ifm, no_mul, nI_add, no_sub, pk_div, iI_if, nI_clamp, oI_n, oI_s, not_true_eq_false, not_false_eq_true, forall_const, true_implies, false_and, and_false, or_false, false_or, Classical.not_not, true_or, or_true, no_b, no_eq1, eq_self, and_self, no_on, hs_78, hs_79, hl_79, hp_79, hs, hs1, er, es, es1, es2, w1_d, xk_0 hp])
      | (with_reducible refine And.intro (fun q => ?_) (fun q => ?_) <;> (try simp (disch := first | omega | assumption) only [no_0, no_1, no_lt, no_le, no_eq, no_lt0, no_ge0, no_gt0, no_le0, no_eq0, no_0eq, no_eqm, no_meq, no_m0, no_mlt, no_mge, no_mgt, no_mm, no_i01, no_i10, no_in, no_or, no_ifm, no_mul, nI_add, no_sub, pk_div, iI_if, nI_clamp, oI_n, oI_s, not_true_eq_false, not_false_eq_true, forall_const, true_implies, false_and, and_false, or_false, false_or, Classical.not_not, true_or, or_true, no_b, no_eq1, eq_self, and_self, no_on, hs_78, hs_79, hl_79, hp_79, hs, hs1, er, es, es1, es2, w1_d, xk_0 hp] at q))
      | (with_reducible refine ev_ci ec ?_)
      | omega
      | with_reducible assumption
      | with_reducible rfl
      | (refine Nat.lt_of_lt_of_le ?_ (Nat.le_refl 312); omega)
      | with_reducible refine lp_nx ?_ ?_ ?_ ?_
      | with_reducible refine lp_st ?_ ?_ ?_
      | with_reducible refine ls_c ?_ ?_
      | with_reducible refine vi_c ?_
      | with_reducible refine re_c ?_
      | with_reducible refine vz_c ?_
      | with_reducible refine rz_c ?_
      | exact trivial
      | with_reducible refine And.intro ?_ ?_
      | simp (disch := first | omega | assumption) only [ev_run_c, ev_run_n, ev_fj, ev_stp, ev_lk, ev_fv, ev_as, ev_sz, ev_st1, ev_st2, ev_rm, ev_pk, ev_Jof, ev_go, lv_args, List.map_cons, List.map_nil, List.zip_cons_cons, List.zip_nil_left, List.zip_nil_right, List.nil_append, List.cons_append, ↓reduceIte, reduceCtorEq, Int.reduceToNat, Nat.reduceEqDiff, Nat.reduceAdd, Nat.reduceLT, Nat.reduceLeDiff, Nat.reduceMul, Nat.reduceSub, Value.category, false_implies, true_and, and_true, Bool.false_eq_true, Option.some.injEq, exists_eq_left', Option.toList_some, Option.toList_none, ev_km, ev_k2, ev_k3, ev_k4, ev_k5, ev_l0, ev_l1, sh_1, sh_2, sh_3, sh_4, sh_5, at_X2_bringBack_56, at_X2_bringBack_63, at_X2_bringBack_76, ca_X2_25, cd_X2_bringBack_0, cd_X2_bringBack_56, cd_X2_bringBack_63, cd_X2_bringBack_76, fl_X2_11, fl_X2_18, fl_X2_22, no_0, no_1, no_lt, no_le, no_eq, no_lt0, no_ge0, no_gt0, no_le0, no_eq0, no_0eq, no_eqm, no_meq, no_m0, no_mlt, no_mge, no_mgt, no_mm, no_i01, no_i10, no_in, no_or, no_ifm, no_mul, nI_add, no_sub, pk_div, iI_if, nI_clamp, oI_n, oI_s, not_true_eq_false, not_false_eq_true, forall_const, true_implies, false_and, and_false, or_false, false_or, Classical.not_not, true_or, or_true, no_b, no_eq1, eq_self, and_self, no_on, hs_78, hs_79, hl_79, hp_79, hs, hs1, er, es, es1, es2, w1_d, xk_0 hp]
      | exact rfl
      | (split <;> omega))
end XHist
