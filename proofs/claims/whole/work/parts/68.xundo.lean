/-! ===== the class: its face, undoing and saving ===== -/
section XUndo
variable {G : ev_G} {N : Nat → Nat} {μ μ' : ev_M} {p : Nat} {σ : ev_A}
theorem bb_n {n a x : Nat} (h : ¬ (p ≤ a ∧ a < p + 22)) (h2 : ¬ (a = 78 ∧ (x = 1 ∨ x = 2))) : (x_bb p n μ).1 a x = μ.1 a x := by
  unfold x_bb x_bbA
  rw [w1_n (by omega), w1_n (by omega), cpP_n (by omega)]
theorem bb_l {n a x : Nat} (h : ¬ a = p + 1) : (x_bb p n μ).2.1 a x = μ.2.1 a x := by
  show (x_cpP (hx μ 0) p μ).2.1 a x = μ.2.1 a x
  exact cpP_l h
theorem bb_2 {n : Nat} : (x_bb p n μ).2.2 = μ.2.2 := by
  show (x_cpP (hx μ 0) p μ).2.2 = μ.2.2
  exact cpP_2
theorem bb_1 {n : Nat} : (x_bb p n μ).1 78 1 = nI (pvl (hxl μ)) := by
  unfold x_bb x_bbA
  rw [w1_n (by omega), w1_s]
theorem bb_h {n i : Nat} (h : hxl μ < 8) : hx (x_bb p n μ) i = μ.2.2 79 ((pvl (hxl μ) + 8 - i) % 8) := by
  show (x_bb p n μ).2.2 79 ((hxl (x_bb p n μ) + 8 - i) % 8) = _
  rw [bb_2, hxl_e (pvl_8 h) bb_1]
/-- the latest state is back -/
theorem XS_bb (h : XS σ μ) (hA : OKA σ) (hk : 0 < aK σ) : XS (aH σ 0, aE σ, (fun i => aH σ (i + 1)), aK σ - 1, σ.2.2.2.2) (x_bb 34 (aK σ) μ) := by
  obtain ⟨⟨h1, h2⟩, ⟨h3, h4, h5, h6, h7⟩, h8, h9⟩ := h
  have hK : aK σ ≤ 8 := hA.2.2.1
  have hI : INV (aH σ 0) := hA.2.2.2.1 0 hk
  have he : aE σ = 1 := h7 (Or.inl hk)
  obtain ⟨g1, g2, g3⟩ := h3.1 0 (by omega)
  have fr : ∀ b N', b ∈ sh_B → b ≠ 34 → PR b N' μ → PR b N' (x_bb 34 (aK σ) μ) := fun b N' hb hne hP => by
    have d := sh_B_d b hb 34 sh_34 hne
    have d2 := sh_B_78 b hb
    exact PR_fr hP (fun a k ha hk => bb_n (by omega) (by omega)) (fun k => bb_l (by omega))
  have fr0 : ∀ b, b ∈ sh_B → b ≠ 34 → (x_bb 34 (aK σ) μ).1 b 0 = μ.1 b 0 := fun b hb hne => by
    have d := sh_B_d b hb 34 sh_34 hne
    have d2 := sh_B_78 b hb
    exact bb_n (by omega) (by omega)
  have po : PR 34 (aH σ 0) (x_bb 34 (aK σ) μ) := by
    have e1 : PR (hx μ 0) (aH σ 0) μ := (h6 0 hk).1
    have e2 := PR_cp (p := 34) (o := hx μ 0) (by omega) e1 hI
    exact PR_fr e2 (fun a k ha hk => (w1_n (by omega)).trans (w1_n (by omega))) (fun k => rfl)
  have po0 : (x_bb 34 (aK σ) μ).1 34 0 = nI (aE σ) := by
    unfold x_bb x_bbA
    rw [w1_n (by omega), w1_n (by omega), cpP_0 (by omega), he]
    exact (h6 0 hk).2
  have hl8 : hxl μ < 8 := by
    obtain ⟨l, a, b⟩ := h3.2.2
    rw [hxl_e a b]
    exact a
  have z7 : hx (x_bb 34 (aK σ) μ) 7 = hx μ 0 := (bb_h hl8).trans (congrArg (μ.2.2 79) (by unfold pvl; split <;> omega))
  have zs : ∀ i, i < 7 → hx (x_bb 34 (aK σ) μ) i = hx μ (i + 1) := fun i hi => (bb_h hl8).trans (congrArg (μ.2.2 79) (by unfold pvl; split <;> omega))
  have z78 : (x_bb 34 (aK σ) μ).1 78 2 = nI (aK σ - 1) := by unfold x_bb; exact w1_s
  refine ⟨⟨po, po0⟩, ⟨⟨fun i hi => ?_, fun i j hi hj hij => ?_, ⟨_, pvl_8 hl8, bb_1⟩⟩, z78, fun i hi => ?_, fun i hi => ?_, fun _ => he⟩, fun s hs => ⟨?_, ?_, fun hv => ?_⟩, ⟨?_, fun i hi => ?_⟩, ⟨?_, ?_⟩, ⟨?_, fun i hi => ?_⟩, ?_⟩
  · rcases Nat.lt_or_ge i 7 with c | c
    · rw [zs i c]; exact h3.1 (i + 1) (by omega)
    · rw [show i = 7 by omega, z7]; exact ⟨g1, g2, g3⟩
  · rcases Nat.lt_or_ge i 7 with c | c <;> rcases Nat.lt_or_ge j 7 with d | d
    · rw [zs i c, zs j d]; exact h3.2.1 (i + 1) (j + 1) (by omega) (by omega) (by omega)
    · rw [zs i c, show j = 7 by omega, z7]; exact h3.2.1 (i + 1) 0 (by omega) (by omega) (by omega)
    · rw [zs j d, show i = 7 by omega, z7]; exact h3.2.1 0 (j + 1) (by omega) (by omega) (by omega)
    · omega
  · rcases Nat.lt_or_ge i 7 with c | c
    · have g := h3.1 (i + 1) (by omega)
      rw [zs i c, fr0 _ g.1 (by omega)]; exact h5 (i + 1) (by omega)
    · rw [show i = 7 by omega, z7, fr0 _ g1 (by omega)]; exact h5 0 (by omega)
  · have hi : i < aK σ - 1 := hi
    have g := h3.1 (i + 1) (by omega)
    have q := h6 (i + 1) (by omega)
    rw [zs i (by omega), fr0 _ g.1 (by omega)]
    exact ⟨fr _ _ g.1 (by omega) q.1, q.2⟩
  · rw [bb_2]; exact (h8 s hs).1
  · rw [fr0 _ (sh_B_s s hs) (by omega)]; exact (h8 s hs).2.1
  · exact fr _ _ (sh_B_s s hs) (by omega) ((h8 s hs).2.2 hv)
  · rw [bb_n (by omega) (by omega)]; exact h9.1.1
  · rw [bb_n (by omega) (by omega)]; exact h9.1.2 i hi
  · rw [bb_n (by omega) (by omega)]; exact h9.2.1.1
  · rw [bb_n (by omega) (by omega)]; exact h9.2.1.2
  · rw [bb_n (by omega) (by omega)]; exact h9.2.2.1.1
  · rw [bb_n (by omega) (by omega)]; exact h9.2.2.1.2 i hi
  · rw [bb_n (by omega) (by omega)]; exact h9.2.2.2
theorem Fc_bb {n : Nat} (hlt : p + 22 ≤ 78) : Fc μ (x_bb p n μ) := fun a k h3 => ⟨bb_n (by omega) (by omega), bb_l (by omega), by rw [bb_2]⟩
theorem x_X10_undo (hok : ev_ok sh_S G) (h : XS σ μ) (hA : OKA σ) : x_res mi_X10_undo [.ref 0] μ G (s_undo σ) := by
  have hK : aK σ ≤ 8 := hA.2.2.1
  have hs : μ.1 78 2 = nI (aK σ) := h.2.1.2.1
  unfold s_undo
  by_cases h0 : aK σ = 0
  · rw [if_pos h0]
    rw [h0] at hs
    refine x_fail h 1 ?_
    rw [xR_1]
    refine ev_tri hok okM_X10_undo (Nat.le_of_ble_eq_true rfl) 400 ?_
    rw [at_X10_undo_0]
    repeat' (first
      | (with_reducible refine ev_rid ?_; simp (disch := first | omega | assumption) only [ev_run_c, ev_run_n, ev_fj, ev_stp, ev_lk, ev_fv, ev_as, ev_sz, ev_st1, ev_st2, ev_rm, ev_pk, ev_Jof, ev_go, lv_args, List.map_cons, List.map_nil, List.zip_cons_cons, List.zip_nil_left, List.zip_nil_right, List.nil_append, List.cons_append, ↓reduceIte, reduceCtorEq, Int.reduceToNat, Nat.reduceEqDiff, Nat.reduceAdd, Nat.reduceLT, Nat.reduceLeDiff, Nat.reduceMul, Nat.reduceSub, Value.category, false_implies, true_and, and_true, Bool.false_eq_true, Option.some.injEq, exists_eq_left', Option.toList_some, Option.toList_none, ev_km, ev_k2, ev_k3, ev_k4, ev_k5, ev_l0, ev_l1, sh_1, sh_2, sh_3, sh_4, sh_5, at_X10_undo_21, ca_X10_345, cd_X10_undo_0, cd_X10_undo_21, fl_X10_31, fl_X10_339, fl_X10_41, th_X10_340, no_0, no_1, no_lt, no_le, no_eq, no_lt0, no_ge0, no_gt0, no_le0, no_eq0, no_0eq, no_eqm, no_meq, no_m0, no_mlt, no_mge, no_mgt, no_mm, no_i01, no_i10, no_in, no_or, no_ifm, no_mul, nI_add, no_sub, pk_div, iI_if, nI_clamp, oI_n, oI_s, not_true_eq_false, not_false_eq_true, forall_const, true_implies, false_and, and_false, or_false, false_or, Classical.not_not, true_or, or_true, no_b, no_eq1, eq_self, and_self, no_on, sk_0, hq_5, hs_78, hs])
      | (with_reducible refine ev_gid ?_; simp (disch := first | omega | assumption) only [ev_run_c, ev_run_n, ev_fj, ev_stp, ev_lk, ev_fv, ev_as, ev_sz, ev_st1, ev_st2, ev_rm, ev_pk, ev_Jof, ev_go, lv_args, List.map_cons, List.map_nil, List.zip_cons_cons, List.zip_nil_left, List.zip_nil_right, List.nil_append, List.cons_append, ↓reduceIte, reduceCtorEq, Int.reduceToNat, Nat.reduceEqDiff, Nat.reduceAdd, Nat.reduceLT, Nat.reduceLeDiff, Nat.reduceMul, Nat.reduceSub, Value.category, false_implies, true_and, and_true, Bool.false_eq_true, Option.some.injEq, exists_eq_left', Option.toList_some, Option.toList_none, ev_km, ev_k2, ev_k3, ev_k4, ev_k5, ev_l0, ev_l1, sh_1, sh_2, sh_3, sh_4, sh_5, at_X10_undo_21, ca_X10_345, cd_X10_undo_0, cd_X10_undo_21, fl_X10_31, fl_X10_339, fl_X10_41, th_X10_340, no_0, no_1, no_lt, no_le, no_eq, no_lt0, no_ge0, no_gt0, no_le0, no_eq0, no_0eq, no_eqm, no_meq, no_m0, no_mlt, no_mge, no_mgt, no_mm, no_i01, no_i10, no_in, no_or, no_ifm, no_mul, nI_add, no_sub, pk_div, iI_if, nI_clamp, oI_n, oI_s, not_true_eq_false, not_false_eq_true, forall_const, true_implies, false_and, and_false, or_false, false_or, Classical.not_not, true_or, or_true, no_b, no_eq1, eq_self, and_self, no_on, sk_0, hq_5, hs_78, hs])
      | (with_reducible refine And.intro (fun q => ?_) (fun q => ?_) <;> (try simp (disch := first | omega | assumption) only [no_0, no_1, no_lt, no_le, no_eq, no_lt0, no_ge0, no_gt0, no_le0, no_eq0, no_0eq, no_eqm, no_meq, no_m0, no_mlt, no_mge, no_mgt, no_mm, no_i01, no_i10, no_in, no_or, no_ifm, no_mul, nI_add, no_sub, pk_div, iI_if, nI_clamp, oI_n, oI_s, not_true_eq_false, not_false_eq_true, forall_const, true_implies, false_and, and_false, or_false, false_or, Classical.not_not, true_or, or_true, no_b, no_eq1, eq_self, and_self, no_on, sk_0, hq_5, hs_78, hs] at q))
      | omega
      | with_reducible assumption
      | with_reducible rfl
      | (refine Nat.lt_of_lt_of_le ?_ (Nat.le_refl 312); omega)
      | with_reducible refine lp_nx ?_ ?_ ?_ ?_
      | with_reducible refine lp_st ?_ ?_ ?_
      | with_reducible refine ls_c ?_ ?_
      | with_reducible refine vi_c ?_
      | with_reducible refine re_c ?_
      | with_reducible refine vz_c ?_
      | with_reducible refine rz_c ?_
      | exact trivial
      | with_reducible refine And.intro ?_ ?_
      | simp (disch := first | omega | assumption) only [ev_run_c, ev_run_n, ev_fj, ev_stp, ev_lk, ev_fv, ev_as, ev_sz, ev_st1, ev_st2, ev_rm, ev_pk, ev_Jof, ev_go, lv_args, List.map_cons, List.map_nil, List.zip_cons_cons, List.zip_nil_left, List.zip_nil_right, List.nil_append, List.cons_append, ↓reduceIte, reduceCtorEq, Int.reduceToNat, Nat.reduceEqDiff, Nat.reduceAdd, Nat.reduceLT, Nat.reduceLeDiff, Nat.reduceMul, Nat.reduceSub, Value.category, false_implies, true_and, and_true, Bool.false_eq_true, Option.some.injEq, exists_eq_left', Option.toList_some, Option.toList_none, ev_km, ev_k2, ev_k3, ev_k4, ev_k5, ev_l0, ev_l1, sh_1, sh_2, sh_3, sh_4, sh_5, at_X10_undo_21, ca_X10_345, cd_X10_undo_0, cd_X10_undo_21, fl_X10_31, fl_X10_339, fl_X10_41, th_X10_340, no_0, no_1, no_lt, no_le, no_eq, no_lt0, no_ge0, no_gt0, no_le0, no_eq0, no_0eq, no_eqm, no_meq, no_m0, no_mlt, no_mge, no_mgt, no_mm, no_i01, no_i10, no_in, no_or, no_ifm, no_mul, nI_add, no_sub, pk_div, iI_if, nI_clamp, oI_n, oI_s, not_true_eq_false, not_false_eq_true, forall_const, true_implies, false_and, and_false, or_false, false_or, Classical.not_not, true_or, or_true, no_b, no_eq1, eq_self, and_self, no_on, sk_0, hq_5, hs_78, hs]
      | exact rfl
      | (split <;> omega))
  · rw [if_neg h0]
    obtain ⟨p, hpe⟩ : ∃ p, p = 34 := ⟨34, rfl⟩
    have hp : p ∈ sh_B := by rw [hpe]; exact sh_34
    have hpp : sh_pt 0 3 = p := by rw [hpe]; exact hq_3
    have eb := m_X2_bringBack hok h.2.1.1 hp (by omega) (h.2.1.2.2.1 0 (by omega)) hK (by omega) hs
    have es : (x_bb p (aK σ) μ).1 78 2 = nI (aK σ - 1) := by unfold x_bb; exact w1_s
    refine ⟨x_bb p (aK σ) μ, ?_, ?_, Fc_bb (by omega)⟩
    · rw [xR_0]
      refine ev_tri hok okM_X10_undo (Nat.le_of_ble_eq_true rfl) 400 ?_
      rw [at_X10_undo_0]
      repeat' (first
        | (with_reducible refine ev_rid ?_; simp (disch := first | omega | assumption) only [ev_run_c, ev_run_n, ev_fj, ev_stp, ev_lk, ev_fv, ev_as, ev_sz, ev_st1, ev_st2, ev_rm, ev_pk, ev_Jof, ev_go, lv_args, List.map_cons, List.map_nil, List.zip_cons_cons, List.zip_nil_left, List.zip_nil_right, List.nil_append, List.cons_append, ↓reduceIte, reduceCtorEq, Int.reduceToNat, Nat.reduceEqDiff, Nat.reduceAdd, Nat.reduceLT, Nat.reduceLeDiff, Nat.reduceMul, Nat.reduceSub, Value.category, false_implies, true_and, and_true, Bool.false_eq_true, Option.some.injEq, exists_eq_left', Option.toList_some, Option.toList_none, ev_km, ev_k2, ev_k3, ev_k4, ev_k5, ev_l0, ev_l1, sh_1, sh_2, sh_3, sh_4, sh_5, at_X10_undo_21, ca_X10_345, cd_X10_undo_0, cd_X10_undo_21, fl_X10_31, fl_X10_339, fl_X10_41, th_X10_340, no_0, no_1, no_lt, no_le, no_eq, no_lt0, no_ge0, no_gt0, no_le0, no_eq0, no_0eq, no_eqm, no_meq, no_m0, no_mlt, no_mge, no_mgt, no_mm, no_i01, no_i10, no_in, no_or, no_ifm, no_mul, nI_add, no_sub, pk_div, iI_if, nI_clamp, oI_n, oI_s, not_true_eq_false, not_false_eq_true, forall_const, true_implies, false_and, and_false, or_false, false_or, Classical.not_not, true_or, or_true, no_b, no_eq1, eq_self, and_self, no_on, sk_0, hq_5, hpp, hs_78, hs, es])
        | (with_reducible refine ev_gid ?_; simp (disch := first | omega | assumption) only [ev_run_c, ev_run_n, ev_fj, ev_stp, ev_lk, ev_fv, ev_as, ev_sz, ev_st1, ev_st2, ev_rm, ev_pk, ev_Jof, ev_go, lv_args, List.map_cons, List.map_nil, List.zip_cons_cons, List.zip_nil_left, List.zip_nil_right, List.nil_append, List.cons_append, ↓reduceIte, reduceCtorEq, Int.reduceToNat, Nat.reduceEqDiff, Nat.reduceAdd, Nat.reduceLT, Nat.reduceLeDiff, Nat.reduceMul, Nat.reduceSub, Value.category, false_implies, true_and, and_true, Bool.false_eq_true, Option.some.injEq, exists_eq_left', Option.toList_some, Option.toList_none, ev_km, ev_k2, ev_k3, ev_k4, ev_k5, ev_l0, ev_l1, sh_1, sh_2, sh_3, sh_4, sh_5, at_X10_undo_21, ca_X10_345, cd_X10_undo_0, cd_X10_undo_21, fl_X10_31, fl_X10_339, fl_X10_41, th_X10_340, no_0, no_1, no_lt, no_le, no_eq, no_lt0, no_ge0, no_gt0, no_le0, no_eq0, no_0eq, no_eqm, no_meq, no_m0, no_mlt, no_mge, no_mgt, no_mm, no_i01, no_i10, no_in, no_or, no_ifm, no_mul, nI_add, no_sub, pk_div, iI_if, nI_clamp, oI_n, oI_s, not_true_eq_false, not_false_eq_true, forall_const, true_implies, false_and, and_false, or_false, false_or, Classical.not_not, true_or, or_true, no_b, no_eq1, eq_self, and_self, no_on, sk_0, hq_5, hpp, hs_78, hs, es])
        | (with_reducible refine And.intro (fun q => ?_) (fun q => ?_) <;> (try simp (disch := first | omega | assumption) only [no_0, no_1, no_lt, no_le, no_eq, no_lt0, no_ge0, no_gt0, no_le0, no_eq0, no_0eq, no_eqm, no_meq, no_m0, no_mlt, no_mge, no_mgt, no_mm, no_i01, no_i10, no_in, no_or, no_ifm, no_mul, nI_add, no_sub, pk_div, iI_if, nI_clamp, oI_n, oI_s, not_true_eq_false, not_false_eq_true, forall_const, true_implies, false_and, and_false, or_false, false_or, Classical.not_not, true_or, or_true, no_b, no_eq1, eq_self, and_self, no_on, sk_0, hq_5, hpp, hs_78, hs, es] at q))
        | (with_reducible refine ev_ci eb ?_)
        | omega
        | with_reducible assumption
        | with_reducible rfl
        | (refine Nat.lt_of_lt_of_le ?_ (Nat.le_refl 312); omega)
        | with_reducible refine lp_nx ?_ ?_ ?_ ?_
        | with_reducible refine lp_st ?_ ?_ ?_
        | with_reducible refine ls_c ?_ ?_
        | with_reducible refine vi_c ?_
        | with_reducible refine re_c ?_
        | with_reducible refine vz_c ?_
        | with_reducible refine rz_c ?_
        | exact trivial
        | with_reducible refine And.intro ?_ ?_
        | simp (disch := first | omega | assumption) only [ev_run_c, ev_run_n, ev_fj, ev_stp, ev_lk, ev_fv, ev_as, ev_sz, ev_st1, ev_st2, ev_rm, ev_pk, ev_Jof, ev_go, lv_args, List.map_cons, List.map_nil, List.zip_cons_cons, List.zip_nil_left, List.zip_nil_right, List.nil_append, List.cons_append, ↓reduceIte, reduceCtorEq, Int.reduceToNat, Nat.reduceEqDiff, Nat.reduceAdd, Nat.reduceLT, Nat.reduceLeDiff, Nat.reduceMul, Nat.reduceSub, Value.category, false_implies, true_and, and_true, Bool.false_eq_true, Option.some.injEq, exists_eq_left', Option.toList_some, Option.toList_none, ev_km, ev_k2, ev_k3, ev_k4, ev_k5, ev_l0, ev_l1, sh_1, sh_2, sh_3, sh_4, sh_5, at_X10_undo_21, ca_X10_345, cd_X10_undo_0, cd_X10_undo_21, fl_X10_31, fl_X10_339, fl_X10_41, th_X10_340, no_0, no_1, no_lt, no_le, no_eq, no_lt0, no_ge0, no_gt0, no_le0, no_eq0, no_0eq, no_eqm, no_meq, no_m0, no_mlt, no_mge, no_mgt, no_mm, no_i01, no_i10, no_in, no_or, no_ifm, no_mul, nI_add, no_sub, pk_div, iI_if, nI_clamp, oI_n, oI_s, not_true_eq_false, not_false_eq_true, forall_const, true_implies, false_and, and_false, or_false, false_or, Classical.not_not, true_or, or_true, no_b, no_eq1, eq_self, and_self, no_on, sk_0, hq_5, hpp, hs_78, hs, es]
        | exact rfl
        | (split <;> omega))
    · subst hpe
      exact XS_bb h hA (by omega)
theorem x_X10_undoCount (hok : ev_ok sh_S G) (h : XS σ μ) : x_res mi_X10_undoCount [.ref 0] μ G (0, nI (aK σ), σ) := by
  have hs : μ.1 78 2 = nI (aK σ) := h.2.1.2.1
  refine ⟨μ, ?_, h, Fc_rf⟩
  rw [xR_0]
  refine ev_tri hok okM_X10_undoCount (Nat.le_of_ble_eq_true rfl) 400 ?_
  rw [at_X10_undoCount_0]
  repeat' (first
    | (with_reducible refine ev_rid ?_; simp (disch := first | omega | assumption) only [ev_run_c, ev_run_n, ev_fj, ev_stp, ev_lk, ev_fv, ev_as, ev_sz, ev_st1, ev_st2, ev_rm, ev_pk, ev_Jof, ev_go, lv_args, List.map_cons, List.map_nil, List.zip_cons_cons, List.zip_nil_left, List.zip_nil_right, List.nil_append, List.cons_append, ↓reduceIte, reduceCtorEq, Int.reduceToNat, Nat.reduceEqDiff, Nat.reduceAdd, Nat.reduceLT, Nat.reduceLeDiff, Nat.reduceMul, Nat.reduceSub, Value.category, false_implies, true_and, and_true, Bool.false_eq_true, Option.some.injEq, exists_eq_left', Option.toList_some, Option.toList_none, ev_km, ev_k2, ev_k3, ev_k4, ev_k5, ev_l0, ev_l1, sh_1, sh_2, sh_3, sh_4, sh_5, cd_X10_undoCount_0, fl_X10_339, fl_X10_41, no_0, no_1, no_lt, no_le, no_eq, no_lt0, no_ge0, no_gt0, no_le0, no_eq0, no_0eq, no_eqm, no_meq, no_m0, no_mlt, no_mge, no_mgt, no_mm, no_i01, no_i10, no_in, no_or, no_ifm, no_mul, nI_add, no_sub, pk_div, iI_if, nI_clamp, oI_n, oI_s, not_true_eq_false, not_false_eq_true, forall_const, true_implies, false_and, and_false, or_false, false_or, Classical.not_not, true_or, or_true, no_b, no_eq1, eq_self, and_self, no_on, sk_0, hq_5, hs_78, hs])
    | (with_reducible refine ev_gid ?_; simp (disch := first | omega | assumption) only [ev_run_c, ev_run_n, ev_fj, ev_stp, ev_lk, ev_fv, ev_as, ev_sz, ev_st1, ev_st2, ev_rm, ev_pk, ev_Jof, ev_go, lv_args, List.map_cons, List.map_nil, List.zip_cons_cons, List.zip_nil_left, List.zip_nil_right, List.nil_append, List.cons_append, ↓reduceIte, reduceCtorEq, Int.reduceToNat, Nat.reduceEqDiff, Nat.reduceAdd, Nat.reduceLT, Nat.reduceLeDiff, Nat.reduceMul, Nat.reduceSub, Value.category, false_implies, true_and, and_true, Bool.false_eq_true, Option.some.injEq, exists_eq_left', Option.toList_some, Option.toList_none, ev_km, ev_k2, ev_k3, ev_k4, ev_k5, ev_l0, ev_l1, sh_1, sh_2, sh_3, sh_4, sh_5, cd_X10_undoCount_0, fl_X10_339, fl_X10_41, no_0, no_1, no_lt, no_le, no_eq, no_lt0, no_ge0, no_gt0, no_le0, no_eq0, no_0eq, no_eqm, no_meq, no_m0, no_mlt, no_mge, no_mgt, no_mm, no_i01, no_i10, no_in, no_or, no_ifm, no_mul, nI_add, no_sub, pk_div, iI_if, nI_clamp, oI_n, oI_s, not_true_eq_false, not_false_eq_true, forall_const, true_implies, false_and, and_false, or_false, false_or, Classical.not_not, true_or, or_true, no_b, no_eq1, eq_self, and_self, no_on, sk_0, hq_5, hs_78, hs])
    | (with_reducible refine And.intro (fun q => ?_) (fun q => ?_) <;> (try simp (disch := first | omega | assumption) only [no_0, no_1, no_lt, no_le, no_eq, no_lt0, no_ge0, no_gt0, no_le0, no_eq0, no_0eq, no_eqm, no_meq, no_m0, no_mlt, no_mge, no_mgt, no_mm, no_i01, no_i10, no_in, no_or, no_ifm, no_mul, nI_add, no_sub, pk_div, iI_if, nI_clamp, oI_n, oI_s, not_true_eq_false, not_false_eq_true, forall_const, true_implies, false_and, and_false, or_false, false_or, Classical.not_not, true_or, or_true, no_b, no_eq1, eq_self, and_self, no_on, sk_0, hq_5, hs_78, hs] at q))
    | omega
    | with_reducible assumption
    | with_reducible rfl
    | (refine Nat.lt_of_lt_of_le ?_ (Nat.le_refl 312); omega)
    | with_reducible refine lp_nx ?_ ?_ ?_ ?_
    | with_reducible refine lp_st ?_ ?_ ?_
    | with_reducible refine ls_c ?_ ?_
    | with_reducible refine vi_c ?_
    | with_reducible refine re_c ?_
    | with_reducible refine vz_c ?_
    | with_reducible refine rz_c ?_
    | exact trivial
    | with_reducible refine And.intro ?_ ?_
    | simp (disch := first | omega | assumption) only [ev_run_c, ev_run_n, ev_fj, ev_stp, ev_lk, ev_fv, ev_as, ev_sz, ev_st1, ev_st2, ev_rm, ev_pk, ev_Jof, ev_go, lv_args, List.map_cons, List.map_nil, List.zip_cons_cons, List.zip_nil_left, List.zip_nil_right, List.nil_append, List.cons_append, ↓reduceIte, reduceCtorEq, Int.reduceToNat, Nat.reduceEqDiff, Nat.reduceAdd, Nat.reduceLT, Nat.reduceLeDiff, Nat.reduceMul, Nat.reduceSub, Value.category, false_implies, true_and, and_true, Bool.false_eq_true, Option.some.injEq, exists_eq_left', Option.toList_some, Option.toList_none, ev_km, ev_k2, ev_k3, ev_k4, ev_k5, ev_l0, ev_l1, sh_1, sh_2, sh_3, sh_4, sh_5, cd_X10_undoCount_0, fl_X10_339, fl_X10_41, no_0, no_1, no_lt, no_le, no_eq, no_lt0, no_ge0, no_gt0, no_le0, no_eq0, no_0eq, no_eqm, no_meq, no_m0, no_mlt, no_mge, no_mgt, no_mm, no_i01, no_i10, no_in, no_or, no_ifm, no_mul, nI_add, no_sub, pk_div, iI_if, nI_clamp, oI_n, oI_s, not_true_eq_false, not_false_eq_true, forall_const, true_implies, false_and, and_false, or_false, false_or, Classical.not_not, true_or, or_true, no_b, no_eq1, eq_self, and_self, no_on, sk_0, hq_5, hs_78, hs]
    | exact rfl
    | (split <;> omega))
end XUndo
