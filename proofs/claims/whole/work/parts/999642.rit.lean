/-! ===== the reference's parser: persons, tasters ===== -/
section RItE
variable {G : ev_G} {N : Nat → Nat} {B : Nat → Nat} {n : Nat} {μ μ' : ev_M}
/-- tastes by the reference: error, token, number register, row -/
def tq (B : Nat → Nat) (n i : Nat) (s : (Nat × Int32) × Nat × Int32 × (Nat → Nat)) : Nat → (Nat × Int32) × Nat × Int32 × (Nat → Nat)
  | 0 => s
  | k + 1 => (rN B n (tq B n i s k).1 (tq B n i s k).2.1 0 10, nx (rN B n (tq B n i s k).1 (tq B n i s k).2.1 0 10) (tq B n i s k).2.1, nW B n (rN B n (tq B n i s k).1 (tq B n i s k).2.1 0 10) (tq B n i s k).2.1 (tq B n i s k).2.2.1, if (rN B n (tq B n i s k).1 (tq B n i s k).2.1 0 10).1 = 0 then up (tq B n i s k).2.2.2 (8 + 59 * i + (2 + k)) (tvl B n (tq B n i s k).2.1) else (tq B n i s k).2.2.2)
theorem tq_ok {i A : Nat} {e : Nat × Int32} {v : Int32} (h5 : e.1 < 5) (hv : NV B n A v) (k : Nat) : (tq B n i (e, A, v, N) k).1.1 < 5 ∧ NV B n (tq B n i (e, A, v, N) k).2.1 (tq B n i (e, A, v, N) k).2.2.1 ∧ (tq B n i (e, A, v, N) k).1 = tsE B n e A k ∧ ((tq B n i (e, A, v, N) k).1.1 = 0 → (tq B n i (e, A, v, N) k).2.1 = A + k ∧ (tq B n i (e, A, v, N) k).2.2.2 = tsN B n N i A k) := by
  induction k with
  | zero => exact ⟨h5, hv, rfl, fun _ => ⟨rfl, rfl⟩⟩
  | succ k ih =>
    obtain ⟨h1, h2, h3, h4⟩ := ih
    generalize hs : tq B n i (e, A, v, N) k = s at h1 h2 h3 h4
    have q1 : (tq B n i (e, A, v, N) (k + 1)).1 = rN B n s.1 s.2.1 0 10 := by rw [← hs]; rfl
    have q2 : (tq B n i (e, A, v, N) (k + 1)).2.1 = nx (rN B n s.1 s.2.1 0 10) s.2.1 := by rw [← hs]; rfl
    have q3 : (tq B n i (e, A, v, N) (k + 1)).2.2.1 = nW B n (rN B n s.1 s.2.1 0 10) s.2.1 s.2.2.1 := by rw [← hs]; rfl
    have q4 : (tq B n i (e, A, v, N) (k + 1)).2.2.2 = if (rN B n s.1 s.2.1 0 10).1 = 0 then up s.2.2.2 (8 + 59 * i + (2 + k)) (tvl B n s.2.1) else s.2.2.2 := by rw [← hs]; rfl
    rw [q1, q2, q3, q4]
    have h9 : tsE B n e A (k + 1) = rN B n (tsE B n e A k) (A + k) 0 10 := rfl
    refine ⟨rN_c h1, NV_nx h2, ?_, fun z => ?_⟩
    · rw [h9, ← h3]
      by_cases z : s.1.1 = 0
      · rw [(h4 z).1]
      · rw [rN_n z, rN_n z]
    · have z1 := (rN_0 z).1
      obtain ⟨g1, g2⟩ := h4 z1
      rw [if_pos z, nx_0 z, g1, g2]
      exact ⟨rfl, rfl⟩
set_option maxHeartbeats 4000000 in
theorem rx_taster (hok : ev_ok sh_S G) (hR : RB B n μ) (hN : MR N μ) (hI : INV N) {a : Nat} {v : Int32} (hv : NV B n a v) : RX G B n mi_X11_readsTaster a v μ (q_taster B n N (a + 1)) (nI9 B n N a 2) (aI9 B n N a 2) := by
  have hh := iv_h hI
  have n0 : nx (0, -1) a = a + 1 := rfl
  have hv1 := NV_nx (B := B) (n := n) (e := (0, -1)) (a := a) hv
  rw [n0] at hv1
  generalize w0 : nW B n (0, -1) a v = v1 at hv1
  obtain ⟨e1, f1⟩ : ∃ e, rP B n N (0, -1) (a + 1) = e := ⟨_, rfl⟩
  have c1 : e1.1 < 5 := by rw [← f1]; exact rP_c (by decide)
  have hq : q_taster B n N (a + 1) = tsE B n (rN B n (er e1 (N (8 + 59 * pv B n N (a + 1) + 1) ≠ 0) 3 (a + 1) B n) (a + 1 + 1) 1 7) (a + 1 + 1 + 1) 4 := by rw [← f1]; rfl
  rw [hq]
  have tsn : ∀ (e : Nat × Int32) (A : Nat), ¬ e.1 = 0 → tsE B n e A 4 = e := fun e A z => by
    show rN B n (rN B n (rN B n (rN B n e (A + 0) 0 10) (A + 1) 0 10) (A + 2) 0 10) (A + 3) 0 10 = e
    rw [rN_n z, rN_n z, rN_n z, rN_n z]
  by_cases z1 : ¬ e1.1 = 0
  · have y : (e1.1 = 0) = False := eq_false z1
    rw [er_n z1, rN_n z1, tsn _ _ z1]
    refine ⟨a + 1, v1, μ, ?_, Fw_rf, hv1, fun q => absurd q z1⟩
    refine ev_tri hok (okM_X11_readsTaster 0) (Nat.le_of_ble_eq_true rfl) 400 ?_
    rw [at_X11_readsTaster_0]
    repeat' (first
      | (with_reducible refine ev_rid ?_; simp (disch := first | omega | assumption) only [ev_run_c, ev_run_n, ev_fj, ev_stp, ev_lk, ev_fv, ev_as, ev_sz, ev_st1, ev_st2, ev_rm, ev_pk, ev_Jof, ev_go, lv_args, List.map_cons, List.map_nil, List.zip_cons_cons, List.zip_nil_left, List.zip_nil_right, List.nil_append, List.cons_append, ↓reduceIte, reduceCtorEq, Int.reduceToNat, Nat.reduceEqDiff, Nat.reduceAdd, Nat.reduceLT, Nat.reduceLeDiff, Nat.reduceMul, Nat.reduceSub, Value.category, false_implies, true_and, and_true, Bool.false_eq_true, Option.some.injEq, exists_eq_left', Option.toList_some, Option.toList_none, ev_km, ev_k2, ev_k3, ev_k4, ev_k5, ev_l0, ev_l1, sh_1, sh_2, sh_3, sh_4, sh_5, at_X11_readsTaster_29, at_X11_readsTaster_30, at_X11_readsTaster_47, at_X11_readsTaster_78, at_X11_readsTaster_84, at_X11_readsTaster_98, ca_X11_118, ca_X11_133, ca_X11_137, ca_X11_140, ca_X11_149, ca_X11_153, cd_X11_readsTaster_0, cd_X11_readsTaster_29, cd_X11_readsTaster_30, cd_X11_readsTaster_47, cd_X11_readsTaster_78, cd_X11_readsTaster_84, cd_X11_readsTaster_98, fl_X11_62, ev_b_6, ev_b_9, no_0, no_1, no_lt, no_le, no_eq, no_lt0, no_ge0, no_gt0, no_le0, no_eq0, no_0eq, no_eqm, no_meq, no_m0, no_mlt, no_mge, no_mgt, no_mm, no_i01, no_i10, no_in, no_or, no_ifm, no_mul, nI_add, no_sub, pk_div, iI_if, nI_clamp, oI_n, oI_s, not_true_eq_false, not_false_eq_true, forall_const, true_implies, false_and, and_false, or_false, false_or, Classical.not_not, true_or, or_true, no_b, no_eq1, eq_self, and_self, sk_301, sk_302, sl_302, sp_301, n0, w0, re_10, re_n, f1, y, nx_n z1, nW_n z1, rN_n z1])
      | (with_reducible refine ev_gid ?_; simp (disch := first | omega | assumption) only [ev_run_c, ev_run_n, ev_fj, ev_stp, ev_lk, ev_fv, ev_as, ev_sz, ev_st1, ev_st2, ev_rm, ev_pk, ev_Jof, ev_go, lv_args, List.map_cons, List.map_nil, List.zip_cons_cons, List.zip_nil_left, List.zip_nil_right, List.nil_append, List.cons_append, ↓reduceIte, reduceCtorEq, Int.reduceToNat, Nat.reduceEqDiff, Nat.reduceAdd, Nat.reduceLT, Nat.reduceLeDiff, Nat.reduceMul, Nat.reduceSub, Value.category, false_implies, true_and, and_true, Bool.false_eq_true, Option.some.injEq, exists_eq_left', Option.toList_some, Option.toList_none, ev_km, ev_k2, ev_k3, ev_k4, ev_k5, ev_l0, ev_l1, sh_1, sh_2, sh_3, sh_4, sh_5, at_X11_readsTaster_29, at_X11_readsTaster_30, at_X11_readsTaster_47, at_X11_readsTaster_78, at_X11_readsTaster_84, at_X11_readsTaster_98, ca_X11_118, ca_X11_133, ca_X11_137, ca_X11_140, ca_X11_149, ca_X11_153, cd_X11_readsTaster_0, cd_X11_readsTaster_29, cd_X11_readsTaster_30, cd_X11_readsTaster_47, cd_X11_readsTaster_78, cd_X11_readsTaster_84, cd_X11_readsTaster_98, fl_X11_62, ev_b_6, ev_b_9, no_0, no_1, no_lt, no_le, no_eq, no_lt0, no_ge0, no_gt0, no_le0, no_eq0, no_0eq, no_eqm, no_meq, no_m0, no_mlt, no_mge, no_mgt, no_mm, no_i01, no_i10, no_in, no_or, no_ifm, no_mul, nI_add, no_sub, pk_div, iI_if, nI_clamp, oI_n, oI_s, not_true_eq_false, not_false_eq_true, forall_const, true_implies, false_and, and_false, or_false, false_or, Classical.not_not, true_or, or_true, no_b, no_eq1, eq_self, and_self, sk_301, sk_302, sl_302, sp_301, n0, w0, re_10, re_n, f1, y, nx_n z1, nW_n z1, rN_n z1])
      | (with_reducible refine And.intro (fun q => ?_) (fun q => ?_) <;> (try simp (disch := first | omega | assumption) only [no_0, no_1, no_lt, no_le, no_eq, no_lt0, no_ge0, no_gt0, no_le0, no_eq0, no_0eq, no_eqm, no_meq, no_m0, no_mlt, no_mge, no_mgt, no_mm, no_i01, no_i10, no_in, no_or, no_ifm, no_mul, nI_add, no_sub, pk_div, iI_if, nI_clamp, oI_n, oI_s, not_true_eq_false, not_false_eq_true, forall_const, true_implies, false_and, and_false, or_false, false_or, Classical.not_not, true_or, or_true, no_b, no_eq1, eq_self, and_self, sk_301, sk_302, sl_302, sp_301, n0, w0, re_10, re_n, f1, y, nx_n z1, nW_n z1, rN_n z1] at q))
      | with_reducible refine ev_ci (m_go hok (by first | with_reducible assumption | exact RB_mw (by with_reducible assumption)) ?_) ?_
      | with_reducible refine ev_ci (m_personHere hok (by with_reducible assumption) (by with_reducible assumption) (by with_reducible assumption) ?_) ?_
      | with_reducible refine ev_ci (m_X11_isTasting hok (by first | exact MR_re (by with_reducible assumption) | exact MR_re mw_R) ?_ ?_) ?_
      | with_reducible refine ev_ci (m_refuses1 hok ?_) ?_
      | with_reducible refine ev_ci (m_refuses0 hok ?_) ?_
      | with_reducible refine ev_ci (m_readNumber hok (by with_reducible assumption) ?_ (by with_reducible assumption) ?_ ?_) ?_
      | with_reducible refine ev_ci (m_X11_puts hok (by first | exact MR_re (by with_reducible assumption) | exact MR_re mw_R) ?_ ?_) ?_
      | omega
      | with_reducible assumption
      | with_reducible rfl
      | with_reducible refine lp_nx ?_ ?_ ?_ ?_
      | with_reducible refine lp_st ?_ ?_ ?_
      | with_reducible refine ls_c ?_ ?_
      | with_reducible refine vi_c ?_
      | with_reducible refine re_c ?_
      | with_reducible refine vz_c ?_
      | with_reducible refine rz_c ?_
      | exact trivial
      | with_reducible refine And.intro ?_ ?_
      | simp (disch := first | omega | assumption) only [ev_run_c, ev_run_n, ev_fj, ev_stp, ev_lk, ev_fv, ev_as, ev_sz, ev_st1, ev_st2, ev_rm, ev_pk, ev_Jof, ev_go, lv_args, List.map_cons, List.map_nil, List.zip_cons_cons, List.zip_nil_left, List.zip_nil_right, List.nil_append, List.cons_append, ↓reduceIte, reduceCtorEq, Int.reduceToNat, Nat.reduceEqDiff, Nat.reduceAdd, Nat.reduceLT, Nat.reduceLeDiff, Nat.reduceMul, Nat.reduceSub, Value.category, false_implies, true_and, and_true, Bool.false_eq_true, Option.some.injEq, exists_eq_left', Option.toList_some, Option.toList_none, ev_km, ev_k2, ev_k3, ev_k4, ev_k5, ev_l0, ev_l1, sh_1, sh_2, sh_3, sh_4, sh_5, at_X11_readsTaster_29, at_X11_readsTaster_30, at_X11_readsTaster_47, at_X11_readsTaster_78, at_X11_readsTaster_84, at_X11_readsTaster_98, ca_X11_118, ca_X11_133, ca_X11_137, ca_X11_140, ca_X11_149, ca_X11_153, cd_X11_readsTaster_0, cd_X11_readsTaster_29, cd_X11_readsTaster_30, cd_X11_readsTaster_47, cd_X11_readsTaster_78, cd_X11_readsTaster_84, cd_X11_readsTaster_98, fl_X11_62, ev_b_6, ev_b_9, no_0, no_1, no_lt, no_le, no_eq, no_lt0, no_ge0, no_gt0, no_le0, no_eq0, no_0eq, no_eqm, no_meq, no_m0, no_mlt, no_mge, no_mgt, no_mm, no_i01, no_i10, no_in, no_or, no_ifm, no_mul, nI_add, no_sub, pk_div, iI_if, nI_clamp, oI_n, oI_s, not_true_eq_false, not_false_eq_true, forall_const, true_implies, false_and, and_false, or_false, false_or, Classical.not_not, true_or, or_true, no_b, no_eq1, eq_self, and_self, sk_301, sk_302, sl_302, sp_301, n0, w0, re_10, re_n, f1, y, nx_n z1, nW_n z1, rN_n z1]
      | exact rfl
      | (split <;> omega))
  · have z1 : e1.1 = 0 := Classical.byContradiction z1
    have g1 := z1
    rw [← f1] at g1
    have s1 := rP_0 g1
    have p1 := pz_0 g1
    generalize hi9 : pv B n N (a + 1) = i at s1 p1 ⊢
    have bi : i < 16 := by omega
    have hl := (iv_p hI i bi).1
    have ht := m_X11_isTasting (μ := re B n e1 (a + 1) v1 μ) hok (MR_re hN) (i := i) bi (by omega)
    by_cases hc : N (8 + 59 * i + 1) ≠ 0
    · rw [er_True hc]
      obtain ⟨e9, f9⟩ : ∃ e, er e1 True 3 (a + 1) B n = e := ⟨_, rfl⟩
      have c9 : e9.1 < 5 := by rw [← f9]; exact er_c c1 (by decide)
      have z9 : ¬ e9.1 = 0 := by rw [← f9, er_T z1]; exact Nat.succ_ne_zero _
      have y : (e9.1 = 0) = False := eq_false z9
      rw [f9, rN_n z9, tsn _ _ z9]
      rw [if_neg hc] at ht
      refine ⟨a + 1, v1, μ, ?_, Fw_rf, hv1, fun q => absurd q z9⟩
      refine ev_tri hok (okM_X11_readsTaster 0) (Nat.le_of_ble_eq_true rfl) 400 ?_
      rw [at_X11_readsTaster_0]
      repeat' (first
        | (with_reducible refine ev_rid ?_; simp (disch := first | omega | assumption) only [ev_run_c, ev_run_n, ev_fj, ev_stp, ev_lk, ev_fv, ev_as, ev_sz, ev_st1, ev_st2, ev_rm, ev_pk, ev_Jof, ev_go, lv_args, List.map_cons, List.map_nil, List.zip_cons_cons, List.zip_nil_left, List.zip_nil_right, List.nil_append, List.cons_append, ↓reduceIte, reduceCtorEq, Int.reduceToNat, Nat.reduceEqDiff, Nat.reduceAdd, Nat.reduceLT, Nat.reduceLeDiff, Nat.reduceMul, Nat.reduceSub, Value.category, false_implies, true_and, and_true, Bool.false_eq_true, Option.some.injEq, exists_eq_left', Option.toList_some, Option.toList_none, ev_km, ev_k2, ev_k3, ev_k4, ev_k5, ev_l0, ev_l1, sh_1, sh_2, sh_3, sh_4, sh_5, at_X11_readsTaster_29, at_X11_readsTaster_30, at_X11_readsTaster_47, at_X11_readsTaster_78, at_X11_readsTaster_84, at_X11_readsTaster_98, ca_X11_118, ca_X11_133, ca_X11_137, ca_X11_140, ca_X11_149, ca_X11_153, cd_X11_readsTaster_0, cd_X11_readsTaster_29, cd_X11_readsTaster_30, cd_X11_readsTaster_47, cd_X11_readsTaster_78, cd_X11_readsTaster_84, cd_X11_readsTaster_98, fl_X11_62, ev_b_6, ev_b_9, no_0, no_1, no_lt, no_le, no_eq, no_lt0, no_ge0, no_gt0, no_le0, no_eq0, no_0eq, no_eqm, no_meq, no_m0, no_mlt, no_mge, no_mgt, no_mm, no_i01, no_i10, no_in, no_or, no_ifm, no_mul, nI_add, no_sub, pk_div, iI_if, nI_clamp, oI_n, oI_s, not_true_eq_false, not_false_eq_true, forall_const, true_implies, false_and, and_false, or_false, false_or, Classical.not_not, true_or, or_true, no_b, no_eq1, eq_self, and_self, sk_301, sk_302, sl_302, sp_301, n0, w0, re_10, re_n, f1, z1, p1, f9, y, nx_n z9, nW_n z9, rN_n z9])
        | (with_reducible refine ev_gid ?_; simp (disch := first | omega | assumption) only [ev_run_c, ev_run_n, ev_fj, ev_stp, ev_lk, ev_fv, ev_as, ev_sz, ev_st1, ev_st2, ev_rm, ev_pk, ev_Jof, ev_go, lv_args, List.map_cons, List.map_nil, List.zip_cons_cons, List.zip_nil_left, List.zip_nil_right, List.nil_append, List.cons_append, ↓reduceIte, reduceCtorEq, Int.reduceToNat, Nat.reduceEqDiff, Nat.reduceAdd, Nat.reduceLT, Nat.reduceLeDiff, Nat.reduceMul, Nat.reduceSub, Value.category, false_implies, true_and, and_true, Bool.false_eq_true, Option.some.injEq, exists_eq_left', Option.toList_some, Option.toList_none, ev_km, ev_k2, ev_k3, ev_k4, ev_k5, ev_l0, ev_l1, sh_1, sh_2, sh_3, sh_4, sh_5, at_X11_readsTaster_29, at_X11_readsTaster_30, at_X11_readsTaster_47, at_X11_readsTaster_78, at_X11_readsTaster_84, at_X11_readsTaster_98, ca_X11_118, ca_X11_133, ca_X11_137, ca_X11_140, ca_X11_149, ca_X11_153, cd_X11_readsTaster_0, cd_X11_readsTaster_29, cd_X11_readsTaster_30, cd_X11_readsTaster_47, cd_X11_readsTaster_78, cd_X11_readsTaster_84, cd_X11_readsTaster_98, fl_X11_62, ev_b_6, ev_b_9, no_0, no_1, no_lt, no_le, no_eq, no_lt0, no_ge0, no_gt0, no_le0, no_eq0, no_0eq, no_eqm, no_meq, no_m0, no_mlt, no_mge, no_mgt, no_mm, no_i01, no_i10, no_in, no_or, no_ifm, no_mul, nI_add, no_sub, pk_div, iI_if, nI_clamp, oI_n, oI_s, not_true_eq_false, not_false_eq_true, forall_const, true_implies, false_and, and_false, or_false, false_or, Classical.not_not, true_or, or_true, no_b, no_eq1, eq_self, and_self, sk_301, sk_302, sl_302, sp_301, n0, w0, re_10, re_n, f1, z1, p1, f9, y, nx_n z9, nW_n z9, rN_n z9])
        | (with_reducible refine And.intro (fun q => ?_) (fun q => ?_) <;> (try simp (disch := first | omega | assumption) only [no_0, no_1, no_lt, no_le, no_eq, no_lt0, no_ge0, no_gt0, no_le0, no_eq0, no_0eq, no_eqm, no_meq, no_m0, no_mlt, no_mge, no_mgt, no_mm, no_i01, no_i10, no_in, no_or, no_ifm, no_mul, nI_add, no_sub, pk_div, iI_if, nI_clamp, oI_n, oI_s, not_true_eq_false, not_false_eq_true, forall_const, true_implies, false_and, and_false, or_false, false_or, Classical.not_not, true_or, or_true, no_b, no_eq1, eq_self, and_self, sk_301, sk_302, sl_302, sp_301, n0, w0, re_10, re_n, f1, z1, p1, f9, y, nx_n z9, nW_n z9, rN_n z9] at q))
        | (with_reducible refine ev_ci ht ?_)
        | with_reducible refine ev_ci (m_go hok (by first | with_reducible assumption | exact RB_mw (by with_reducible assumption)) ?_) ?_
        | with_reducible refine ev_ci (m_personHere hok (by with_reducible assumption) (by with_reducible assumption) (by with_reducible assumption) ?_) ?_
        | with_reducible refine ev_ci (m_X11_isTasting hok (by first | exact MR_re (by with_reducible assumption) | exact MR_re mw_R) ?_ ?_) ?_
        | with_reducible refine ev_ci (m_refuses1 hok ?_) ?_
        | with_reducible refine ev_ci (m_refuses0 hok ?_) ?_
        | with_reducible refine ev_ci (m_readNumber hok (by with_reducible assumption) ?_ (by with_reducible assumption) ?_ ?_) ?_
        | with_reducible refine ev_ci (m_X11_puts hok (by first | exact MR_re (by with_reducible assumption) | exact MR_re mw_R) ?_ ?_) ?_
        | omega
        | with_reducible assumption
        | with_reducible rfl
        | with_reducible refine lp_nx ?_ ?_ ?_ ?_
        | with_reducible refine lp_st ?_ ?_ ?_
        | with_reducible refine ls_c ?_ ?_
        | with_reducible refine vi_c ?_
        | with_reducible refine re_c ?_
        | with_reducible refine vz_c ?_
        | with_reducible refine rz_c ?_
        | exact trivial
        | with_reducible refine And.intro ?_ ?_
        | simp (disch := first | omega | assumption) only [ev_run_c, ev_run_n, ev_fj, ev_stp, ev_lk, ev_fv, ev_as, ev_sz, ev_st1, ev_st2, ev_rm, ev_pk, ev_Jof, ev_go, lv_args, List.map_cons, List.map_nil, List.zip_cons_cons, List.zip_nil_left, List.zip_nil_right, List.nil_append, List.cons_append, ↓reduceIte, reduceCtorEq, Int.reduceToNat, Nat.reduceEqDiff, Nat.reduceAdd, Nat.reduceLT, Nat.reduceLeDiff, Nat.reduceMul, Nat.reduceSub, Value.category, false_implies, true_and, and_true, Bool.false_eq_true, Option.some.injEq, exists_eq_left', Option.toList_some, Option.toList_none, ev_km, ev_k2, ev_k3, ev_k4, ev_k5, ev_l0, ev_l1, sh_1, sh_2, sh_3, sh_4, sh_5, at_X11_readsTaster_29, at_X11_readsTaster_30, at_X11_readsTaster_47, at_X11_readsTaster_78, at_X11_readsTaster_84, at_X11_readsTaster_98, ca_X11_118, ca_X11_133, ca_X11_137, ca_X11_140, ca_X11_149, ca_X11_153, cd_X11_readsTaster_0, cd_X11_readsTaster_29, cd_X11_readsTaster_30, cd_X11_readsTaster_47, cd_X11_readsTaster_78, cd_X11_readsTaster_84, cd_X11_readsTaster_98, fl_X11_62, ev_b_6, ev_b_9, no_0, no_1, no_lt, no_le, no_eq, no_lt0, no_ge0, no_gt0, no_le0, no_eq0, no_0eq, no_eqm, no_meq, no_m0, no_mlt, no_mge, no_mgt, no_mm, no_i01, no_i10, no_in, no_or, no_ifm, no_mul, nI_add, no_sub, pk_div, iI_if, nI_clamp, oI_n, oI_s, not_true_eq_false, not_false_eq_true, forall_const, true_implies, false_and, and_false, or_false, false_or, Classical.not_not, true_or, or_true, no_b, no_eq1, eq_self, and_self, sk_301, sk_302, sl_302, sp_301, n0, w0, re_10, re_n, f1, z1, p1, f9, y, nx_n z9, nW_n z9, rN_n z9]
        | exact rfl
        | (split <;> omega))
    · rw [er_f hc]
      have h1 : N (8 + 59 * i + 1) = 0 := Classical.byContradiction hc
      rw [if_pos h1] at ht
      have n1 : nx e1 (a + 1) = a + 1 + 1 := nx_0 z1
      have hv2 := NV_nx (B := B) (n := n) (e := e1) (a := a + 1) hv1
      rw [n1] at hv2
      generalize w1 : nW B n e1 (a + 1) v1 = v2 at hv2
      obtain ⟨e2, f2⟩ : ∃ e, rN B n e1 (a + 1 + 1) 1 7 = e := ⟨_, rfl⟩
      have c2 : e2.1 < 5 := by rw [← f2]; exact rN_c c1
      rw [f2]
      by_cases z2 : ¬ e2.1 = 0
      · have y : (e2.1 = 0) = False := eq_false z2
        rw [tsn _ _ z2]
        refine ⟨a + 1 + 1, v2, μ, ?_, Fw_rf, hv2, fun q => absurd q z2⟩
        refine ev_tri hok (okM_X11_readsTaster 0) (Nat.le_of_ble_eq_true rfl) 400 ?_
        rw [at_X11_readsTaster_0]
        repeat' (first
          | (with_reducible refine ev_rid ?_; simp (disch := first | omega | assumption) only [ev_run_c, ev_run_n, ev_fj, ev_stp, ev_lk, ev_fv, ev_as, ev_sz, ev_st1, ev_st2, ev_rm, ev_pk, ev_Jof, ev_go, lv_args, List.map_cons, List.map_nil, List.zip_cons_cons, List.zip_nil_left, List.zip_nil_right, List.nil_append, List.cons_append, ↓reduceIte, reduceCtorEq, Int.reduceToNat, Nat.reduceEqDiff, Nat.reduceAdd, Nat.reduceLT, Nat.reduceLeDiff, Nat.reduceMul, Nat.reduceSub, Value.category, false_implies, true_and, and_true, Bool.false_eq_true, Option.some.injEq, exists_eq_left', Option.toList_some, Option.toList_none, ev_km, ev_k2, ev_k3, ev_k4, ev_k5, ev_l0, ev_l1, sh_1, sh_2, sh_3, sh_4, sh_5, at_X11_readsTaster_29, at_X11_readsTaster_30, at_X11_readsTaster_47, at_X11_readsTaster_78, at_X11_readsTaster_84, at_X11_readsTaster_98, ca_X11_118, ca_X11_133, ca_X11_137, ca_X11_140, ca_X11_149, ca_X11_153, cd_X11_readsTaster_0, cd_X11_readsTaster_29, cd_X11_readsTaster_30, cd_X11_readsTaster_47, cd_X11_readsTaster_78, cd_X11_readsTaster_84, cd_X11_readsTaster_98, fl_X11_62, ev_b_6, ev_b_9, no_0, no_1, no_lt, no_le, no_eq, no_lt0, no_ge0, no_gt0, no_le0, no_eq0, no_0eq, no_eqm, no_meq, no_m0, no_mlt, no_mge, no_mgt, no_mm, no_i01, no_i10, no_in, no_or, no_ifm, no_mul, nI_add, no_sub, pk_div, iI_if, nI_clamp, oI_n, oI_s, not_true_eq_false, not_false_eq_true, forall_const, true_implies, false_and, and_false, or_false, false_or, Classical.not_not, true_or, or_true, no_b, no_eq1, eq_self, and_self, sk_301, sk_302, sl_302, sp_301, n0, w0, re_10, re_n, f1, z1, p1, n1, w1, f2, y, nx_n z2, nW_n z2, rN_n z2])
          | (with_reducible refine ev_gid ?_; simp (disch := first | omega | assumption) only [ev_run_c, ev_run_n, ev_fj, ev_stp, ev_lk, ev_fv, ev_as, ev_sz, ev_st1, ev_st2, ev_rm, ev_pk, ev_Jof, ev_go, lv_args, List.map_cons, List.map_nil, List.zip_cons_cons, List.zip_nil_left, List.zip_nil_right, List.nil_append, List.cons_append, ↓reduceIte, reduceCtorEq, Int.reduceToNat, Nat.reduceEqDiff, Nat.reduceAdd, Nat.reduceLT, Nat.reduceLeDiff, Nat.reduceMul, Nat.reduceSub, Value.category, false_implies, true_and, and_true, Bool.false_eq_true, Option.some.injEq, exists_eq_left', Option.toList_some, Option.toList_none, ev_km, ev_k2, ev_k3, ev_k4, ev_k5, ev_l0, ev_l1, sh_1, sh_2, sh_3, sh_4, sh_5, at_X11_readsTaster_29, at_X11_readsTaster_30, at_X11_readsTaster_47, at_X11_readsTaster_78, at_X11_readsTaster_84, at_X11_readsTaster_98, ca_X11_118, ca_X11_133, ca_X11_137, ca_X11_140, ca_X11_149, ca_X11_153, cd_X11_readsTaster_0, cd_X11_readsTaster_29, cd_X11_readsTaster_30, cd_X11_readsTaster_47, cd_X11_readsTaster_78, cd_X11_readsTaster_84, cd_X11_readsTaster_98, fl_X11_62, ev_b_6, ev_b_9, no_0, no_1, no_lt, no_le, no_eq, no_lt0, no_ge0, no_gt0, no_le0, no_eq0, no_0eq, no_eqm, no_meq, no_m0, no_mlt, no_mge, no_mgt, no_mm, no_i01, no_i10, no_in, no_or, no_ifm, no_mul, nI_add, no_sub, pk_div, iI_if, nI_clamp, oI_n, oI_s, not_true_eq_false, not_false_eq_true, forall_const, true_implies, false_and, and_false, or_false, false_or, Classical.not_not, true_or, or_true, no_b, no_eq1, eq_self, and_self, sk_301, sk_302, sl_302, sp_301, n0, w0, re_10, re_n, f1, z1, p1, n1, w1, f2, y, nx_n z2, nW_n z2, rN_n z2])
          | (with_reducible refine And.intro (fun q => ?_) (fun q => ?_) <;> (try simp (disch := first | omega | assumption) only [no_0, no_1, no_lt, no_le, no_eq, no_lt0, no_ge0, no_gt0, no_le0, no_eq0, no_0eq, no_eqm, no_meq, no_m0, no_mlt, no_mge, no_mgt, no_mm, no_i01, no_i10, no_in, no_or, no_ifm, no_mul, nI_add, no_sub, pk_div, iI_if, nI_clamp, oI_n, oI_s, not_true_eq_false, not_false_eq_true, forall_const, true_implies, false_and, and_false, or_false, false_or, Classical.not_not, true_or, or_true, no_b, no_eq1, eq_self, and_self, sk_301, sk_302, sl_302, sp_301, n0, w0, re_10, re_n, f1, z1, p1, n1, w1, f2, y, nx_n z2, nW_n z2, rN_n z2] at q))
          | (with_reducible refine ev_ci ht ?_)
          | with_reducible refine ev_ci (m_go hok (by first | with_reducible assumption | exact RB_mw (by with_reducible assumption)) ?_) ?_
          | with_reducible refine ev_ci (m_personHere hok (by with_reducible assumption) (by with_reducible assumption) (by with_reducible assumption) ?_) ?_
          | with_reducible refine ev_ci (m_X11_isTasting hok (by first | exact MR_re (by with_reducible assumption) | exact MR_re mw_R) ?_ ?_) ?_
          | with_reducible refine ev_ci (m_refuses1 hok ?_) ?_
          | with_reducible refine ev_ci (m_refuses0 hok ?_) ?_
          | with_reducible refine ev_ci (m_readNumber hok (by with_reducible assumption) ?_ (by with_reducible assumption) ?_ ?_) ?_
          | with_reducible refine ev_ci (m_X11_puts hok (by first | exact MR_re (by with_reducible assumption) | exact MR_re mw_R) ?_ ?_) ?_
          | omega
          | with_reducible assumption
          | with_reducible rfl
          | with_reducible refine lp_nx ?_ ?_ ?_ ?_
          | with_reducible refine lp_st ?_ ?_ ?_
          | with_reducible refine ls_c ?_ ?_
          | with_reducible refine vi_c ?_
          | with_reducible refine re_c ?_
          | with_reducible refine vz_c ?_
          | with_reducible refine rz_c ?_
          | exact trivial
          | with_reducible refine And.intro ?_ ?_
          | simp (disch := first | omega | assumption) only [ev_run_c, ev_run_n, ev_fj, ev_stp, ev_lk, ev_fv, ev_as, ev_sz, ev_st1, ev_st2, ev_rm, ev_pk, ev_Jof, ev_go, lv_args, List.map_cons, List.map_nil, List.zip_cons_cons, List.zip_nil_left, List.zip_nil_right, List.nil_append, List.cons_append, ↓reduceIte, reduceCtorEq, Int.reduceToNat, Nat.reduceEqDiff, Nat.reduceAdd, Nat.reduceLT, Nat.reduceLeDiff, Nat.reduceMul, Nat.reduceSub, Value.category, false_implies, true_and, and_true, Bool.false_eq_true, Option.some.injEq, exists_eq_left', Option.toList_some, Option.toList_none, ev_km, ev_k2, ev_k3, ev_k4, ev_k5, ev_l0, ev_l1, sh_1, sh_2, sh_3, sh_4, sh_5, at_X11_readsTaster_29, at_X11_readsTaster_30, at_X11_readsTaster_47, at_X11_readsTaster_78, at_X11_readsTaster_84, at_X11_readsTaster_98, ca_X11_118, ca_X11_133, ca_X11_137, ca_X11_140, ca_X11_149, ca_X11_153, cd_X11_readsTaster_0, cd_X11_readsTaster_29, cd_X11_readsTaster_30, cd_X11_readsTaster_47, cd_X11_readsTaster_78, cd_X11_readsTaster_84, cd_X11_readsTaster_98, fl_X11_62, ev_b_6, ev_b_9, no_0, no_1, no_lt, no_le, no_eq, no_lt0, no_ge0, no_gt0, no_le0, no_eq0, no_0eq, no_eqm, no_meq, no_m0, no_mlt, no_mge, no_mgt, no_mm, no_i01, no_i10, no_in, no_or, no_ifm, no_mul, nI_add, no_sub, pk_div, iI_if, nI_clamp, oI_n, oI_s, not_true_eq_false, not_false_eq_true, forall_const, true_implies, false_and, and_false, or_false, false_or, Classical.not_not, true_or, or_true, no_b, no_eq1, eq_self, and_self, sk_301, sk_302, sl_302, sp_301, n0, w0, re_10, re_n, f1, z1, p1, n1, w1, f2, y, nx_n z2, nW_n z2, rN_n z2]
          | exact rfl
          | (split <;> omega))
      · have z2 : e2.1 = 0 := Classical.byContradiction z2
        have g2 := z2
        rw [← f2] at g2
        have s2 := nmc_0 (rN_0 g2).2.1
        have n2 : nx e2 (a + 1 + 1) = a + 1 + 1 + 1 := nx_0 z2
        have hv3 := NV_nx (B := B) (n := n) (e := e2) (a := a + 1 + 1) hv2
        rw [n2] at hv3
        generalize w2 : nW B n e2 (a + 1 + 1) v2 = v3 at hv3
        have hk := fun k => tq_ok (N := N) (i := i) c2 hv3 k
        generalize hS : (fun k => tq B n i (e2, a + 1 + 1 + 1, v3, N) k) = T at hk
        have hT : ∀ k, tq B n i (e2, a + 1 + 1 + 1, v3, N) k = T k := fun k => by rw [← hS]
        simp only [hT] at hk
        have q0 : T 0 = (e2, a + 1 + 1 + 1, v3, N) := (hT 0).symm
        have qs : ∀ k, T (k + 1) = (rN B n (T k).1 (T k).2.1 0 10, nx (rN B n (T k).1 (T k).2.1 0 10) (T k).2.1, nW B n (rN B n (T k).1 (T k).2.1 0 10) (T k).2.1 (T k).2.2.1, if (rN B n (T k).1 (T k).2.1 0 10).1 = 0 then up (T k).2.2.2 (8 + 59 * i + (2 + k)) (tvl B n (T k).2.1) else (T k).2.2.2) := fun k => by rw [← hT (k + 1), ← hT k]; rfl
        have qe := (hk 4).2.2.1
        rw [← qe]
        have main : ∀ Nf : Nat → Nat, ((T 4).1.1 = 0 → Nf = up (T 4).2.2.2 (8 + 59 * i + 1) (tvl B n (a + 1 + 1))) → (¬ (T 4).1.1 = 0 → Nf = (T 4).2.2.2) → ev_T sh_S G mi_X11_readsTaster [.ref 301] (re B n (0, -1) a v μ) (.inl (none, re B n (T 4).1 (T 4).2.1 (T 4).2.2.1 (mw μ Nf))) := by
          intro Nf hf1 hf2
          refine ev_tri1 hok (okM_X11_readsTaster 0) (Nat.le_of_ble_eq_true rfl) 47 [0, 1, 2, 3] 4 400 (fun k => [.ref 301, .int (nI i), .int (nI (tvl B n (a + 1 + 1))), .int (nI k)]) (fun k => re B n (T k).1 (T k).2.1 (T k).2.2.1 (mw μ (T k).2.2.2)) (fun _ => True) ?_ ?_
          · intro k hk9 _
            rw [at_X11_readsTaster_47]
            obtain ⟨k1, k2, k3, k4⟩ := hk k
            rcases Nat.lt_or_ge k 4 with hkn | hkn
            · have hrn := m_readNumber (μ := mw μ (T k).2.2.2) (l := 0) (h := 9) hok (RB_mw hR) k1 k2 (by omega) (by omega)
              have c3 : (rN B n (T k).1 (T k).2.1 0 10).1 < 5 := rN_c k1
              have e8 := qs k
              by_cases z : (rN B n (T k).1 (T k).2.1 0 10).1 = 0
              · rw [if_pos z] at e8 hrn
                have hpt := m_X11_puts (μ := re B n (rN B n (T k).1 (T k).2.1 0 10) (nx (rN B n (T k).1 (T k).2.1 0 10) (T k).2.1) (nW B n (rN B n (T k).1 (T k).2.1 0 10) (T k).2.1 (T k).2.2.1) (mw μ (T k).2.2.2)) (v := tvl B n (T k).2.1) hok (MR_re (N := (T k).2.2.2) mw_R) (i := i) (w := 2 + k) bi (by omega)
                repeat' (first
                  | (with_reducible refine ev_rid ?_; simp (disch := first | omega | assumption) only [ev_run_c, ev_run_n, ev_fj, ev_stp, ev_lk, ev_fv, ev_as, ev_sz, ev_st1, ev_st2, ev_rm, ev_pk, ev_Jof, ev_go, lv_args, List.map_cons, List.map_nil, List.zip_cons_cons, List.zip_nil_left, List.zip_nil_right, List.nil_append, List.cons_append, ↓reduceIte, reduceCtorEq, Int.reduceToNat, Nat.reduceEqDiff, Nat.reduceAdd, Nat.reduceLT, Nat.reduceLeDiff, Nat.reduceMul, Nat.reduceSub, Value.category, false_implies, true_and, and_true, Bool.false_eq_true, Option.some.injEq, exists_eq_left', Option.toList_some, Option.toList_none, ev_km, ev_k2, ev_k3, ev_k4, ev_k5, ev_l0, ev_l1, sh_1, sh_2, sh_3, sh_4, sh_5, at_X11_readsTaster_29, at_X11_readsTaster_30, at_X11_readsTaster_47, at_X11_readsTaster_78, at_X11_readsTaster_84, at_X11_readsTaster_98, ca_X11_118, ca_X11_133, ca_X11_137, ca_X11_140, ca_X11_149, ca_X11_153, cd_X11_readsTaster_0, cd_X11_readsTaster_29, cd_X11_readsTaster_30, cd_X11_readsTaster_47, cd_X11_readsTaster_78, cd_X11_readsTaster_84, cd_X11_readsTaster_98, fl_X11_62, ev_b_6, ev_b_9, no_0, no_1, no_lt, no_le, no_eq, no_lt0, no_ge0, no_gt0, no_le0, no_eq0, no_0eq, no_eqm, no_meq, no_m0, no_mlt, no_mge, no_mgt, no_mm, no_i01, no_i10, no_in, no_or, no_ifm, no_mul, nI_add, no_sub, pk_div, iI_if, nI_clamp, oI_n, oI_s, not_true_eq_false, not_false_eq_true, forall_const, true_implies, false_and, and_false, or_false, false_or, Classical.not_not, true_or, or_true, no_b, no_eq1, eq_self, and_self, sk_301, sk_302, sl_302, sp_301, re_10, re_n, z, mw_re, mw_mw, e8])
                  | (with_reducible refine ev_gid ?_; simp (disch := first | omega | assumption) only [ev_run_c, ev_run_n, ev_fj, ev_stp, ev_lk, ev_fv, ev_as, ev_sz, ev_st1, ev_st2, ev_rm, ev_pk, ev_Jof, ev_go, lv_args, List.map_cons, List.map_nil, List.zip_cons_cons, List.zip_nil_left, List.zip_nil_right, List.nil_append, List.cons_append, ↓reduceIte, reduceCtorEq, Int.reduceToNat, Nat.reduceEqDiff, Nat.reduceAdd, Nat.reduceLT, Nat.reduceLeDiff, Nat.reduceMul, Nat.reduceSub, Value.category, false_implies, true_and, and_true, Bool.false_eq_true, Option.some.injEq, exists_eq_left', Option.toList_some, Option.toList_none, ev_km, ev_k2, ev_k3, ev_k4, ev_k5, ev_l0, ev_l1, sh_1, sh_2, sh_3, sh_4, sh_5, at_X11_readsTaster_29, at_X11_readsTaster_30, at_X11_readsTaster_47, at_X11_readsTaster_78, at_X11_readsTaster_84, at_X11_readsTaster_98, ca_X11_118, ca_X11_133, ca_X11_137, ca_X11_140, ca_X11_149, ca_X11_153, cd_X11_readsTaster_0, cd_X11_readsTaster_29, cd_X11_readsTaster_30, cd_X11_readsTaster_47, cd_X11_readsTaster_78, cd_X11_readsTaster_84, cd_X11_readsTaster_98, fl_X11_62, ev_b_6, ev_b_9, no_0, no_1, no_lt, no_le, no_eq, no_lt0, no_ge0, no_gt0, no_le0, no_eq0, no_0eq, no_eqm, no_meq, no_m0, no_mlt, no_mge, no_mgt, no_mm, no_i01, no_i10, no_in, no_or, no_ifm, no_mul, nI_add, no_sub, pk_div, iI_if, nI_clamp, oI_n, oI_s, not_true_eq_false, not_false_eq_true, forall_const, true_implies, false_and, and_false, or_false, false_or, Classical.not_not, true_or, or_true, no_b, no_eq1, eq_self, and_self, sk_301, sk_302, sl_302, sp_301, re_10, re_n, z, mw_re, mw_mw, e8])
                  | (with_reducible refine And.intro (fun q => ?_) (fun q => ?_) <;> (try simp (disch := first | omega | assumption) only [no_0, no_1, no_lt, no_le, no_eq, no_lt0, no_ge0, no_gt0, no_le0, no_eq0, no_0eq, no_eqm, no_meq, no_m0, no_mlt, no_mge, no_mgt, no_mm, no_i01, no_i10, no_in, no_or, no_ifm, no_mul, nI_add, no_sub, pk_div, iI_if, nI_clamp, oI_n, oI_s, not_true_eq_false, not_false_eq_true, forall_const, true_implies, false_and, and_false, or_false, false_or, Classical.not_not, true_or, or_true, no_b, no_eq1, eq_self, and_self, sk_301, sk_302, sl_302, sp_301, re_10, re_n, z, mw_re, mw_mw, e8] at q))
                  | (with_reducible refine ev_ci hrn ?_)
                  | (with_reducible refine ev_ci hpt ?_)
                  | with_reducible refine ev_ci (m_go hok (by first | with_reducible assumption | exact RB_mw (by with_reducible assumption)) ?_) ?_
                  | with_reducible refine ev_ci (m_personHere hok (by with_reducible assumption) (by with_reducible assumption) (by with_reducible assumption) ?_) ?_
                  | with_reducible refine ev_ci (m_X11_isTasting hok (by first | exact MR_re (by with_reducible assumption) | exact MR_re mw_R) ?_ ?_) ?_
                  | with_reducible refine ev_ci (m_refuses1 hok ?_) ?_
                  | with_reducible refine ev_ci (m_refuses0 hok ?_) ?_
                  | with_reducible refine ev_ci (m_readNumber hok (by with_reducible assumption) ?_ (by with_reducible assumption) ?_ ?_) ?_
                  | with_reducible refine ev_ci (m_X11_puts hok (by first | exact MR_re (by with_reducible assumption) | exact MR_re mw_R) ?_ ?_) ?_
                  | omega
                  | with_reducible assumption
                  | with_reducible rfl
                  | with_reducible refine lp_nx ?_ ?_ ?_ ?_
                  | with_reducible refine lp_st ?_ ?_ ?_
                  | with_reducible refine ls_c ?_ ?_
                  | with_reducible refine vi_c ?_
                  | with_reducible refine re_c ?_
                  | with_reducible refine vz_c ?_
                  | with_reducible refine rz_c ?_
                  | exact trivial
                  | with_reducible refine And.intro ?_ ?_
                  | simp (disch := first | omega | assumption) only [ev_run_c, ev_run_n, ev_fj, ev_stp, ev_lk, ev_fv, ev_as, ev_sz, ev_st1, ev_st2, ev_rm, ev_pk, ev_Jof, ev_go, lv_args, List.map_cons, List.map_nil, List.zip_cons_cons, List.zip_nil_left, List.zip_nil_right, List.nil_append, List.cons_append, ↓reduceIte, reduceCtorEq, Int.reduceToNat, Nat.reduceEqDiff, Nat.reduceAdd, Nat.reduceLT, Nat.reduceLeDiff, Nat.reduceMul, Nat.reduceSub, Value.category, false_implies, true_and, and_true, Bool.false_eq_true, Option.some.injEq, exists_eq_left', Option.toList_some, Option.toList_none, ev_km, ev_k2, ev_k3, ev_k4, ev_k5, ev_l0, ev_l1, sh_1, sh_2, sh_3, sh_4, sh_5, at_X11_readsTaster_29, at_X11_readsTaster_30, at_X11_readsTaster_47, at_X11_readsTaster_78, at_X11_readsTaster_84, at_X11_readsTaster_98, ca_X11_118, ca_X11_133, ca_X11_137, ca_X11_140, ca_X11_149, ca_X11_153, cd_X11_readsTaster_0, cd_X11_readsTaster_29, cd_X11_readsTaster_30, cd_X11_readsTaster_47, cd_X11_readsTaster_78, cd_X11_readsTaster_84, cd_X11_readsTaster_98, fl_X11_62, ev_b_6, ev_b_9, no_0, no_1, no_lt, no_le, no_eq, no_lt0, no_ge0, no_gt0, no_le0, no_eq0, no_0eq, no_eqm, no_meq, no_m0, no_mlt, no_mge, no_mgt, no_mm, no_i01, no_i10, no_in, no_or, no_ifm, no_mul, nI_add, no_sub, pk_div, iI_if, nI_clamp, oI_n, oI_s, not_true_eq_false, not_false_eq_true, forall_const, true_implies, false_and, and_false, or_false, false_or, Classical.not_not, true_or, or_true, no_b, no_eq1, eq_self, and_self, sk_301, sk_302, sl_302, sp_301, re_10, re_n, z, mw_re, mw_mw, e8]
                  | exact rfl
                  | (split <;> omega))
              · rw [if_neg z] at e8 hrn
                have y : ((rN B n (T k).1 (T k).2.1 0 10).1 = 0) = False := eq_false z
                repeat' (first
                  | (with_reducible refine ev_rid ?_; simp (disch := first | omega | assumption) only [ev_run_c, ev_run_n, ev_fj, ev_stp, ev_lk, ev_fv, ev_as, ev_sz, ev_st1, ev_st2, ev_rm, ev_pk, ev_Jof, ev_go, lv_args, List.map_cons, List.map_nil, List.zip_cons_cons, List.zip_nil_left, List.zip_nil_right, List.nil_append, List.cons_append, ↓reduceIte, reduceCtorEq, Int.reduceToNat, Nat.reduceEqDiff, Nat.reduceAdd, Nat.reduceLT, Nat.reduceLeDiff, Nat.reduceMul, Nat.reduceSub, Value.category, false_implies, true_and, and_true, Bool.false_eq_true, Option.some.injEq, exists_eq_left', Option.toList_some, Option.toList_none, ev_km, ev_k2, ev_k3, ev_k4, ev_k5, ev_l0, ev_l1, sh_1, sh_2, sh_3, sh_4, sh_5, at_X11_readsTaster_29, at_X11_readsTaster_30, at_X11_readsTaster_47, at_X11_readsTaster_78, at_X11_readsTaster_84, at_X11_readsTaster_98, ca_X11_118, ca_X11_133, ca_X11_137, ca_X11_140, ca_X11_149, ca_X11_153, cd_X11_readsTaster_0, cd_X11_readsTaster_29, cd_X11_readsTaster_30, cd_X11_readsTaster_47, cd_X11_readsTaster_78, cd_X11_readsTaster_84, cd_X11_readsTaster_98, fl_X11_62, ev_b_6, ev_b_9, no_0, no_1, no_lt, no_le, no_eq, no_lt0, no_ge0, no_gt0, no_le0, no_eq0, no_0eq, no_eqm, no_meq, no_m0, no_mlt, no_mge, no_mgt, no_mm, no_i01, no_i10, no_in, no_or, no_ifm, no_mul, nI_add, no_sub, pk_div, iI_if, nI_clamp, oI_n, oI_s, not_true_eq_false, not_false_eq_true, forall_const, true_implies, false_and, and_false, or_false, false_or, Classical.not_not, true_or, or_true, no_b, no_eq1, eq_self, and_self, sk_301, sk_302, sl_302, sp_301, re_10, re_n, y, mw_re, mw_mw, e8])
                  | (with_reducible refine ev_gid ?_; simp (disch := first | omega | assumption) only [ev_run_c, ev_run_n, ev_fj, ev_stp, ev_lk, ev_fv, ev_as, ev_sz, ev_st1, ev_st2, ev_rm, ev_pk, ev_Jof, ev_go, lv_args, List.map_cons, List.map_nil, List.zip_cons_cons, List.zip_nil_left, List.zip_nil_right, List.nil_append, List.cons_append, ↓reduceIte, reduceCtorEq, Int.reduceToNat, Nat.reduceEqDiff, Nat.reduceAdd, Nat.reduceLT, Nat.reduceLeDiff, Nat.reduceMul, Nat.reduceSub, Value.category, false_implies, true_and, and_true, Bool.false_eq_true, Option.some.injEq, exists_eq_left', Option.toList_some, Option.toList_none, ev_km, ev_k2, ev_k3, ev_k4, ev_k5, ev_l0, ev_l1, sh_1, sh_2, sh_3, sh_4, sh_5, at_X11_readsTaster_29, at_X11_readsTaster_30, at_X11_readsTaster_47, at_X11_readsTaster_78, at_X11_readsTaster_84, at_X11_readsTaster_98, ca_X11_118, ca_X11_133, ca_X11_137, ca_X11_140, ca_X11_149, ca_X11_153, cd_X11_readsTaster_0, cd_X11_readsTaster_29, cd_X11_readsTaster_30, cd_X11_readsTaster_47, cd_X11_readsTaster_78, cd_X11_readsTaster_84, cd_X11_readsTaster_98, fl_X11_62, ev_b_6, ev_b_9, no_0, no_1, no_lt, no_le, no_eq, no_lt0, no_ge0, no_gt0, no_le0, no_eq0, no_0eq, no_eqm, no_meq, no_m0, no_mlt, no_mge, no_mgt, no_mm, no_i01, no_i10, no_in, no_or, no_ifm, no_mul, nI_add, no_sub, pk_div, iI_if, nI_clamp, oI_n, oI_s, not_true_eq_false, not_false_eq_true, forall_const, true_implies, false_and, and_false, or_false, false_or, Classical.not_not, true_or, or_true, no_b, no_eq1, eq_self, and_self, sk_301, sk_302, sl_302, sp_301, re_10, re_n, y, mw_re, mw_mw, e8])
                  | (with_reducible refine And.intro (fun q => ?_) (fun q => ?_) <;> (try simp (disch := first | omega | assumption) only [no_0, no_1, no_lt, no_le, no_eq, no_lt0, no_ge0, no_gt0, no_le0, no_eq0, no_0eq, no_eqm, no_meq, no_m0, no_mlt, no_mge, no_mgt, no_mm, no_i01, no_i10, no_in, no_or, no_ifm, no_mul, nI_add, no_sub, pk_div, iI_if, nI_clamp, oI_n, oI_s, not_true_eq_false, not_false_eq_true, forall_const, true_implies, false_and, and_false, or_false, false_or, Classical.not_not, true_or, or_true, no_b, no_eq1, eq_self, and_self, sk_301, sk_302, sl_302, sp_301, re_10, re_n, y, mw_re, mw_mw, e8] at q))
                  | (with_reducible refine ev_ci hrn ?_)
                  | with_reducible refine ev_ci (m_go hok (by first | with_reducible assumption | exact RB_mw (by with_reducible assumption)) ?_) ?_
                  | with_reducible refine ev_ci (m_personHere hok (by with_reducible assumption) (by with_reducible assumption) (by with_reducible assumption) ?_) ?_
                  | with_reducible refine ev_ci (m_X11_isTasting hok (by first | exact MR_re (by with_reducible assumption) | exact MR_re mw_R) ?_ ?_) ?_
                  | with_reducible refine ev_ci (m_refuses1 hok ?_) ?_
                  | with_reducible refine ev_ci (m_refuses0 hok ?_) ?_
                  | with_reducible refine ev_ci (m_readNumber hok (by with_reducible assumption) ?_ (by with_reducible assumption) ?_ ?_) ?_
                  | with_reducible refine ev_ci (m_X11_puts hok (by first | exact MR_re (by with_reducible assumption) | exact MR_re mw_R) ?_ ?_) ?_
                  | omega
                  | with_reducible assumption
                  | with_reducible rfl
                  | with_reducible refine lp_nx ?_ ?_ ?_ ?_
                  | with_reducible refine lp_st ?_ ?_ ?_
                  | with_reducible refine ls_c ?_ ?_
                  | with_reducible refine vi_c ?_
                  | with_reducible refine re_c ?_
                  | with_reducible refine vz_c ?_
                  | with_reducible refine rz_c ?_
                  | exact trivial
                  | with_reducible refine And.intro ?_ ?_
                  | simp (disch := first | omega | assumption) only [ev_run_c, ev_run_n, ev_fj, ev_stp, ev_lk, ev_fv, ev_as, ev_sz, ev_st1, ev_st2, ev_rm, ev_pk, ev_Jof, ev_go, lv_args, List.map_cons, List.map_nil, List.zip_cons_cons, List.zip_nil_left, List.zip_nil_right, List.nil_append, List.cons_append, ↓reduceIte, reduceCtorEq, Int.reduceToNat, Nat.reduceEqDiff, Nat.reduceAdd, Nat.reduceLT, Nat.reduceLeDiff, Nat.reduceMul, Nat.reduceSub, Value.category, false_implies, true_and, and_true, Bool.false_eq_true, Option.some.injEq, exists_eq_left', Option.toList_some, Option.toList_none, ev_km, ev_k2, ev_k3, ev_k4, ev_k5, ev_l0, ev_l1, sh_1, sh_2, sh_3, sh_4, sh_5, at_X11_readsTaster_29, at_X11_readsTaster_30, at_X11_readsTaster_47, at_X11_readsTaster_78, at_X11_readsTaster_84, at_X11_readsTaster_98, ca_X11_118, ca_X11_133, ca_X11_137, ca_X11_140, ca_X11_149, ca_X11_153, cd_X11_readsTaster_0, cd_X11_readsTaster_29, cd_X11_readsTaster_30, cd_X11_readsTaster_47, cd_X11_readsTaster_78, cd_X11_readsTaster_84, cd_X11_readsTaster_98, fl_X11_62, ev_b_6, ev_b_9, no_0, no_1, no_lt, no_le, no_eq, no_lt0, no_ge0, no_gt0, no_le0, no_eq0, no_0eq, no_eqm, no_meq, no_m0, no_mlt, no_mge, no_mgt, no_mm, no_i01, no_i10, no_in, no_or, no_ifm, no_mul, nI_add, no_sub, pk_div, iI_if, nI_clamp, oI_n, oI_s, not_true_eq_false, not_false_eq_true, forall_const, true_implies, false_and, and_false, or_false, false_or, Classical.not_not, true_or, or_true, no_b, no_eq1, eq_self, and_self, sk_301, sk_302, sl_302, sp_301, re_10, re_n, y, mw_re, mw_mw, e8]
                  | exact rfl
                  | (split <;> omega))
            · have hkn : k = 4 := by omega
              subst hkn
              by_cases z : (T 4).1.1 = 0
              · have hf := hf1 z
                subst hf
                have hpt := m_X11_puts (μ := re B n (T 4).1 (T 4).2.1 (T 4).2.2.1 (mw μ (T 4).2.2.2)) (v := tvl B n (a + 1 + 1)) hok (MR_re (N := (T 4).2.2.2) mw_R) (i := i) (w := 1) bi (by omega)
                repeat' (first
                  | (with_reducible refine ev_rid ?_; simp (disch := first | omega | assumption) only [ev_run_c, ev_run_n, ev_fj, ev_stp, ev_lk, ev_fv, ev_as, ev_sz, ev_st1, ev_st2, ev_rm, ev_pk, ev_Jof, ev_go, lv_args, List.map_cons, List.map_nil, List.zip_cons_cons, List.zip_nil_left, List.zip_nil_right, List.nil_append, List.cons_append, ↓reduceIte, reduceCtorEq, Int.reduceToNat, Nat.reduceEqDiff, Nat.reduceAdd, Nat.reduceLT, Nat.reduceLeDiff, Nat.reduceMul, Nat.reduceSub, Value.category, false_implies, true_and, and_true, Bool.false_eq_true, Option.some.injEq, exists_eq_left', Option.toList_some, Option.toList_none, ev_km, ev_k2, ev_k3, ev_k4, ev_k5, ev_l0, ev_l1, sh_1, sh_2, sh_3, sh_4, sh_5, at_X11_readsTaster_29, at_X11_readsTaster_30, at_X11_readsTaster_47, at_X11_readsTaster_78, at_X11_readsTaster_84, at_X11_readsTaster_98, ca_X11_118, ca_X11_133, ca_X11_137, ca_X11_140, ca_X11_149, ca_X11_153, cd_X11_readsTaster_0, cd_X11_readsTaster_29, cd_X11_readsTaster_30, cd_X11_readsTaster_47, cd_X11_readsTaster_78, cd_X11_readsTaster_84, cd_X11_readsTaster_98, fl_X11_62, ev_b_6, ev_b_9, no_0, no_1, no_lt, no_le, no_eq, no_lt0, no_ge0, no_gt0, no_le0, no_eq0, no_0eq, no_eqm, no_meq, no_m0, no_mlt, no_mge, no_mgt, no_mm, no_i01, no_i10, no_in, no_or, no_ifm, no_mul, nI_add, no_sub, pk_div, iI_if, nI_clamp, oI_n, oI_s, not_true_eq_false, not_false_eq_true, forall_const, true_implies, false_and, and_false, or_false, false_or, Classical.not_not, true_or, or_true, no_b, no_eq1, eq_self, and_self, sk_301, sk_302, sl_302, sp_301, re_10, re_n, z, mw_re, mw_mw])
                  | (with_reducible refine ev_gid ?_; simp (disch := first | omega | assumption) only [ev_run_c, ev_run_n, ev_fj, ev_stp, ev_lk, ev_fv, ev_as, ev_sz, ev_st1, ev_st2, ev_rm, ev_pk, ev_Jof, ev_go, lv_args, List.map_cons, List.map_nil, List.zip_cons_cons, List.zip_nil_left, List.zip_nil_right, List.nil_append, List.cons_append, ↓reduceIte, reduceCtorEq, Int.reduceToNat, Nat.reduceEqDiff, Nat.reduceAdd, Nat.reduceLT, Nat.reduceLeDiff, Nat.reduceMul, Nat.reduceSub, Value.category, false_implies, true_and, and_true, Bool.false_eq_true, Option.some.injEq, exists_eq_left', Option.toList_some, Option.toList_none, ev_km, ev_k2, ev_k3, ev_k4, ev_k5, ev_l0, ev_l1, sh_1, sh_2, sh_3, sh_4, sh_5, at_X11_readsTaster_29, at_X11_readsTaster_30, at_X11_readsTaster_47, at_X11_readsTaster_78, at_X11_readsTaster_84, at_X11_readsTaster_98, ca_X11_118, ca_X11_133, ca_X11_137, ca_X11_140, ca_X11_149, ca_X11_153, cd_X11_readsTaster_0, cd_X11_readsTaster_29, cd_X11_readsTaster_30, cd_X11_readsTaster_47, cd_X11_readsTaster_78, cd_X11_readsTaster_84, cd_X11_readsTaster_98, fl_X11_62, ev_b_6, ev_b_9, no_0, no_1, no_lt, no_le, no_eq, no_lt0, no_ge0, no_gt0, no_le0, no_eq0, no_0eq, no_eqm, no_meq, no_m0, no_mlt, no_mge, no_mgt, no_mm, no_i01, no_i10, no_in, no_or, no_ifm, no_mul, nI_add, no_sub, pk_div, iI_if, nI_clamp, oI_n, oI_s, not_true_eq_false, not_false_eq_true, forall_const, true_implies, false_and, and_false, or_false, false_or, Classical.not_not, true_or, or_true, no_b, no_eq1, eq_self, and_self, sk_301, sk_302, sl_302, sp_301, re_10, re_n, z, mw_re, mw_mw])
                  | (with_reducible refine And.intro (fun q => ?_) (fun q => ?_) <;> (try simp (disch := first | omega | assumption) only [no_0, no_1, no_lt, no_le, no_eq, no_lt0, no_ge0, no_gt0, no_le0, no_eq0, no_0eq, no_eqm, no_meq, no_m0, no_mlt, no_mge, no_mgt, no_mm, no_i01, no_i10, no_in, no_or, no_ifm, no_mul, nI_add, no_sub, pk_div, iI_if, nI_clamp, oI_n, oI_s, not_true_eq_false, not_false_eq_true, forall_const, true_implies, false_and, and_false, or_false, false_or, Classical.not_not, true_or, or_true, no_b, no_eq1, eq_self, and_self, sk_301, sk_302, sl_302, sp_301, re_10, re_n, z, mw_re, mw_mw] at q))
                  | (with_reducible refine ev_ci hpt ?_)
                  | with_reducible refine ev_ci (m_go hok (by first | with_reducible assumption | exact RB_mw (by with_reducible assumption)) ?_) ?_
                  | with_reducible refine ev_ci (m_personHere hok (by with_reducible assumption) (by with_reducible assumption) (by with_reducible assumption) ?_) ?_
                  | with_reducible refine ev_ci (m_X11_isTasting hok (by first | exact MR_re (by with_reducible assumption) | exact MR_re mw_R) ?_ ?_) ?_
                  | with_reducible refine ev_ci (m_refuses1 hok ?_) ?_
                  | with_reducible refine ev_ci (m_refuses0 hok ?_) ?_
                  | with_reducible refine ev_ci (m_readNumber hok (by with_reducible assumption) ?_ (by with_reducible assumption) ?_ ?_) ?_
                  | with_reducible refine ev_ci (m_X11_puts hok (by first | exact MR_re (by with_reducible assumption) | exact MR_re mw_R) ?_ ?_) ?_
                  | omega
                  | with_reducible assumption
                  | with_reducible rfl
                  | with_reducible refine lp_nx ?_ ?_ ?_ ?_
                  | with_reducible refine lp_st ?_ ?_ ?_
                  | with_reducible refine ls_c ?_ ?_
                  | with_reducible refine vi_c ?_
                  | with_reducible refine re_c ?_
                  | with_reducible refine vz_c ?_
                  | with_reducible refine rz_c ?_
                  | exact trivial
                  | with_reducible refine And.intro ?_ ?_
                  | simp (disch := first | omega | assumption) only [ev_run_c, ev_run_n, ev_fj, ev_stp, ev_lk, ev_fv, ev_as, ev_sz, ev_st1, ev_st2, ev_rm, ev_pk, ev_Jof, ev_go, lv_args, List.map_cons, List.map_nil, List.zip_cons_cons, List.zip_nil_left, List.zip_nil_right, List.nil_append, List.cons_append, ↓reduceIte, reduceCtorEq, Int.reduceToNat, Nat.reduceEqDiff, Nat.reduceAdd, Nat.reduceLT, Nat.reduceLeDiff, Nat.reduceMul, Nat.reduceSub, Value.category, false_implies, true_and, and_true, Bool.false_eq_true, Option.some.injEq, exists_eq_left', Option.toList_some, Option.toList_none, ev_km, ev_k2, ev_k3, ev_k4, ev_k5, ev_l0, ev_l1, sh_1, sh_2, sh_3, sh_4, sh_5, at_X11_readsTaster_29, at_X11_readsTaster_30, at_X11_readsTaster_47, at_X11_readsTaster_78, at_X11_readsTaster_84, at_X11_readsTaster_98, ca_X11_118, ca_X11_133, ca_X11_137, ca_X11_140, ca_X11_149, ca_X11_153, cd_X11_readsTaster_0, cd_X11_readsTaster_29, cd_X11_readsTaster_30, cd_X11_readsTaster_47, cd_X11_readsTaster_78, cd_X11_readsTaster_84, cd_X11_readsTaster_98, fl_X11_62, ev_b_6, ev_b_9, no_0, no_1, no_lt, no_le, no_eq, no_lt0, no_ge0, no_gt0, no_le0, no_eq0, no_0eq, no_eqm, no_meq, no_m0, no_mlt, no_mge, no_mgt, no_mm, no_i01, no_i10, no_in, no_or, no_ifm, no_mul, nI_add, no_sub, pk_div, iI_if, nI_clamp, oI_n, oI_s, not_true_eq_false, not_false_eq_true, forall_const, true_implies, false_and, and_false, or_false, false_or, Classical.not_not, true_or, or_true, no_b, no_eq1, eq_self, and_self, sk_301, sk_302, sl_302, sp_301, re_10, re_n, z, mw_re, mw_mw]
                  | exact rfl
                  | (split <;> omega))
              · have hf := hf2 z
                subst hf
                have y : ((T 4).1.1 = 0) = False := eq_false z
                repeat' (first
                  | (with_reducible refine ev_rid ?_; simp (disch := first | omega | assumption) only [ev_run_c, ev_run_n, ev_fj, ev_stp, ev_lk, ev_fv, ev_as, ev_sz, ev_st1, ev_st2, ev_rm, ev_pk, ev_Jof, ev_go, lv_args, List.map_cons, List.map_nil, List.zip_cons_cons, List.zip_nil_left, List.zip_nil_right, List.nil_append, List.cons_append, ↓reduceIte, reduceCtorEq, Int.reduceToNat, Nat.reduceEqDiff, Nat.reduceAdd, Nat.reduceLT, Nat.reduceLeDiff, Nat.reduceMul, Nat.reduceSub, Value.category, false_implies, true_and, and_true, Bool.false_eq_true, Option.some.injEq, exists_eq_left', Option.toList_some, Option.toList_none, ev_km, ev_k2, ev_k3, ev_k4, ev_k5, ev_l0, ev_l1, sh_1, sh_2, sh_3, sh_4, sh_5, at_X11_readsTaster_29, at_X11_readsTaster_30, at_X11_readsTaster_47, at_X11_readsTaster_78, at_X11_readsTaster_84, at_X11_readsTaster_98, ca_X11_118, ca_X11_133, ca_X11_137, ca_X11_140, ca_X11_149, ca_X11_153, cd_X11_readsTaster_0, cd_X11_readsTaster_29, cd_X11_readsTaster_30, cd_X11_readsTaster_47, cd_X11_readsTaster_78, cd_X11_readsTaster_84, cd_X11_readsTaster_98, fl_X11_62, ev_b_6, ev_b_9, no_0, no_1, no_lt, no_le, no_eq, no_lt0, no_ge0, no_gt0, no_le0, no_eq0, no_0eq, no_eqm, no_meq, no_m0, no_mlt, no_mge, no_mgt, no_mm, no_i01, no_i10, no_in, no_or, no_ifm, no_mul, nI_add, no_sub, pk_div, iI_if, nI_clamp, oI_n, oI_s, not_true_eq_false, not_false_eq_true, forall_const, true_implies, false_and, and_false, or_false, false_or, Classical.not_not, true_or, or_true, no_b, no_eq1, eq_self, and_self, sk_301, sk_302, sl_302, sp_301, re_10, re_n, y, mw_re, mw_mw])
                  | (with_reducible refine ev_gid ?_; simp (disch := first | omega | assumption) only [ev_run_c, ev_run_n, ev_fj, ev_stp, ev_lk, ev_fv, ev_as, ev_sz, ev_st1, ev_st2, ev_rm, ev_pk, ev_Jof, ev_go, lv_args, List.map_cons, List.map_nil, List.zip_cons_cons, List.zip_nil_left, List.zip_nil_right, List.nil_append, List.cons_append, ↓reduceIte, reduceCtorEq, Int.reduceToNat, Nat.reduceEqDiff, Nat.reduceAdd, Nat.reduceLT, Nat.reduceLeDiff, Nat.reduceMul, Nat.reduceSub, Value.category, false_implies, true_and, and_true, Bool.false_eq_true, Option.some.injEq, exists_eq_left', Option.toList_some, Option.toList_none, ev_km, ev_k2, ev_k3, ev_k4, ev_k5, ev_l0, ev_l1, sh_1, sh_2, sh_3, sh_4, sh_5, at_X11_readsTaster_29, at_X11_readsTaster_30, at_X11_readsTaster_47, at_X11_readsTaster_78, at_X11_readsTaster_84, at_X11_readsTaster_98, ca_X11_118, ca_X11_133, ca_X11_137, ca_X11_140, ca_X11_149, ca_X11_153, cd_X11_readsTaster_0, cd_X11_readsTaster_29, cd_X11_readsTaster_30, cd_X11_readsTaster_47, cd_X11_readsTaster_78, cd_X11_readsTaster_84, cd_X11_readsTaster_98, fl_X11_62, ev_b_6, ev_b_9, no_0, no_1, no_lt, no_le, no_eq, no_lt0, no_ge0, no_gt0, no_le0, no_eq0, no_0eq, no_eqm, no_meq, no_m0, no_mlt, no_mge, no_mgt, no_mm, no_i01, no_i10, no_in, no_or, no_ifm, no_mul, nI_add, no_sub, pk_div, iI_if, nI_clamp, oI_n, oI_s, not_true_eq_false, not_false_eq_true, forall_const, true_implies, false_and, and_false, or_false, false_or, Classical.not_not, true_or, or_true, no_b, no_eq1, eq_self, and_self, sk_301, sk_302, sl_302, sp_301, re_10, re_n, y, mw_re, mw_mw])
                  | (with_reducible refine And.intro (fun q => ?_) (fun q => ?_) <;> (try simp (disch := first | omega | assumption) only [no_0, no_1, no_lt, no_le, no_eq, no_lt0, no_ge0, no_gt0, no_le0, no_eq0, no_0eq, no_eqm, no_meq, no_m0, no_mlt, no_mge, no_mgt, no_mm, no_i01, no_i10, no_in, no_or, no_ifm, no_mul, nI_add, no_sub, pk_div, iI_if, nI_clamp, oI_n, oI_s, not_true_eq_false, not_false_eq_true, forall_const, true_implies, false_and, and_false, or_false, false_or, Classical.not_not, true_or, or_true, no_b, no_eq1, eq_self, and_self, sk_301, sk_302, sl_302, sp_301, re_10, re_n, y, mw_re, mw_mw] at q))
                  | with_reducible refine ev_ci (m_go hok (by first | with_reducible assumption | exact RB_mw (by with_reducible assumption)) ?_) ?_
                  | with_reducible refine ev_ci (m_personHere hok (by with_reducible assumption) (by with_reducible assumption) (by with_reducible assumption) ?_) ?_
                  | with_reducible refine ev_ci (m_X11_isTasting hok (by first | exact MR_re (by with_reducible assumption) | exact MR_re mw_R) ?_ ?_) ?_
                  | with_reducible refine ev_ci (m_refuses1 hok ?_) ?_
                  | with_reducible refine ev_ci (m_refuses0 hok ?_) ?_
                  | with_reducible refine ev_ci (m_readNumber hok (by with_reducible assumption) ?_ (by with_reducible assumption) ?_ ?_) ?_
                  | with_reducible refine ev_ci (m_X11_puts hok (by first | exact MR_re (by with_reducible assumption) | exact MR_re mw_R) ?_ ?_) ?_
                  | omega
                  | with_reducible assumption
                  | with_reducible rfl
                  | with_reducible refine lp_nx ?_ ?_ ?_ ?_
                  | with_reducible refine lp_st ?_ ?_ ?_
                  | with_reducible refine ls_c ?_ ?_
                  | with_reducible refine vi_c ?_
                  | with_reducible refine re_c ?_
                  | with_reducible refine vz_c ?_
                  | with_reducible refine rz_c ?_
                  | exact trivial
                  | with_reducible refine And.intro ?_ ?_
                  | simp (disch := first | omega | assumption) only [ev_run_c, ev_run_n, ev_fj, ev_stp, ev_lk, ev_fv, ev_as, ev_sz, ev_st1, ev_st2, ev_rm, ev_pk, ev_Jof, ev_go, lv_args, List.map_cons, List.map_nil, List.zip_cons_cons, List.zip_nil_left, List.zip_nil_right, List.nil_append, List.cons_append, ↓reduceIte, reduceCtorEq, Int.reduceToNat, Nat.reduceEqDiff, Nat.reduceAdd, Nat.reduceLT, Nat.reduceLeDiff, Nat.reduceMul, Nat.reduceSub, Value.category, false_implies, true_and, and_true, Bool.false_eq_true, Option.some.injEq, exists_eq_left', Option.toList_some, Option.toList_none, ev_km, ev_k2, ev_k3, ev_k4, ev_k5, ev_l0, ev_l1, sh_1, sh_2, sh_3, sh_4, sh_5, at_X11_readsTaster_29, at_X11_readsTaster_30, at_X11_readsTaster_47, at_X11_readsTaster_78, at_X11_readsTaster_84, at_X11_readsTaster_98, ca_X11_118, ca_X11_133, ca_X11_137, ca_X11_140, ca_X11_149, ca_X11_153, cd_X11_readsTaster_0, cd_X11_readsTaster_29, cd_X11_readsTaster_30, cd_X11_readsTaster_47, cd_X11_readsTaster_78, cd_X11_readsTaster_84, cd_X11_readsTaster_98, fl_X11_62, ev_b_6, ev_b_9, no_0, no_1, no_lt, no_le, no_eq, no_lt0, no_ge0, no_gt0, no_le0, no_eq0, no_0eq, no_eqm, no_meq, no_m0, no_mlt, no_mge, no_mgt, no_mm, no_i01, no_i10, no_in, no_or, no_ifm, no_mul, nI_add, no_sub, pk_div, iI_if, nI_clamp, oI_n, oI_s, not_true_eq_false, not_false_eq_true, forall_const, true_implies, false_and, and_false, or_false, false_or, Classical.not_not, true_or, or_true, no_b, no_eq1, eq_self, and_self, sk_301, sk_302, sl_302, sp_301, re_10, re_n, y, mw_re, mw_mw]
                  | exact rfl
                  | (split <;> omega))
          · rw [at_X11_readsTaster_0]
            have e9 : mw μ N = μ := mw_self hN
            repeat' (first
              | (with_reducible refine ev_rid ?_; simp (disch := first | omega | assumption) only [ev_run_c, ev_run_n, ev_fj, ev_stp, ev_lk, ev_fv, ev_as, ev_sz, ev_st1, ev_st2, ev_rm, ev_pk, ev_Jof, ev_go, lv_args, List.map_cons, List.map_nil, List.zip_cons_cons, List.zip_nil_left, List.zip_nil_right, List.nil_append, List.cons_append, ↓reduceIte, reduceCtorEq, Int.reduceToNat, Nat.reduceEqDiff, Nat.reduceAdd, Nat.reduceLT, Nat.reduceLeDiff, Nat.reduceMul, Nat.reduceSub, Value.category, false_implies, true_and, and_true, Bool.false_eq_true, Option.some.injEq, exists_eq_left', Option.toList_some, Option.toList_none, ev_km, ev_k2, ev_k3, ev_k4, ev_k5, ev_l0, ev_l1, sh_1, sh_2, sh_3, sh_4, sh_5, at_X11_readsTaster_29, at_X11_readsTaster_30, at_X11_readsTaster_47, at_X11_readsTaster_78, at_X11_readsTaster_84, at_X11_readsTaster_98, ca_X11_118, ca_X11_133, ca_X11_137, ca_X11_140, ca_X11_149, ca_X11_153, cd_X11_readsTaster_0, cd_X11_readsTaster_29, cd_X11_readsTaster_30, cd_X11_readsTaster_47, cd_X11_readsTaster_78, cd_X11_readsTaster_84, cd_X11_readsTaster_98, fl_X11_62, ev_b_6, ev_b_9, no_0, no_1, no_lt, no_le, no_eq, no_lt0, no_ge0, no_gt0, no_le0, no_eq0, no_0eq, no_eqm, no_meq, no_m0, no_mlt, no_mge, no_mgt, no_mm, no_i01, no_i10, no_in, no_or, no_ifm, no_mul, nI_add, no_sub, pk_div, iI_if, nI_clamp, oI_n, oI_s, not_true_eq_false, not_false_eq_true, forall_const, true_implies, false_and, and_false, or_false, false_or, Classical.not_not, true_or, or_true, no_b, no_eq1, eq_self, and_self, sk_301, sk_302, sl_302, sp_301, n0, w0, re_10, re_n, f1, z1, p1, n1, w1, f2, z2, n2, w2, q0, e9])
              | (with_reducible refine ev_gid ?_; simp (disch := first | omega | assumption) only [ev_run_c, ev_run_n, ev_fj, ev_stp, ev_lk, ev_fv, ev_as, ev_sz, ev_st1, ev_st2, ev_rm, ev_pk, ev_Jof, ev_go, lv_args, List.map_cons, List.map_nil, List.zip_cons_cons, List.zip_nil_left, List.zip_nil_right, List.nil_append, List.cons_append, ↓reduceIte, reduceCtorEq, Int.reduceToNat, Nat.reduceEqDiff, Nat.reduceAdd, Nat.reduceLT, Nat.reduceLeDiff, Nat.reduceMul, Nat.reduceSub, Value.category, false_implies, true_and, and_true, Bool.false_eq_true, Option.some.injEq, exists_eq_left', Option.toList_some, Option.toList_none, ev_km, ev_k2, ev_k3, ev_k4, ev_k5, ev_l0, ev_l1, sh_1, sh_2, sh_3, sh_4, sh_5, at_X11_readsTaster_29, at_X11_readsTaster_30, at_X11_readsTaster_47, at_X11_readsTaster_78, at_X11_readsTaster_84, at_X11_readsTaster_98, ca_X11_118, ca_X11_133, ca_X11_137, ca_X11_140, ca_X11_149, ca_X11_153, cd_X11_readsTaster_0, cd_X11_readsTaster_29, cd_X11_readsTaster_30, cd_X11_readsTaster_47, cd_X11_readsTaster_78, cd_X11_readsTaster_84, cd_X11_readsTaster_98, fl_X11_62, ev_b_6, ev_b_9, no_0, no_1, no_lt, no_le, no_eq, no_lt0, no_ge0, no_gt0, no_le0, no_eq0, no_0eq, no_eqm, no_meq, no_m0, no_mlt, no_mge, no_mgt, no_mm, no_i01, no_i10, no_in, no_or, no_ifm, no_mul, nI_add, no_sub, pk_div, iI_if, nI_clamp, oI_n, oI_s, not_true_eq_false, not_false_eq_true, forall_const, true_implies, false_and, and_false, or_false, false_or, Classical.not_not, true_or, or_true, no_b, no_eq1, eq_self, and_self, sk_301, sk_302, sl_302, sp_301, n0, w0, re_10, re_n, f1, z1, p1, n1, w1, f2, z2, n2, w2, q0, e9])
              | (with_reducible refine And.intro (fun q => ?_) (fun q => ?_) <;> (try simp (disch := first | omega | assumption) only [no_0, no_1, no_lt, no_le, no_eq, no_lt0, no_ge0, no_gt0, no_le0, no_eq0, no_0eq, no_eqm, no_meq, no_m0, no_mlt, no_mge, no_mgt, no_mm, no_i01, no_i10, no_in, no_or, no_ifm, no_mul, nI_add, no_sub, pk_div, iI_if, nI_clamp, oI_n, oI_s, not_true_eq_false, not_false_eq_true, forall_const, true_implies, false_and, and_false, or_false, false_or, Classical.not_not, true_or, or_true, no_b, no_eq1, eq_self, and_self, sk_301, sk_302, sl_302, sp_301, n0, w0, re_10, re_n, f1, z1, p1, n1, w1, f2, z2, n2, w2, q0, e9] at q))
              | (with_reducible refine ev_ci ht ?_)
              | with_reducible refine ev_ci (m_go hok (by first | with_reducible assumption | exact RB_mw (by with_reducible assumption)) ?_) ?_
              | with_reducible refine ev_ci (m_personHere hok (by with_reducible assumption) (by with_reducible assumption) (by with_reducible assumption) ?_) ?_
              | with_reducible refine ev_ci (m_X11_isTasting hok (by first | exact MR_re (by with_reducible assumption) | exact MR_re mw_R) ?_ ?_) ?_
              | with_reducible refine ev_ci (m_refuses1 hok ?_) ?_
              | with_reducible refine ev_ci (m_refuses0 hok ?_) ?_
              | with_reducible refine ev_ci (m_readNumber hok (by with_reducible assumption) ?_ (by with_reducible assumption) ?_ ?_) ?_
              | with_reducible refine ev_ci (m_X11_puts hok (by first | exact MR_re (by with_reducible assumption) | exact MR_re mw_R) ?_ ?_) ?_
              | omega
              | with_reducible assumption
              | with_reducible rfl
              | with_reducible refine lp_nx ?_ ?_ ?_ ?_
              | with_reducible refine lp_st ?_ ?_ ?_
              | with_reducible refine ls_c ?_ ?_
              | with_reducible refine vi_c ?_
              | with_reducible refine re_c ?_
              | with_reducible refine vz_c ?_
              | with_reducible refine rz_c ?_
              | exact trivial
              | with_reducible refine And.intro ?_ ?_
              | simp (disch := first | omega | assumption) only [ev_run_c, ev_run_n, ev_fj, ev_stp, ev_lk, ev_fv, ev_as, ev_sz, ev_st1, ev_st2, ev_rm, ev_pk, ev_Jof, ev_go, lv_args, List.map_cons, List.map_nil, List.zip_cons_cons, List.zip_nil_left, List.zip_nil_right, List.nil_append, List.cons_append, ↓reduceIte, reduceCtorEq, Int.reduceToNat, Nat.reduceEqDiff, Nat.reduceAdd, Nat.reduceLT, Nat.reduceLeDiff, Nat.reduceMul, Nat.reduceSub, Value.category, false_implies, true_and, and_true, Bool.false_eq_true, Option.some.injEq, exists_eq_left', Option.toList_some, Option.toList_none, ev_km, ev_k2, ev_k3, ev_k4, ev_k5, ev_l0, ev_l1, sh_1, sh_2, sh_3, sh_4, sh_5, at_X11_readsTaster_29, at_X11_readsTaster_30, at_X11_readsTaster_47, at_X11_readsTaster_78, at_X11_readsTaster_84, at_X11_readsTaster_98, ca_X11_118, ca_X11_133, ca_X11_137, ca_X11_140, ca_X11_149, ca_X11_153, cd_X11_readsTaster_0, cd_X11_readsTaster_29, cd_X11_readsTaster_30, cd_X11_readsTaster_47, cd_X11_readsTaster_78, cd_X11_readsTaster_84, cd_X11_readsTaster_98, fl_X11_62, ev_b_6, ev_b_9, no_0, no_1, no_lt, no_le, no_eq, no_lt0, no_ge0, no_gt0, no_le0, no_eq0, no_0eq, no_eqm, no_meq, no_m0, no_mlt, no_mge, no_mgt, no_mm, no_i01, no_i10, no_in, no_or, no_ifm, no_mul, nI_add, no_sub, pk_div, iI_if, nI_clamp, oI_n, oI_s, not_true_eq_false, not_false_eq_true, forall_const, true_implies, false_and, and_false, or_false, false_or, Classical.not_not, true_or, or_true, no_b, no_eq1, eq_self, and_self, sk_301, sk_302, sl_302, sp_301, n0, w0, re_10, re_n, f1, z1, p1, n1, w1, f2, z2, n2, w2, q0, e9]
              | exact rfl
              | (split <;> omega))
        by_cases z : (T 4).1.1 = 0
        · refine ⟨(T 4).2.1, (T 4).2.2.1, _, main _ (fun _ => rfl) (fun q => absurd z q), Fw_mw, (hk 4).2.1, fun _ => ⟨((hk 4).2.2.2 z).1, ?_⟩⟩
          have e9 : nI9 B n N a 2 = up (T 4).2.2.2 (8 + 59 * i + 1) (tvl B n (a + 1 + 1)) := by rw [((hk 4).2.2.2 z).2, ← hi9]; rfl
          rw [e9]
          exact mw_R
        · exact ⟨(T 4).2.1, (T 4).2.2.1, _, main _ (fun q => absurd q z) (fun _ => rfl), Fw_mw, (hk 4).2.1, fun q => absurd q z⟩
theorem re_w302 {e : Nat × Int32} {a : Nat} {v : Int32} {M : Nat → Nat} {k x : Nat} (hk : k < 1042) : w1 (re B n e a v (mw μ M)) 302 k (nI x) = re B n e a v (mw μ (up M k x)) := by
  have h := mw_up (μ := re B n e a v (mw μ M)) (N := M) (MR_re mw_R) (k := k) (v := x) hk
  rw [mw_re, mw_mw] at h
  exact h
/-- a name, letter by letter -/
def ltN (N : Nat → Nat) (i T : Nat) (f : Nat → Nat) (k : Nat) : Nat → Nat := fun x => if 8 + 59 * i + 7 ≤ x ∧ x < 8 + 59 * i + 7 + k then f (x - (8 + 59 * i + 7)) else up N (8 + 59 * i + 6) T x
theorem ltN_0 {i T : Nat} {f : Nat → Nat} : ltN N i T f 0 = up N (8 + 59 * i + 6) T := funext fun x => if_neg (by omega)
theorem ltN_s {i T k : Nat} {f : Nat → Nat} : up (ltN N i T f k) (8 + 59 * i + (7 + k)) (f k) = ltN N i T f (k + 1) := by
  funext x
  show (if x = 8 + 59 * i + (7 + k) then f k else if 8 + 59 * i + 7 ≤ x ∧ x < 8 + 59 * i + 7 + k then f (x - (8 + 59 * i + 7)) else up N (8 + 59 * i + 6) T x) = if 8 + 59 * i + 7 ≤ x ∧ x < 8 + 59 * i + 7 + (k + 1) then f (x - (8 + 59 * i + 7)) else up N (8 + 59 * i + 6) T x
  by_cases h : x = 8 + 59 * i + (7 + k)
  · rw [if_pos h, if_pos (by omega), show x - (8 + 59 * i + 7) = k by omega]
  · rw [if_neg h]
    by_cases h2 : 8 + 59 * i + 7 ≤ x ∧ x < 8 + 59 * i + 7 + k
    · rw [if_pos h2, if_pos (by omega)]
    · rw [if_neg h2, if_neg (by omega)]
theorem ltN_ap {T k : Nat} {f : Nat → Nat} : up (up (ltN N (N 0) T f T) (8 + 59 * N 0 + 0) k) 0 (N 0 + 1) = apN N T f k := by
  funext x
  show (if x = 0 then N 0 + 1 else if x = 8 + 59 * N 0 + 0 then k else if 8 + 59 * N 0 + 7 ≤ x ∧ x < 8 + 59 * N 0 + 7 + T then f (x - (8 + 59 * N 0 + 7)) else if x = 8 + 59 * N 0 + 6 then T else N x) = if x = 0 then N 0 + 1 else if x = 8 + 59 * N 0 + 0 then k else if x = 8 + 59 * N 0 + 6 then T else if 8 + 59 * N 0 + 7 ≤ x ∧ x < 8 + 59 * N 0 + 7 + T then f (x - (8 + 59 * N 0 + 7)) else N x
  by_cases h0 : x = 0
  · rw [if_pos h0, if_pos h0]
  · rw [if_neg h0, if_neg h0]
    by_cases h1 : x = 8 + 59 * N 0 + 0
    · rw [if_pos h1, if_pos h1]
    · rw [if_neg h1, if_neg h1]
      by_cases h2 : x = 8 + 59 * N 0 + 6
      · rw [if_pos h2, if_neg (by omega), if_pos h2]
      · rw [if_neg h2]
        by_cases h3 : 8 + 59 * N 0 + 7 ≤ x ∧ x < 8 + 59 * N 0 + 7 + T
        · rw [if_pos h3, if_neg h2]
        · rw [if_neg h3, if_neg h2]
set_option maxHeartbeats 4000000 in
theorem rx_person (hok : ev_ok sh_S G) (hR : RB B n μ) (hN : MR N μ) (hI : INV N) (h16 : N 0 < 16) {a : Nat} {v : Int32} (hv : NV B n a v) : RX G B n mi_X11_readsPerson a v μ (q_person B n N (a + 1)) (nI9 B n N a 1) (aI9 B n N a 1) := by
  have hh := iv_h hI
  have hN0 : μ.1 302 0 = nI (N 0) := hN 0 (by omega)
  have n0 : nx (0, -1) a = a + 1 := rfl
  have hv1 := NV_nx (B := B) (n := n) (e := (0, -1)) (a := a) hv
  rw [n0] at hv1
  generalize w0 : nW B n (0, -1) a v = v1 at hv1
  obtain ⟨e1, f1⟩ : ∃ e, rC B n (0, -1) (a + 1) = e := ⟨_, rfl⟩
  have c1 : e1.1 < 5 := by rw [← f1]; exact rC_c (by decide)
  have hq : q_person B n N (a + 1) = rN B n (er e1 (pv B n N (a + 1) < N 0) 3 (a + 1) B n) (a + 1 + 1) 0 10 := by rw [← f1]; rfl
  rw [hq]
  by_cases z1 : ¬ e1.1 = 0
  · have y : (e1.1 = 0) = False := eq_false z1
    rw [er_n z1, rN_n z1]
    refine ⟨a + 1, v1, μ, ?_, Fw_rf, hv1, fun q => absurd q z1⟩
    refine ev_tri hok (okM_X11_readsPerson 0) (Nat.le_of_ble_eq_true rfl) 400 ?_
    rw [at_X11_readsPerson_0]
    repeat' (first
      | (with_reducible refine ev_rid ?_; simp (disch := first | omega | assumption) only [ev_run_c, ev_run_n, ev_fj, ev_stp, ev_lk, ev_fv, ev_as, ev_sz, ev_st1, ev_st2, ev_rm, ev_pk, ev_Jof, ev_go, lv_args, List.map_cons, List.map_nil, List.zip_cons_cons, List.zip_nil_left, List.zip_nil_right, List.nil_append, List.cons_append, ↓reduceIte, reduceCtorEq, Int.reduceToNat, Nat.reduceEqDiff, Nat.reduceAdd, Nat.reduceLT, Nat.reduceLeDiff, Nat.reduceMul, Nat.reduceSub, Value.category, false_implies, true_and, and_true, Bool.false_eq_true, Option.some.injEq, exists_eq_left', Option.toList_some, Option.toList_none, ev_km, ev_k2, ev_k3, ev_k4, ev_k5, ev_l0, ev_l1, sh_1, sh_2, sh_3, sh_4, sh_5, at_X11_readsPerson_124, at_X11_readsPerson_16, at_X11_readsPerson_17, at_X11_readsPerson_48, at_X11_readsPerson_49, at_X11_readsPerson_60, at_X11_readsPerson_85, ca_X11_118, ca_X11_127, ca_X11_130, ca_X11_133, ca_X11_146, ca_X11_149, ca_X11_153, cd_X11_readsPerson_0, cd_X11_readsPerson_124, cd_X11_readsPerson_16, cd_X11_readsPerson_17, cd_X11_readsPerson_48, cd_X11_readsPerson_49, cd_X11_readsPerson_60, cd_X11_readsPerson_85, fl_X11_26, fl_X11_62, fl_X11_76, fl_X11_79, fl_X11_9, ev_b_16, ev_b_6, ev_b_7, ev_b_9, no_0, no_1, no_lt, no_le, no_eq, no_lt0, no_ge0, no_gt0, no_le0, no_eq0, no_0eq, no_eqm, no_meq, no_m0, no_mlt, no_mge, no_mgt, no_mm, no_i01, no_i10, no_in, no_or, no_ifm, no_mul, nI_add, no_sub, pk_div, iI_if, nI_clamp, oI_n, oI_s, not_true_eq_false, not_false_eq_true, forall_const, true_implies, false_and, and_false, or_false, false_or, Classical.not_not, true_or, or_true, no_b, no_eq1, eq_self, and_self, sk_301, sk_302, sl_302, sp_301, n0, w0, re_10, re_n, hN0, f1, y])
      | (with_reducible refine ev_gid ?_; simp (disch := first | omega | assumption) only [ev_run_c, ev_run_n, ev_fj, ev_stp, ev_lk, ev_fv, ev_as, ev_sz, ev_st1, ev_st2, ev_rm, ev_pk, ev_Jof, ev_go, lv_args, List.map_cons, List.map_nil, List.zip_cons_cons, List.zip_nil_left, List.zip_nil_right, List.nil_append, List.cons_append, ↓reduceIte, reduceCtorEq, Int.reduceToNat, Nat.reduceEqDiff, Nat.reduceAdd, Nat.reduceLT, Nat.reduceLeDiff, Nat.reduceMul, Nat.reduceSub, Value.category, false_implies, true_and, and_true, Bool.false_eq_true, Option.some.injEq, exists_eq_left', Option.toList_some, Option.toList_none, ev_km, ev_k2, ev_k3, ev_k4, ev_k5, ev_l0, ev_l1, sh_1, sh_2, sh_3, sh_4, sh_5, at_X11_readsPerson_124, at_X11_readsPerson_16, at_X11_readsPerson_17, at_X11_readsPerson_48, at_X11_readsPerson_49, at_X11_readsPerson_60, at_X11_readsPerson_85, ca_X11_118, ca_X11_127, ca_X11_130, ca_X11_133, ca_X11_146, ca_X11_149, ca_X11_153, cd_X11_readsPerson_0, cd_X11_readsPerson_124, cd_X11_readsPerson_16, cd_X11_readsPerson_17, cd_X11_readsPerson_48, cd_X11_readsPerson_49, cd_X11_readsPerson_60, cd_X11_readsPerson_85, fl_X11_26, fl_X11_62, fl_X11_76, fl_X11_79, fl_X11_9, ev_b_16, ev_b_6, ev_b_7, ev_b_9, no_0, no_1, no_lt, no_le, no_eq, no_lt0, no_ge0, no_gt0, no_le0, no_eq0, no_0eq, no_eqm, no_meq, no_m0, no_mlt, no_mge, no_mgt, no_mm, no_i01, no_i10, no_in, no_or, no_ifm, no_mul, nI_add, no_sub, pk_div, iI_if, nI_clamp, oI_n, oI_s, not_true_eq_false, not_false_eq_true, forall_const, true_implies, false_and, and_false, or_false, false_or, Classical.not_not, true_or, or_true, no_b, no_eq1, eq_self, and_self, sk_301, sk_302, sl_302, sp_301, n0, w0, re_10, re_n, hN0, f1, y])
      | (with_reducible refine And.intro (fun q => ?_) (fun q => ?_) <;> (try simp (disch := first | omega | assumption) only [no_0, no_1, no_lt, no_le, no_eq, no_lt0, no_ge0, no_gt0, no_le0, no_eq0, no_0eq, no_eqm, no_meq, no_m0, no_mlt, no_mge, no_mgt, no_mm, no_i01, no_i10, no_in, no_or, no_ifm, no_mul, nI_add, no_sub, pk_div, iI_if, nI_clamp, oI_n, oI_s, not_true_eq_false, not_false_eq_true, forall_const, true_implies, false_and, and_false, or_false, false_or, Classical.not_not, true_or, or_true, no_b, no_eq1, eq_self, and_self, sk_301, sk_302, sl_302, sp_301, n0, w0, re_10, re_n, hN0, f1, y] at q))
      | with_reducible refine ev_ci (m_limits1 hok ?_) ?_
      | with_reducible refine ev_ci (m_limits0 hok ?_) ?_
      | with_reducible refine ev_ci (m_go hok (by first | with_reducible assumption | exact RB_mw (by with_reducible assumption)) ?_) ?_
      | with_reducible refine ev_ci (m_wantsName hok (by first | with_reducible assumption | exact RB_mw (by with_reducible assumption)) ?_) ?_
      | with_reducible refine ev_ci (m_refuses1 hok ?_) ?_
      | with_reducible refine ev_ci (m_refuses0 hok ?_) ?_
      | with_reducible refine ev_ci (m_X11_puts hok (by first | exact MR_re (by with_reducible assumption) | exact MR_re mw_R) ?_ ?_) ?_
      | with_reducible refine ev_ci (m_readNumber hok (by with_reducible assumption) ?_ (by with_reducible assumption) ?_ ?_) ?_
      | omega
      | with_reducible assumption
      | with_reducible rfl
      | with_reducible refine lp_nx ?_ ?_ ?_ ?_
      | with_reducible refine lp_st ?_ ?_ ?_
      | with_reducible refine ls_c ?_ ?_
      | with_reducible refine vi_c ?_
      | with_reducible refine re_c ?_
      | with_reducible refine vz_c ?_
      | with_reducible refine rz_c ?_
      | exact trivial
      | with_reducible refine And.intro ?_ ?_
      | simp (disch := first | omega | assumption) only [ev_run_c, ev_run_n, ev_fj, ev_stp, ev_lk, ev_fv, ev_as, ev_sz, ev_st1, ev_st2, ev_rm, ev_pk, ev_Jof, ev_go, lv_args, List.map_cons, List.map_nil, List.zip_cons_cons, List.zip_nil_left, List.zip_nil_right, List.nil_append, List.cons_append, ↓reduceIte, reduceCtorEq, Int.reduceToNat, Nat.reduceEqDiff, Nat.reduceAdd, Nat.reduceLT, Nat.reduceLeDiff, Nat.reduceMul, Nat.reduceSub, Value.category, false_implies, true_and, and_true, Bool.false_eq_true, Option.some.injEq, exists_eq_left', Option.toList_some, Option.toList_none, ev_km, ev_k2, ev_k3, ev_k4, ev_k5, ev_l0, ev_l1, sh_1, sh_2, sh_3, sh_4, sh_5, at_X11_readsPerson_124, at_X11_readsPerson_16, at_X11_readsPerson_17, at_X11_readsPerson_48, at_X11_readsPerson_49, at_X11_readsPerson_60, at_X11_readsPerson_85, ca_X11_118, ca_X11_127, ca_X11_130, ca_X11_133, ca_X11_146, ca_X11_149, ca_X11_153, cd_X11_readsPerson_0, cd_X11_readsPerson_124, cd_X11_readsPerson_16, cd_X11_readsPerson_17, cd_X11_readsPerson_48, cd_X11_readsPerson_49, cd_X11_readsPerson_60, cd_X11_readsPerson_85, fl_X11_26, fl_X11_62, fl_X11_76, fl_X11_79, fl_X11_9, ev_b_16, ev_b_6, ev_b_7, ev_b_9, no_0, no_1, no_lt, no_le, no_eq, no_lt0, no_ge0, no_gt0, no_le0, no_eq0, no_0eq, no_eqm, no_meq, no_m0, no_mlt, no_mge, no_mgt, no_mm, no_i01, no_i10, no_in, no_or, no_ifm, no_mul, nI_add, no_sub, pk_div, iI_if, nI_clamp, oI_n, oI_s, not_true_eq_false, not_false_eq_true, forall_const, true_implies, false_and, and_false, or_false, false_or, Classical.not_not, true_or, or_true, no_b, no_eq1, eq_self, and_self, sk_301, sk_302, sl_302, sp_301, n0, w0, re_10, re_n, hN0, f1, y]
      | exact rfl
      | (split <;> omega))
  · have z1 : e1.1 = 0 := Classical.byContradiction z1
    have g1 := z1
    rw [← f1] at g1
    have k1 := cmc_0 (rC_0 g1).2.1
    obtain ⟨t1, t2, t3, t4, t5, t6, t7⟩ := tkd_1 k1.1
    have hpn := m_personNamed (e := e1) (v := v1) hok hR hN (fun _ _ => rfl) hI k1.1 k1.2
    by_cases hc : pv B n N (a + 1) < N 0
    · rw [er_True hc]
      obtain ⟨e9, f9⟩ : ∃ e, er e1 True 3 (a + 1) B n = e := ⟨_, rfl⟩
      have c9 : e9.1 < 5 := by rw [← f9]; exact er_c c1 (by decide)
      have z9 : ¬ e9.1 = 0 := by rw [← f9, er_T z1]; exact Nat.succ_ne_zero _
      have y : (e9.1 = 0) = False := eq_false z9
      rw [f9, rN_n z9]
      rw [if_pos hc] at hpn
      refine ⟨a + 1, v1, μ, ?_, Fw_rf, hv1, fun q => absurd q z9⟩
      refine ev_tri hok (okM_X11_readsPerson 0) (Nat.le_of_ble_eq_true rfl) 400 ?_
      rw [at_X11_readsPerson_0]
      repeat' (first
        | (with_reducible refine ev_rid ?_; simp (disch := first | omega | assumption) only [ev_run_c, ev_run_n, ev_fj, ev_stp, ev_lk, ev_fv, ev_as, ev_sz, ev_st1, ev_st2, ev_rm, ev_pk, ev_Jof, ev_go, lv_args, List.map_cons, List.map_nil, List.zip_cons_cons, List.zip_nil_left, List.zip_nil_right, List.nil_append, List.cons_append, ↓reduceIte, reduceCtorEq, Int.reduceToNat, Nat.reduceEqDiff, Nat.reduceAdd, Nat.reduceLT, Nat.reduceLeDiff, Nat.reduceMul, Nat.reduceSub, Value.category, false_implies, true_and, and_true, Bool.false_eq_true, Option.some.injEq, exists_eq_left', Option.toList_some, Option.toList_none, ev_km, ev_k2, ev_k3, ev_k4, ev_k5, ev_l0, ev_l1, sh_1, sh_2, sh_3, sh_4, sh_5, at_X11_readsPerson_124, at_X11_readsPerson_16, at_X11_readsPerson_17, at_X11_readsPerson_48, at_X11_readsPerson_49, at_X11_readsPerson_60, at_X11_readsPerson_85, ca_X11_118, ca_X11_127, ca_X11_130, ca_X11_133, ca_X11_146, ca_X11_149, ca_X11_153, cd_X11_readsPerson_0, cd_X11_readsPerson_124, cd_X11_readsPerson_16, cd_X11_readsPerson_17, cd_X11_readsPerson_48, cd_X11_readsPerson_49, cd_X11_readsPerson_60, cd_X11_readsPerson_85, fl_X11_26, fl_X11_62, fl_X11_76, fl_X11_79, fl_X11_9, ev_b_16, ev_b_6, ev_b_7, ev_b_9, no_0, no_1, no_lt, no_le, no_eq, no_lt0, no_ge0, no_gt0, no_le0, no_eq0, no_0eq, no_eqm, no_meq, no_m0, no_mlt, no_mge, no_mgt, no_mm, no_i01, no_i10, no_in, no_or, no_ifm, no_mul, nI_add, no_sub, pk_div, iI_if, nI_clamp, oI_n, oI_s, not_true_eq_false, not_false_eq_true, forall_const, true_implies, false_and, and_false, or_false, false_or, Classical.not_not, true_or, or_true, no_b, no_eq1, eq_self, and_self, sk_301, sk_302, sl_302, sp_301, n0, w0, re_10, re_n, hN0, f1, z1, f9, y])
        | (with_reducible refine ev_gid ?_; simp (disch := first | omega | assumption) only [ev_run_c, ev_run_n, ev_fj, ev_stp, ev_lk, ev_fv, ev_as, ev_sz, ev_st1, ev_st2, ev_rm, ev_pk, ev_Jof, ev_go, lv_args, List.map_cons, List.map_nil, List.zip_cons_cons, List.zip_nil_left, List.zip_nil_right, List.nil_append, List.cons_append, ↓reduceIte, reduceCtorEq, Int.reduceToNat, Nat.reduceEqDiff, Nat.reduceAdd, Nat.reduceLT, Nat.reduceLeDiff, Nat.reduceMul, Nat.reduceSub, Value.category, false_implies, true_and, and_true, Bool.false_eq_true, Option.some.injEq, exists_eq_left', Option.toList_some, Option.toList_none, ev_km, ev_k2, ev_k3, ev_k4, ev_k5, ev_l0, ev_l1, sh_1, sh_2, sh_3, sh_4, sh_5, at_X11_readsPerson_124, at_X11_readsPerson_16, at_X11_readsPerson_17, at_X11_readsPerson_48, at_X11_readsPerson_49, at_X11_readsPerson_60, at_X11_readsPerson_85, ca_X11_118, ca_X11_127, ca_X11_130, ca_X11_133, ca_X11_146, ca_X11_149, ca_X11_153, cd_X11_readsPerson_0, cd_X11_readsPerson_124, cd_X11_readsPerson_16, cd_X11_readsPerson_17, cd_X11_readsPerson_48, cd_X11_readsPerson_49, cd_X11_readsPerson_60, cd_X11_readsPerson_85, fl_X11_26, fl_X11_62, fl_X11_76, fl_X11_79, fl_X11_9, ev_b_16, ev_b_6, ev_b_7, ev_b_9, no_0, no_1, no_lt, no_le, no_eq, no_lt0, no_ge0, no_gt0, no_le0, no_eq0, no_0eq, no_eqm, no_meq, no_m0, no_mlt, no_mge, no_mgt, no_mm, no_i01, no_i10, no_in, no_or, no_ifm, no_mul, nI_add, no_sub, pk_div, iI_if, nI_clamp, oI_n, oI_s, not_true_eq_false, not_false_eq_true, forall_const, true_implies, false_and, and_false, or_false, false_or, Classical.not_not, true_or, or_true, no_b, no_eq1, eq_self, and_self, sk_301, sk_302, sl_302, sp_301, n0, w0, re_10, re_n, hN0, f1, z1, f9, y])
        | (with_reducible refine And.intro (fun q => ?_) (fun q => ?_) <;> (try simp (disch := first | omega | assumption) only [no_0, no_1, no_lt, no_le, no_eq, no_lt0, no_ge0, no_gt0, no_le0, no_eq0, no_0eq, no_eqm, no_meq, no_m0, no_mlt, no_mge, no_mgt, no_mm, no_i01, no_i10, no_in, no_or, no_ifm, no_mul, nI_add, no_sub, pk_div, iI_if, nI_clamp, oI_n, oI_s, not_true_eq_false, not_false_eq_true, forall_const, true_implies, false_and, and_false, or_false, false_or, Classical.not_not, true_or, or_true, no_b, no_eq1, eq_self, and_self, sk_301, sk_302, sl_302, sp_301, n0, w0, re_10, re_n, hN0, f1, z1, f9, y] at q))
        | (with_reducible refine ev_ci hpn ?_)
        | with_reducible refine ev_ci (m_limits1 hok ?_) ?_
        | with_reducible refine ev_ci (m_limits0 hok ?_) ?_
        | with_reducible refine ev_ci (m_go hok (by first | with_reducible assumption | exact RB_mw (by with_reducible assumption)) ?_) ?_
        | with_reducible refine ev_ci (m_wantsName hok (by first | with_reducible assumption | exact RB_mw (by with_reducible assumption)) ?_) ?_
        | with_reducible refine ev_ci (m_refuses1 hok ?_) ?_
        | with_reducible refine ev_ci (m_refuses0 hok ?_) ?_
        | with_reducible refine ev_ci (m_X11_puts hok (by first | exact MR_re (by with_reducible assumption) | exact MR_re mw_R) ?_ ?_) ?_
        | with_reducible refine ev_ci (m_readNumber hok (by with_reducible assumption) ?_ (by with_reducible assumption) ?_ ?_) ?_
        | omega
        | with_reducible assumption
        | with_reducible rfl
        | with_reducible refine lp_nx ?_ ?_ ?_ ?_
        | with_reducible refine lp_st ?_ ?_ ?_
        | with_reducible refine ls_c ?_ ?_
        | with_reducible refine vi_c ?_
        | with_reducible refine re_c ?_
        | with_reducible refine vz_c ?_
        | with_reducible refine rz_c ?_
        | exact trivial
        | with_reducible refine And.intro ?_ ?_
        | simp (disch := first | omega | assumption) only [ev_run_c, ev_run_n, ev_fj, ev_stp, ev_lk, ev_fv, ev_as, ev_sz, ev_st1, ev_st2, ev_rm, ev_pk, ev_Jof, ev_go, lv_args, List.map_cons, List.map_nil, List.zip_cons_cons, List.zip_nil_left, List.zip_nil_right, List.nil_append, List.cons_append, ↓reduceIte, reduceCtorEq, Int.reduceToNat, Nat.reduceEqDiff, Nat.reduceAdd, Nat.reduceLT, Nat.reduceLeDiff, Nat.reduceMul, Nat.reduceSub, Value.category, false_implies, true_and, and_true, Bool.false_eq_true, Option.some.injEq, exists_eq_left', Option.toList_some, Option.toList_none, ev_km, ev_k2, ev_k3, ev_k4, ev_k5, ev_l0, ev_l1, sh_1, sh_2, sh_3, sh_4, sh_5, at_X11_readsPerson_124, at_X11_readsPerson_16, at_X11_readsPerson_17, at_X11_readsPerson_48, at_X11_readsPerson_49, at_X11_readsPerson_60, at_X11_readsPerson_85, ca_X11_118, ca_X11_127, ca_X11_130, ca_X11_133, ca_X11_146, ca_X11_149, ca_X11_153, cd_X11_readsPerson_0, cd_X11_readsPerson_124, cd_X11_readsPerson_16, cd_X11_readsPerson_17, cd_X11_readsPerson_48, cd_X11_readsPerson_49, cd_X11_readsPerson_60, cd_X11_readsPerson_85, fl_X11_26, fl_X11_62, fl_X11_76, fl_X11_79, fl_X11_9, ev_b_16, ev_b_6, ev_b_7, ev_b_9, no_0, no_1, no_lt, no_le, no_eq, no_lt0, no_ge0, no_gt0, no_le0, no_eq0, no_0eq, no_eqm, no_meq, no_m0, no_mlt, no_mge, no_mgt, no_mm, no_i01, no_i10, no_in, no_or, no_ifm, no_mul, nI_add, no_sub, pk_div, iI_if, nI_clamp, oI_n, oI_s, not_true_eq_false, not_false_eq_true, forall_const, true_implies, false_and, and_false, or_false, false_or, Classical.not_not, true_or, or_true, no_b, no_eq1, eq_self, and_self, sk_301, sk_302, sl_302, sp_301, n0, w0, re_10, re_n, hN0, f1, z1, f9, y]
        | exact rfl
        | (split <;> omega))
    · rw [er_f hc]
      rw [if_neg hc] at hpn
      have n1 : nx e1 (a + 1) = a + 1 + 1 := nx_0 z1
      have hv2 := NV_nx (B := B) (n := n) (e := e1) (a := a + 1) hv1
      rw [n1] at hv2
      generalize wA : nW B n e1 (a + 1) v1 = v2 at hv2
      obtain ⟨e3, f3⟩ : ∃ e, rN B n e1 (a + 1 + 1) 0 10 = e := ⟨_, rfl⟩
      have c3 : e3.1 < 5 := by rw [← f3]; exact rN_c c1
      rw [f3]
      have u1 := tst_le B n (a + 1)
      have u2 := ps_le B n (a + 1 + 1)
      have u3 := hR.1
      have u0 : ps B n (a + 1 + 1) - tst B n (a + 1) = tln B n (a + 1) := rfl
      generalize hT : tln B n (a + 1) = T at k1 t4 t5 t6 t7 u0
      generalize hf9 : (fun k => B (tst B n (a + 1) + k)) = f at t7
      have hf : ∀ k, f k = B (tst B n (a + 1) + k) := fun k => by rw [← hf9]
      have hr9 : nI9 B n N a 1 = apN N T f (tvl B n (a + 1 + 1)) := by rw [← hT, ← hf9]; rfl
      rw [hr9]
      have hrn := fun (M : Nat → Nat) => m_readNumber (μ := mw μ M) (e := e1) (a := a + 1 + 1) (v := v2) (l := 0) (h := 9) hok (RB_mw hR) c1 hv2 (by omega) (by omega)
      have main : ∀ x : Nat, (if e3.1 = 0 then tvl B n (a + 1 + 1) else 0) = x → ev_T sh_S G mi_X11_readsPerson [.ref 301] (re B n (0, -1) a v μ) (.inl (none, re B n e3 (nx e3 (a + 1 + 1)) (nW B n e3 (a + 1 + 1) v2) (mw μ (apN N T f x)))) := by
        intro x hx
        refine ev_tri1 hok (okM_X11_readsPerson 0) (Nat.le_of_ble_eq_true rfl) 85 [0, 1, 2] T 400 (fun k => [.ref 301, .int (nI (N 0)), .int (nI k)]) (fun k => re B n e1 (a + 1) v1 (mw μ (ltN N (N 0) T f k))) (fun _ => True) ?_ ?_
        · intro k hk _
          rw [at_X11_readsPerson_85]
          rcases Nat.lt_or_ge k T with hkn | hkn
          · have b2 := hR.2.1 (tst B n (a + 1) + k)
            have b3 := isL_iff.mp (t6 k hkn)
            have e7 : μ.1 307 (tst B n (a + 1) + k) = nI (f k) := by rw [hR.2.2.2 _ (by omega), sb_n (by omega), hf]
            have e8 : (mw μ (ltN N (N 0) T f k)).1 307 = μ.1 307 := mw_1 (by omega)
            have hpt := m_X11_puts (μ := re B n e1 (a + 1) v1 (mw μ (ltN N (N 0) T f k))) (v := f k) hok (MR_re (N := ltN N (N 0) T f k) mw_R) (i := N 0) (w := 7 + k) (by omega) (by omega)
            rw [ltN_s] at hpt
            repeat' (first
              | (with_reducible refine ev_rid ?_; simp (disch := first | omega | assumption) only [ev_run_c, ev_run_n, ev_fj, ev_stp, ev_lk, ev_fv, ev_as, ev_sz, ev_st1, ev_st2, ev_rm, ev_pk, ev_Jof, ev_go, lv_args, List.map_cons, List.map_nil, List.zip_cons_cons, List.zip_nil_left, List.zip_nil_right, List.nil_append, List.cons_append, ↓reduceIte, reduceCtorEq, Int.reduceToNat, Nat.reduceEqDiff, Nat.reduceAdd, Nat.reduceLT, Nat.reduceLeDiff, Nat.reduceMul, Nat.reduceSub, Value.category, false_implies, true_and, and_true, Bool.false_eq_true, Option.some.injEq, exists_eq_left', Option.toList_some, Option.toList_none, ev_km, ev_k2, ev_k3, ev_k4, ev_k5, ev_l0, ev_l1, sh_1, sh_2, sh_3, sh_4, sh_5, at_X11_readsPerson_124, at_X11_readsPerson_16, at_X11_readsPerson_17, at_X11_readsPerson_48, at_X11_readsPerson_49, at_X11_readsPerson_60, at_X11_readsPerson_85, ca_X11_118, ca_X11_127, ca_X11_130, ca_X11_133, ca_X11_146, ca_X11_149, ca_X11_153, cd_X11_readsPerson_0, cd_X11_readsPerson_124, cd_X11_readsPerson_16, cd_X11_readsPerson_17, cd_X11_readsPerson_48, cd_X11_readsPerson_49, cd_X11_readsPerson_60, cd_X11_readsPerson_85, fl_X11_26, fl_X11_62, fl_X11_76, fl_X11_79, fl_X11_9, ev_b_16, ev_b_6, ev_b_7, ev_b_9, no_0, no_1, no_lt, no_le, no_eq, no_lt0, no_ge0, no_gt0, no_le0, no_eq0, no_0eq, no_eqm, no_meq, no_m0, no_mlt, no_mge, no_mgt, no_mm, no_i01, no_i10, no_in, no_or, no_ifm, no_mul, nI_add, no_sub, pk_div, iI_if, nI_clamp, oI_n, oI_s, not_true_eq_false, not_false_eq_true, forall_const, true_implies, false_and, and_false, or_false, false_or, Classical.not_not, true_or, or_true, no_b, no_eq1, eq_self, and_self, sk_301, sk_302, sl_302, sp_301, re_13, re_14, re_n, u0, e7, e8, mw_re, mw_mw, sk_307, sl_307, sp_307])
              | (with_reducible refine ev_gid ?_; simp (disch := first | omega | assumption) only [ev_run_c, ev_run_n, ev_fj, ev_stp, ev_lk, ev_fv, ev_as, ev_sz, ev_st1, ev_st2, ev_rm, ev_pk, ev_Jof, ev_go, lv_args, List.map_cons, List.map_nil, List.zip_cons_cons, List.zip_nil_left, List.zip_nil_right, List.nil_append, List.cons_append, ↓reduceIte, reduceCtorEq, Int.reduceToNat, Nat.reduceEqDiff, Nat.reduceAdd, Nat.reduceLT, Nat.reduceLeDiff, Nat.reduceMul, Nat.reduceSub, Value.category, false_implies, true_and, and_true, Bool.false_eq_true, Option.some.injEq, exists_eq_left', Option.toList_some, Option.toList_none, ev_km, ev_k2, ev_k3, ev_k4, ev_k5, ev_l0, ev_l1, sh_1, sh_2, sh_3, sh_4, sh_5, at_X11_readsPerson_124, at_X11_readsPerson_16, at_X11_readsPerson_17, at_X11_readsPerson_48, at_X11_readsPerson_49, at_X11_readsPerson_60, at_X11_readsPerson_85, ca_X11_118, ca_X11_127, ca_X11_130, ca_X11_133, ca_X11_146, ca_X11_149, ca_X11_153, cd_X11_readsPerson_0, cd_X11_readsPerson_124, cd_X11_readsPerson_16, cd_X11_readsPerson_17, cd_X11_readsPerson_48, cd_X11_readsPerson_49, cd_X11_readsPerson_60, cd_X11_readsPerson_85, fl_X11_26, fl_X11_62, fl_X11_76, fl_X11_79, fl_X11_9, ev_b_16, ev_b_6, ev_b_7, ev_b_9, no_0, no_1, no_lt, no_le, no_eq, no_lt0, no_ge0, no_gt0, no_le0, no_eq0, no_0eq, no_eqm, no_meq, no_m0, no_mlt, no_mge, no_mgt, no_mm, no_i01, no_i10, no_in, no_or, no_ifm, no_mul, nI_add, no_sub, pk_div, iI_if, nI_clamp, oI_n, oI_s, not_true_eq_false, not_false_eq_true, forall_const, true_implies, false_and, and_false, or_false, false_or, Classical.not_not, true_or, or_true, no_b, no_eq1, eq_self, and_self, sk_301, sk_302, sl_302, sp_301, re_13, re_14, re_n, u0, e7, e8, mw_re, mw_mw, sk_307, sl_307, sp_307])
              | (with_reducible refine And.intro (fun q => ?_) (fun q => ?_) <;> (try simp (disch := first | omega | assumption) only [no_0, no_1, no_lt, no_le, no_eq, no_lt0, no_ge0, no_gt0, no_le0, no_eq0, no_0eq, no_eqm, no_meq, no_m0, no_mlt, no_mge, no_mgt, no_mm, no_i01, no_i10, no_in, no_or, no_ifm, no_mul, nI_add, no_sub, pk_div, iI_if, nI_clamp, oI_n, oI_s, not_true_eq_false, not_false_eq_true, forall_const, true_implies, false_and, and_false, or_false, false_or, Classical.not_not, true_or, or_true, no_b, no_eq1, eq_self, and_self, sk_301, sk_302, sl_302, sp_301, re_13, re_14, re_n, u0, e7, e8, mw_re, mw_mw, sk_307, sl_307, sp_307] at q))
              | (with_reducible refine ev_ci hpt ?_)
              | with_reducible refine ev_ci (m_limits1 hok ?_) ?_
              | with_reducible refine ev_ci (m_limits0 hok ?_) ?_
              | with_reducible refine ev_ci (m_go hok (by first | with_reducible assumption | exact RB_mw (by with_reducible assumption)) ?_) ?_
              | with_reducible refine ev_ci (m_wantsName hok (by first | with_reducible assumption | exact RB_mw (by with_reducible assumption)) ?_) ?_
              | with_reducible refine ev_ci (m_refuses1 hok ?_) ?_
              | with_reducible refine ev_ci (m_refuses0 hok ?_) ?_
              | with_reducible refine ev_ci (m_X11_puts hok (by first | exact MR_re (by with_reducible assumption) | exact MR_re mw_R) ?_ ?_) ?_
              | with_reducible refine ev_ci (m_readNumber hok (by with_reducible assumption) ?_ (by with_reducible assumption) ?_ ?_) ?_
              | omega
              | with_reducible assumption
              | with_reducible rfl
              | with_reducible refine lp_nx ?_ ?_ ?_ ?_
              | with_reducible refine lp_st ?_ ?_ ?_
              | with_reducible refine ls_c ?_ ?_
              | with_reducible refine vi_c ?_
              | with_reducible refine re_c ?_
              | with_reducible refine vz_c ?_
              | with_reducible refine rz_c ?_
              | exact trivial
              | with_reducible refine And.intro ?_ ?_
              | simp (disch := first | omega | assumption) only [ev_run_c, ev_run_n, ev_fj, ev_stp, ev_lk, ev_fv, ev_as, ev_sz, ev_st1, ev_st2, ev_rm, ev_pk, ev_Jof, ev_go, lv_args, List.map_cons, List.map_nil, List.zip_cons_cons, List.zip_nil_left, List.zip_nil_right, List.nil_append, List.cons_append, ↓reduceIte, reduceCtorEq, Int.reduceToNat, Nat.reduceEqDiff, Nat.reduceAdd, Nat.reduceLT, Nat.reduceLeDiff, Nat.reduceMul, Nat.reduceSub, Value.category, false_implies, true_and, and_true, Bool.false_eq_true, Option.some.injEq, exists_eq_left', Option.toList_some, Option.toList_none, ev_km, ev_k2, ev_k3, ev_k4, ev_k5, ev_l0, ev_l1, sh_1, sh_2, sh_3, sh_4, sh_5, at_X11_readsPerson_124, at_X11_readsPerson_16, at_X11_readsPerson_17, at_X11_readsPerson_48, at_X11_readsPerson_49, at_X11_readsPerson_60, at_X11_readsPerson_85, ca_X11_118, ca_X11_127, ca_X11_130, ca_X11_133, ca_X11_146, ca_X11_149, ca_X11_153, cd_X11_readsPerson_0, cd_X11_readsPerson_124, cd_X11_readsPerson_16, cd_X11_readsPerson_17, cd_X11_readsPerson_48, cd_X11_readsPerson_49, cd_X11_readsPerson_60, cd_X11_readsPerson_85, fl_X11_26, fl_X11_62, fl_X11_76, fl_X11_79, fl_X11_9, ev_b_16, ev_b_6, ev_b_7, ev_b_9, no_0, no_1, no_lt, no_le, no_eq, no_lt0, no_ge0, no_gt0, no_le0, no_eq0, no_0eq, no_eqm, no_meq, no_m0, no_mlt, no_mge, no_mgt, no_mm, no_i01, no_i10, no_in, no_or, no_ifm, no_mul, nI_add, no_sub, pk_div, iI_if, nI_clamp, oI_n, oI_s, not_true_eq_false, not_false_eq_true, forall_const, true_implies, false_and, and_false, or_false, false_or, Classical.not_not, true_or, or_true, no_b, no_eq1, eq_self, and_self, sk_301, sk_302, sl_302, sp_301, re_13, re_14, re_n, u0, e7, e8, mw_re, mw_mw, sk_307, sl_307, sp_307]
              | exact rfl
              | (split <;> omega))
          · have hkn : k = T := by omega
            subst hkn
            have hR2 : RB B n (mw μ (ltN N (N 0) k f k)) := RB_mw hR
            have hr2 := hrn (ltN N (N 0) k f k)
            rw [f3, hx] at hr2
            have hpt := m_X11_puts (μ := re B n e3 (nx e3 (a + 1 + 1)) (nW B n e3 (a + 1 + 1) v2) (mw μ (ltN N (N 0) k f k))) (v := x) hok (MR_re (N := ltN N (N 0) k f k) mw_R) (i := N 0) (w := 0) (by omega) (by omega)
            rw [mw_re, mw_mw] at hpt
            have e9 : (mw μ (up (ltN N (N 0) k f k) (8 + 59 * N 0 + 0) x)).1 302 0 = nI (N 0) := by
              rw [mw_302 (by omega)]
              show nI (if 0 = 8 + 59 * N 0 + 0 then x else if 8 + 59 * N 0 + 7 ≤ 0 ∧ 0 < 8 + 59 * N 0 + 7 + k then f (0 - (8 + 59 * N 0 + 7)) else if 0 = 8 + 59 * N 0 + 6 then k else N 0) = nI (N 0)
              rw [if_neg (by omega), if_neg (by omega), if_neg (by omega)]
            have e8 : w1 (re B n e3 (nx e3 (a + 1 + 1)) (nW B n e3 (a + 1 + 1) v2) (mw μ (up (ltN N (N 0) k f k) (8 + 59 * N 0 + 0) x))) 302 0 (nI (N 0 + 1)) = re B n e3 (nx e3 (a + 1 + 1)) (nW B n e3 (a + 1 + 1) v2) (mw μ (apN N k f x)) := by
              rw [re_w302 (by omega), ltN_ap]
            repeat' (first
              | (with_reducible refine ev_rid ?_; simp (disch := first | omega | assumption) only [ev_run_c, ev_run_n, ev_fj, ev_stp, ev_lk, ev_fv, ev_as, ev_sz, ev_st1, ev_st2, ev_rm, ev_pk, ev_Jof, ev_go, lv_args, List.map_cons, List.map_nil, List.zip_cons_cons, List.zip_nil_left, List.zip_nil_right, List.nil_append, List.cons_append, ↓reduceIte, reduceCtorEq, Int.reduceToNat, Nat.reduceEqDiff, Nat.reduceAdd, Nat.reduceLT, Nat.reduceLeDiff, Nat.reduceMul, Nat.reduceSub, Value.category, false_implies, true_and, and_true, Bool.false_eq_true, Option.some.injEq, exists_eq_left', Option.toList_some, Option.toList_none, ev_km, ev_k2, ev_k3, ev_k4, ev_k5, ev_l0, ev_l1, sh_1, sh_2, sh_3, sh_4, sh_5, at_X11_readsPerson_124, at_X11_readsPerson_16, at_X11_readsPerson_17, at_X11_readsPerson_48, at_X11_readsPerson_49, at_X11_readsPerson_60, at_X11_readsPerson_85, ca_X11_118, ca_X11_127, ca_X11_130, ca_X11_133, ca_X11_146, ca_X11_149, ca_X11_153, cd_X11_readsPerson_0, cd_X11_readsPerson_124, cd_X11_readsPerson_16, cd_X11_readsPerson_17, cd_X11_readsPerson_48, cd_X11_readsPerson_49, cd_X11_readsPerson_60, cd_X11_readsPerson_85, fl_X11_26, fl_X11_62, fl_X11_76, fl_X11_79, fl_X11_9, ev_b_16, ev_b_6, ev_b_7, ev_b_9, no_0, no_1, no_lt, no_le, no_eq, no_lt0, no_ge0, no_gt0, no_le0, no_eq0, no_0eq, no_eqm, no_meq, no_m0, no_mlt, no_mge, no_mgt, no_mm, no_i01, no_i10, no_in, no_or, no_ifm, no_mul, nI_add, no_sub, pk_div, iI_if, nI_clamp, oI_n, oI_s, not_true_eq_false, not_false_eq_true, forall_const, true_implies, false_and, and_false, or_false, false_or, Classical.not_not, true_or, or_true, no_b, no_eq1, eq_self, and_self, sk_301, sk_302, sl_302, sp_301, re_10, re_13, re_14, re_n, u0, n1, wA, e9, e8, w1_d])
              | (with_reducible refine ev_gid ?_; simp (disch := first | omega | assumption) only [ev_run_c, ev_run_n, ev_fj, ev_stp, ev_lk, ev_fv, ev_as, ev_sz, ev_st1, ev_st2, ev_rm, ev_pk, ev_Jof, ev_go, lv_args, List.map_cons, List.map_nil, List.zip_cons_cons, List.zip_nil_left, List.zip_nil_right, List.nil_append, List.cons_append, ↓reduceIte, reduceCtorEq, Int.reduceToNat, Nat.reduceEqDiff, Nat.reduceAdd, Nat.reduceLT, Nat.reduceLeDiff, Nat.reduceMul, Nat.reduceSub, Value.category, false_implies, true_and, and_true, Bool.false_eq_true, Option.some.injEq, exists_eq_left', Option.toList_some, Option.toList_none, ev_km, ev_k2, ev_k3, ev_k4, ev_k5, ev_l0, ev_l1, sh_1, sh_2, sh_3, sh_4, sh_5, at_X11_readsPerson_124, at_X11_readsPerson_16, at_X11_readsPerson_17, at_X11_readsPerson_48, at_X11_readsPerson_49, at_X11_readsPerson_60, at_X11_readsPerson_85, ca_X11_118, ca_X11_127, ca_X11_130, ca_X11_133, ca_X11_146, ca_X11_149, ca_X11_153, cd_X11_readsPerson_0, cd_X11_readsPerson_124, cd_X11_readsPerson_16, cd_X11_readsPerson_17, cd_X11_readsPerson_48, cd_X11_readsPerson_49, cd_X11_readsPerson_60, cd_X11_readsPerson_85, fl_X11_26, fl_X11_62, fl_X11_76, fl_X11_79, fl_X11_9, ev_b_16, ev_b_6, ev_b_7, ev_b_9, no_0, no_1, no_lt, no_le, no_eq, no_lt0, no_ge0, no_gt0, no_le0, no_eq0, no_0eq, no_eqm, no_meq, no_m0, no_mlt, no_mge, no_mgt, no_mm, no_i01, no_i10, no_in, no_or, no_ifm, no_mul, nI_add, no_sub, pk_div, iI_if, nI_clamp, oI_n, oI_s, not_true_eq_false, not_false_eq_true, forall_const, true_implies, false_and, and_false, or_false, false_or, Classical.not_not, true_or, or_true, no_b, no_eq1, eq_self, and_self, sk_301, sk_302, sl_302, sp_301, re_10, re_13, re_14, re_n, u0, n1, wA, e9, e8, w1_d])
              | (with_reducible refine And.intro (fun q => ?_) (fun q => ?_) <;> (try simp (disch := first | omega | assumption) only [no_0, no_1, no_lt, no_le, no_eq, no_lt0, no_ge0, no_gt0, no_le0, no_eq0, no_0eq, no_eqm, no_meq, no_m0, no_mlt, no_mge, no_mgt, no_mm, no_i01, no_i10, no_in, no_or, no_ifm, no_mul, nI_add, no_sub, pk_div, iI_if, nI_clamp, oI_n, oI_s, not_true_eq_false, not_false_eq_true, forall_const, true_implies, false_and, and_false, or_false, false_or, Classical.not_not, true_or, or_true, no_b, no_eq1, eq_self, and_self, sk_301, sk_302, sl_302, sp_301, re_10, re_13, re_14, re_n, u0, n1, wA, e9, e8, w1_d] at q))
              | (with_reducible refine ev_ci hr2 ?_)
              | (with_reducible refine ev_ci hpt ?_)
              | with_reducible refine ev_ci (m_limits1 hok ?_) ?_
              | with_reducible refine ev_ci (m_limits0 hok ?_) ?_
              | with_reducible refine ev_ci (m_go hok (by first | with_reducible assumption | exact RB_mw (by with_reducible assumption)) ?_) ?_
              | with_reducible refine ev_ci (m_wantsName hok (by first | with_reducible assumption | exact RB_mw (by with_reducible assumption)) ?_) ?_
              | with_reducible refine ev_ci (m_refuses1 hok ?_) ?_
              | with_reducible refine ev_ci (m_refuses0 hok ?_) ?_
              | with_reducible refine ev_ci (m_X11_puts hok (by first | exact MR_re (by with_reducible assumption) | exact MR_re mw_R) ?_ ?_) ?_
              | with_reducible refine ev_ci (m_readNumber hok (by with_reducible assumption) ?_ (by with_reducible assumption) ?_ ?_) ?_
              | omega
              | with_reducible assumption
              | with_reducible rfl
              | with_reducible refine lp_nx ?_ ?_ ?_ ?_
              | with_reducible refine lp_st ?_ ?_ ?_
              | with_reducible refine ls_c ?_ ?_
              | with_reducible refine vi_c ?_
              | with_reducible refine re_c ?_
              | with_reducible refine vz_c ?_
              | with_reducible refine rz_c ?_
              | exact trivial
              | with_reducible refine And.intro ?_ ?_
              | simp (disch := first | omega | assumption) only [ev_run_c, ev_run_n, ev_fj, ev_stp, ev_lk, ev_fv, ev_as, ev_sz, ev_st1, ev_st2, ev_rm, ev_pk, ev_Jof, ev_go, lv_args, List.map_cons, List.map_nil, List.zip_cons_cons, List.zip_nil_left, List.zip_nil_right, List.nil_append, List.cons_append, ↓reduceIte, reduceCtorEq, Int.reduceToNat, Nat.reduceEqDiff, Nat.reduceAdd, Nat.reduceLT, Nat.reduceLeDiff, Nat.reduceMul, Nat.reduceSub, Value.category, false_implies, true_and, and_true, Bool.false_eq_true, Option.some.injEq, exists_eq_left', Option.toList_some, Option.toList_none, ev_km, ev_k2, ev_k3, ev_k4, ev_k5, ev_l0, ev_l1, sh_1, sh_2, sh_3, sh_4, sh_5, at_X11_readsPerson_124, at_X11_readsPerson_16, at_X11_readsPerson_17, at_X11_readsPerson_48, at_X11_readsPerson_49, at_X11_readsPerson_60, at_X11_readsPerson_85, ca_X11_118, ca_X11_127, ca_X11_130, ca_X11_133, ca_X11_146, ca_X11_149, ca_X11_153, cd_X11_readsPerson_0, cd_X11_readsPerson_124, cd_X11_readsPerson_16, cd_X11_readsPerson_17, cd_X11_readsPerson_48, cd_X11_readsPerson_49, cd_X11_readsPerson_60, cd_X11_readsPerson_85, fl_X11_26, fl_X11_62, fl_X11_76, fl_X11_79, fl_X11_9, ev_b_16, ev_b_6, ev_b_7, ev_b_9, no_0, no_1, no_lt, no_le, no_eq, no_lt0, no_ge0, no_gt0, no_le0, no_eq0, no_0eq, no_eqm, no_meq, no_m0, no_mlt, no_mge, no_mgt, no_mm, no_i01, no_i10, no_in, no_or, no_ifm, no_mul, nI_add, no_sub, pk_div, iI_if, nI_clamp, oI_n, oI_s, not_true_eq_false, not_false_eq_true, forall_const, true_implies, false_and, and_false, or_false, false_or, Classical.not_not, true_or, or_true, no_b, no_eq1, eq_self, and_self, sk_301, sk_302, sl_302, sp_301, re_10, re_13, re_14, re_n, u0, n1, wA, e9, e8, w1_d]
              | exact rfl
              | (split <;> omega))
        · rw [at_X11_readsPerson_0]
          have hpt := m_X11_puts (μ := re B n e1 (a + 1) v1 μ) (v := T) hok (MR_re hN) (i := N 0) (w := 6) (by omega) (by omega)
          rw [← ltN_0 (f := f), mw_re] at hpt
          repeat' (first
            | (with_reducible refine ev_rid ?_; simp (disch := first | omega | assumption) only [ev_run_c, ev_run_n, ev_fj, ev_stp, ev_lk, ev_fv, ev_as, ev_sz, ev_st1, ev_st2, ev_rm, ev_pk, ev_Jof, ev_go, lv_args, List.map_cons, List.map_nil, List.zip_cons_cons, List.zip_nil_left, List.zip_nil_right, List.nil_append, List.cons_append, ↓reduceIte, reduceCtorEq, Int.reduceToNat, Nat.reduceEqDiff, Nat.reduceAdd, Nat.reduceLT, Nat.reduceLeDiff, Nat.reduceMul, Nat.reduceSub, Value.category, false_implies, true_and, and_true, Bool.false_eq_true, Option.some.injEq, exists_eq_left', Option.toList_some, Option.toList_none, ev_km, ev_k2, ev_k3, ev_k4, ev_k5, ev_l0, ev_l1, sh_1, sh_2, sh_3, sh_4, sh_5, at_X11_readsPerson_124, at_X11_readsPerson_16, at_X11_readsPerson_17, at_X11_readsPerson_48, at_X11_readsPerson_49, at_X11_readsPerson_60, at_X11_readsPerson_85, ca_X11_118, ca_X11_127, ca_X11_130, ca_X11_133, ca_X11_146, ca_X11_149, ca_X11_153, cd_X11_readsPerson_0, cd_X11_readsPerson_124, cd_X11_readsPerson_16, cd_X11_readsPerson_17, cd_X11_readsPerson_48, cd_X11_readsPerson_49, cd_X11_readsPerson_60, cd_X11_readsPerson_85, fl_X11_26, fl_X11_62, fl_X11_76, fl_X11_79, fl_X11_9, ev_b_16, ev_b_6, ev_b_7, ev_b_9, no_0, no_1, no_lt, no_le, no_eq, no_lt0, no_ge0, no_gt0, no_le0, no_eq0, no_0eq, no_eqm, no_meq, no_m0, no_mlt, no_mge, no_mgt, no_mm, no_i01, no_i10, no_in, no_or, no_ifm, no_mul, nI_add, no_sub, pk_div, iI_if, nI_clamp, oI_n, oI_s, not_true_eq_false, not_false_eq_true, forall_const, true_implies, false_and, and_false, or_false, false_or, Classical.not_not, true_or, or_true, no_b, no_eq1, eq_self, and_self, sk_301, sk_302, sl_302, sp_301, n0, w0, re_10, re_13, re_14, re_n, hN0, u0, f1, z1])
            | (with_reducible refine ev_gid ?_; simp (disch := first | omega | assumption) only [ev_run_c, ev_run_n, ev_fj, ev_stp, ev_lk, ev_fv, ev_as, ev_sz, ev_st1, ev_st2, ev_rm, ev_pk, ev_Jof, ev_go, lv_args, List.map_cons, List.map_nil, List.zip_cons_cons, List.zip_nil_left, List.zip_nil_right, List.nil_append, List.cons_append, ↓reduceIte, reduceCtorEq, Int.reduceToNat, Nat.reduceEqDiff, Nat.reduceAdd, Nat.reduceLT, Nat.reduceLeDiff, Nat.reduceMul, Nat.reduceSub, Value.category, false_implies, true_and, and_true, Bool.false_eq_true, Option.some.injEq, exists_eq_left', Option.toList_some, Option.toList_none, ev_km, ev_k2, ev_k3, ev_k4, ev_k5, ev_l0, ev_l1, sh_1, sh_2, sh_3, sh_4, sh_5, at_X11_readsPerson_124, at_X11_readsPerson_16, at_X11_readsPerson_17, at_X11_readsPerson_48, at_X11_readsPerson_49, at_X11_readsPerson_60, at_X11_readsPerson_85, ca_X11_118, ca_X11_127, ca_X11_130, ca_X11_133, ca_X11_146, ca_X11_149, ca_X11_153, cd_X11_readsPerson_0, cd_X11_readsPerson_124, cd_X11_readsPerson_16, cd_X11_readsPerson_17, cd_X11_readsPerson_48, cd_X11_readsPerson_49, cd_X11_readsPerson_60, cd_X11_readsPerson_85, fl_X11_26, fl_X11_62, fl_X11_76, fl_X11_79, fl_X11_9, ev_b_16, ev_b_6, ev_b_7, ev_b_9, no_0, no_1, no_lt, no_le, no_eq, no_lt0, no_ge0, no_gt0, no_le0, no_eq0, no_0eq, no_eqm, no_meq, no_m0, no_mlt, no_mge, no_mgt, no_mm, no_i01, no_i10, no_in, no_or, no_ifm, no_mul, nI_add, no_sub, pk_div, iI_if, nI_clamp, oI_n, oI_s, not_true_eq_false, not_false_eq_true, forall_const, true_implies, false_and, and_false, or_false, false_or, Classical.not_not, true_or, or_true, no_b, no_eq1, eq_self, and_self, sk_301, sk_302, sl_302, sp_301, n0, w0, re_10, re_13, re_14, re_n, hN0, u0, f1, z1])
            | (with_reducible refine And.intro (fun q => ?_) (fun q => ?_) <;> (try simp (disch := first | omega | assumption) only [no_0, no_1, no_lt, no_le, no_eq, no_lt0, no_ge0, no_gt0, no_le0, no_eq0, no_0eq, no_eqm, no_meq, no_m0, no_mlt, no_mge, no_mgt, no_mm, no_i01, no_i10, no_in, no_or, no_ifm, no_mul, nI_add, no_sub, pk_div, iI_if, nI_clamp, oI_n, oI_s, not_true_eq_false, not_false_eq_true, forall_const, true_implies, false_and, and_false, or_false, false_or, Classical.not_not, true_or, or_true, no_b, no_eq1, eq_self, and_self, sk_301, sk_302, sl_302, sp_301, n0, w0, re_10, re_13, re_14, re_n, hN0, u0, f1, z1] at q))
            | (with_reducible refine ev_ci hpn ?_)
            | (with_reducible refine ev_ci hpt ?_)
            | with_reducible refine ev_ci (m_limits1 hok ?_) ?_
            | with_reducible refine ev_ci (m_limits0 hok ?_) ?_
            | with_reducible refine ev_ci (m_go hok (by first | with_reducible assumption | exact RB_mw (by with_reducible assumption)) ?_) ?_
            | with_reducible refine ev_ci (m_wantsName hok (by first | with_reducible assumption | exact RB_mw (by with_reducible assumption)) ?_) ?_
            | with_reducible refine ev_ci (m_refuses1 hok ?_) ?_
            | with_reducible refine ev_ci (m_refuses0 hok ?_) ?_
            | with_reducible refine ev_ci (m_X11_puts hok (by first | exact MR_re (by with_reducible assumption) | exact MR_re mw_R) ?_ ?_) ?_
            | with_reducible refine ev_ci (m_readNumber hok (by with_reducible assumption) ?_ (by with_reducible assumption) ?_ ?_) ?_
            | omega
            | with_reducible assumption
            | with_reducible rfl
            | with_reducible refine lp_nx ?_ ?_ ?_ ?_
            | with_reducible refine lp_st ?_ ?_ ?_
            | with_reducible refine ls_c ?_ ?_
            | with_reducible refine vi_c ?_
            | with_reducible refine re_c ?_
            | with_reducible refine vz_c ?_
            | with_reducible refine rz_c ?_
            | exact trivial
            | with_reducible refine And.intro ?_ ?_
            | simp (disch := first | omega | assumption) only [ev_run_c, ev_run_n, ev_fj, ev_stp, ev_lk, ev_fv, ev_as, ev_sz, ev_st1, ev_st2, ev_rm, ev_pk, ev_Jof, ev_go, lv_args, List.map_cons, List.map_nil, List.zip_cons_cons, List.zip_nil_left, List.zip_nil_right, List.nil_append, List.cons_append, ↓reduceIte, reduceCtorEq, Int.reduceToNat, Nat.reduceEqDiff, Nat.reduceAdd, Nat.reduceLT, Nat.reduceLeDiff, Nat.reduceMul, Nat.reduceSub, Value.category, false_implies, true_and, and_true, Bool.false_eq_true, Option.some.injEq, exists_eq_left', Option.toList_some, Option.toList_none, ev_km, ev_k2, ev_k3, ev_k4, ev_k5, ev_l0, ev_l1, sh_1, sh_2, sh_3, sh_4, sh_5, at_X11_readsPerson_124, at_X11_readsPerson_16, at_X11_readsPerson_17, at_X11_readsPerson_48, at_X11_readsPerson_49, at_X11_readsPerson_60, at_X11_readsPerson_85, ca_X11_118, ca_X11_127, ca_X11_130, ca_X11_133, ca_X11_146, ca_X11_149, ca_X11_153, cd_X11_readsPerson_0, cd_X11_readsPerson_124, cd_X11_readsPerson_16, cd_X11_readsPerson_17, cd_X11_readsPerson_48, cd_X11_readsPerson_49, cd_X11_readsPerson_60, cd_X11_readsPerson_85, fl_X11_26, fl_X11_62, fl_X11_76, fl_X11_79, fl_X11_9, ev_b_16, ev_b_6, ev_b_7, ev_b_9, no_0, no_1, no_lt, no_le, no_eq, no_lt0, no_ge0, no_gt0, no_le0, no_eq0, no_0eq, no_eqm, no_meq, no_m0, no_mlt, no_mge, no_mgt, no_mm, no_i01, no_i10, no_in, no_or, no_ifm, no_mul, nI_add, no_sub, pk_div, iI_if, nI_clamp, oI_n, oI_s, not_true_eq_false, not_false_eq_true, forall_const, true_implies, false_and, and_false, or_false, false_or, Classical.not_not, true_or, or_true, no_b, no_eq1, eq_self, and_self, sk_301, sk_302, sl_302, sp_301, n0, w0, re_10, re_13, re_14, re_n, hN0, u0, f1, z1]
            | exact rfl
            | (split <;> omega))
      by_cases z3 : e3.1 = 0
      · refine ⟨_, _, _, main _ (if_pos z3), Fw_mw, NV_nx hv2, fun _ => ⟨nx_0 z3, mw_R⟩⟩
      · exact ⟨_, _, _, main _ (if_neg z3), Fw_mw, NV_nx hv2, fun q => absurd q z3⟩
end RItE
