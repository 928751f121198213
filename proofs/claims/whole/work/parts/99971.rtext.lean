/-! ===== the reference's parser beside the class's: a whole text ===== -/
section RText
variable {G : ev_G} {N : Nat → Nat} {B : Nat → Nat} {n m : Nat} {μ μ' μc : ev_M}
abbrev LTt (G : ev_G) (pc : Nat) (st : List Value) (M M' : ev_M) : Prop := LT G RX11 mi_X11_readsText (tb_X11_readsText 2) pc ([0].zip [.ref 301]) st M (.inl (none, M'))
set_option maxHeartbeats 2000000 in
theorem rt_err (hok : ev_ok sh_S G) {e : Nat × Int32} {a : Nat} {v : Int32} (h5 : e.1 < 5) (z : ¬ e.1 = 0) : LTt G 50 [] (re B n e a v μ) (re B n e a v μ) := by
  have his4 := m_is (μ := μ) (B := B) (n := n) (e := e) (a := a) (v := v) hok h5 (j := 4) (by omega)
  have his1 := m_is (μ := μ) (B := B) (n := n) (e := e) (a := a) (v := v) hok h5 (j := 1) (by omega)
  have hfa := m_faults (μ := μ) (B := B) (n := n) (e := e) (a := a) (v := v) hok h5 1
  rw [if_neg (fun q => z q.1)] at his4 his1
  rw [er_n z] at hfa
  refine LT_go (n := 400) (okM_X11_readsText 2) ?_
  rw [at_X11_readsText_50]
  repeat' (first
    | (with_reducible refine ev_rid ?_; simp (disch := first | omega | assumption) only [ev_run_c, ev_run_n, ev_fj, ev_stp, ev_lk, ev_fv, ev_as, ev_sz, ev_st1, ev_st2, ev_rm, ev_pk, ev_Jof, ev_go, lv_args, List.map_cons, List.map_nil, List.zip_cons_cons, List.zip_nil_left, List.zip_nil_right, List.nil_append, List.cons_append, ↓reduceIte, reduceCtorEq, Int.reduceToNat, Nat.reduceEqDiff, Nat.reduceAdd, Nat.reduceLT, Nat.reduceLeDiff, Nat.reduceMul, Nat.reduceSub, Value.category, false_implies, true_and, and_true, Bool.false_eq_true, Option.some.injEq, exists_eq_left', Option.toList_some, Option.toList_none, ev_km, ev_k2, ev_k3, ev_k4, ev_k5, ev_l0, ev_l1, sh_1, sh_2, sh_3, sh_4, sh_5, at_X11_readsText_19, at_X11_readsText_50, at_X11_readsText_69, at_X11_readsText_82, ca_X11_101, ca_X11_118, ca_X11_153, ca_X11_205, ca_X11_216, ca_X11_98, cd_X11_readsText_0, cd_X11_readsText_19, cd_X11_readsText_50, cd_X11_readsText_69, cd_X11_readsText_82, fl_X11_9, ev_b_10, ev_h_900, no_0, no_1, no_lt, no_le, no_eq, no_lt0, no_ge0, no_gt0, no_le0, no_eq0, no_0eq, no_eqm, no_meq, no_m0, no_mlt, no_mge, no_mgt, no_mm, no_i01, no_i10, no_in, no_or, no_ifm, no_mul, nI_add, no_sub, pk_div, iI_if, nI_clamp, oI_n, oI_s, not_true_eq_false, not_false_eq_true, forall_const, true_implies, false_and, and_false, or_false, false_or, Classical.not_not, true_or, or_true, no_b, no_eq1, eq_self, and_self, sk_301, sk_302, sl_302, sp_301])
    | (with_reducible refine ev_gid ?_; simp (disch := first | omega | assumption) only [ev_run_c, ev_run_n, ev_fj, ev_stp, ev_lk, ev_fv, ev_as, ev_sz, ev_st1, ev_st2, ev_rm, ev_pk, ev_Jof, ev_go, lv_args, List.map_cons, List.map_nil, List.zip_cons_cons, List.zip_nil_left, List.zip_nil_right, List.nil_append, List.cons_append, ↓reduceIte, reduceCtorEq, Int.reduceToNat, Nat.reduceEqDiff, Nat.reduceAdd, Nat.reduceLT, Nat.reduceLeDiff, Nat.reduceMul, Nat.reduceSub, Value.category, false_implies, true_and, and_true, Bool.false_eq_true, Option.some.injEq, exists_eq_left', Option.toList_some, Option.toList_none, ev_km, ev_k2, ev_k3, ev_k4, ev_k5, ev_l0, ev_l1, sh_1, sh_2, sh_3, sh_4, sh_5, at_X11_readsText_19, at_X11_readsText_50, at_X11_readsText_69, at_X11_readsText_82, ca_X11_101, ca_X11_118, ca_X11_153, ca_X11_205, ca_X11_216, ca_X11_98, cd_X11_readsText_0, cd_X11_readsText_19, cd_X11_readsText_50, cd_X11_readsText_69, cd_X11_readsText_82, fl_X11_9, ev_b_10, ev_h_900, no_0, no_1, no_lt, no_le, no_eq, no_lt0, no_ge0, no_gt0, no_le0, no_eq0, no_0eq, no_eqm, no_meq, no_m0, no_mlt, no_mge, no_mgt, no_mm, no_i01, no_i10, no_in, no_or, no_ifm, no_mul, nI_add, no_sub, pk_div, iI_if, nI_clamp, oI_n, oI_s, not_true_eq_false, not_false_eq_true, forall_const, true_implies, false_and, and_false, or_false, false_or, Classical.not_not, true_or, or_true, no_b, no_eq1, eq_self, and_self, sk_301, sk_302, sl_302, sp_301])
    | (with_reducible refine And.intro (fun q => ?_) (fun q => ?_) <;> (try simp (disch := first | omega | assumption) only [no_0, no_1, no_lt, no_le, no_eq, no_lt0, no_ge0, no_gt0, no_le0, no_eq0, no_0eq, no_eqm, no_meq, no_m0, no_mlt, no_mge, no_mgt, no_mm, no_i01, no_i10, no_in, no_or, no_ifm, no_mul, nI_add, no_sub, pk_div, iI_if, nI_clamp, oI_n, oI_s, not_true_eq_false, not_false_eq_true, forall_const, true_implies, false_and, and_false, or_false, false_or, Classical.not_not, true_or, or_true, no_b, no_eq1, eq_self, and_self, sk_301, sk_302, sl_302, sp_301] at q))
    | (with_reducible refine ev_ci his4 ?_)
    | (with_reducible refine ev_ci his1 ?_)
    | (with_reducible refine ev_ci hfa ?_)
    | with_reducible refine ev_ci (m_go hok (by first | with_reducible assumption | exact RB_mw (by with_reducible assumption)) ?_) ?_
    | with_reducible refine ev_ci (m_faults hok ?_ _) ?_
    | with_reducible refine ev_ci (m_readNumber hok (by with_reducible assumption) ?_ (by with_reducible assumption) ?_ ?_) ?_
    | with_reducible refine ev_ci (m_is hok ?_ ?_) ?_
    | omega
    | with_reducible assumption
    | with_reducible rfl
    | with_reducible refine lp_nx ?_ ?_ ?_ ?_
    | with_reducible refine lp_st ?_ ?_ ?_
    | with_reducible refine ls_c ?_ ?_
    | with_reducible refine vi_c ?_
    | with_reducible refine re_c ?_
    | with_reducible refine vz_c ?_
    | with_reducible refine rz_c ?_
    | exact trivial
    | with_reducible refine And.intro ?_ ?_
    | simp (disch := first | omega | assumption) only [ev_run_c, ev_run_n, ev_fj, ev_stp, ev_lk, ev_fv, ev_as, ev_sz, ev_st1, ev_st2, ev_rm, ev_pk, ev_Jof, ev_go, lv_args, List.map_cons, List.map_nil, List.zip_cons_cons, List.zip_nil_left, List.zip_nil_right, List.nil_append, List.cons_append, ↓reduceIte, reduceCtorEq, Int.reduceToNat, Nat.reduceEqDiff, Nat.reduceAdd, Nat.reduceLT, Nat.reduceLeDiff, Nat.reduceMul, Nat.reduceSub, Value.category, false_implies, true_and, and_true, Bool.false_eq_true, Option.some.injEq, exists_eq_left', Option.toList_some, Option.toList_none, ev_km, ev_k2, ev_k3, ev_k4, ev_k5, ev_l0, ev_l1, sh_1, sh_2, sh_3, sh_4, sh_5, at_X11_readsText_19, at_X11_readsText_50, at_X11_readsText_69, at_X11_readsText_82, ca_X11_101, ca_X11_118, ca_X11_153, ca_X11_205, ca_X11_216, ca_X11_98, cd_X11_readsText_0, cd_X11_readsText_19, cd_X11_readsText_50, cd_X11_readsText_69, cd_X11_readsText_82, fl_X11_9, ev_b_10, ev_h_900, no_0, no_1, no_lt, no_le, no_eq, no_lt0, no_ge0, no_gt0, no_le0, no_eq0, no_0eq, no_eqm, no_meq, no_m0, no_mlt, no_mge, no_mgt, no_mm, no_i01, no_i10, no_in, no_or, no_ifm, no_mul, nI_add, no_sub, pk_div, iI_if, nI_clamp, oI_n, oI_s, not_true_eq_false, not_false_eq_true, forall_const, true_implies, false_and, and_false, or_false, false_or, Classical.not_not, true_or, or_true, no_b, no_eq1, eq_self, and_self, sk_301, sk_302, sl_302, sp_301]
    | exact rfl
    | (split <;> omega))
set_option maxHeartbeats 2000000 in
/-- the items of the whole text -/
theorem rt_loop (hok : ev_ok sh_S G) (hks : KS G) (hT : TT B n m μc) : ∀ (x : Nat) (N : Nat → Nat) (a : Nat) (bd pl : Nat → Nat) (v : Int32) (μ : ev_M), m + 1 - a ≤ x → RB B n μ → MR N μ → INV N → NV B n a v → a ≤ m → μ.1 301 17 = nI 0 → ∃ k t' af vf μ2, Run B n k (N, a, 0, bd, pl, 0, (0, -1)) t' ∧ LTt G 50 [] (re B n (0, -1) a v μ) (re B n t'.e af vf μ2) ∧ Fw μ μ2 ∧ t'.e.1 < 5 ∧ (t'.e.1 = 0 → AC B n t' ∧ MR t'.Q μ2 ∧ INV t'.Q ∧ t'.e = (0, -1)) ∧ k ≤ 9 ^ 2 * 2 * (m + 1 - a) + EI 2 + 1 := by
  intro x
  induction x with
  | zero => intro N a bd pl v μ hx hR hN hI hv ha; exact absurd hx (by omega)
  | succ x ih =>
    intro N a bd pl v μ hx hR hN hI hv ha h17
    have his4 := m_is (μ := μ) (B := B) (n := n) (e := (0, -1)) (a := a) (v := v) hok (by decide) (j := 4) (by omega)
    have his1 := m_is (μ := μ) (B := B) (n := n) (e := (0, -1)) (a := a) (v := v) hok (by decide) (j := 1) (by omega)
    have hfa := m_faults (μ := μ) (B := B) (n := n) (e := (0, -1)) (a := a) (v := v) hok (by decide) 1
    have k4 : (rcd (tkd B n a) = 4) = (tkd B n a = 3) := rcd_eq (tkd_le B n a) (by omega)
    have k1 : (rcd (tkd B n a) = 1) = (tkd B n a = 0) := rcd_eq (tkd_le B n a) (by omega)
    by_cases c3 : tkd B n a = 3
    · rw [if_pos ⟨rfl, by rw [k4]; exact c3⟩] at his4
      have a1m : a + 1 ≤ m := tk_nxt hT ha (by omega)
      have hgo := m_go (μ := μ) (B := B) (n := n) (e := (0, -1)) (a := a) (v := v) hok hR (by decide)
      have nn : nx (0, -1) a = a + 1 := rfl
      have hv1 := NV_nx (B := B) (n := n) (e := (0, -1)) (a := a) hv
      rw [nn] at hgo hv1
      generalize w9 : nW B n (0, -1) a v = v1 at hgo hv1
      obtain ⟨k2, t1, a1, v2, μ1, i1, i2, i3, i4, i5, i6, i7⟩ := ri_all hok hks hT 2 N (a + 1) 0 bd pl v1 μ hR hN hI hv1 a1m h17 rfl
      have hR1 := RB_fw hR i3
      have hrun : Run B n 1 (N, a, 0, bd, pl, 0, (0, -1)) (N, a + 1, 0, bd, pl, 1, (0, -1)) := by
        have := Run_1 (B := B) (n := n) (s := (N, a, 0, bd, pl, 0, (0, -1))) rfl (fun q => by have : tkd B n a = 0 := q.2.1; omega)
        rw [stp_semi c3] at this
        exact this
      by_cases z1 : t1.e.1 = 0
      · obtain ⟨⟨o1, o2, o3, o4, o5, o6, o7, o8⟩, o9⟩ := i6 z1
        obtain ⟨Q1, a9, d9, bd1, pl1, due9, e9⟩ := t1
        have o1 : d9 = 0 := o1
        have o2 : due9 = 0 := o2
        have o3 : e9 = (0, -1) := o3
        have o4 : a1 = a9 := o4
        subst o1
        subst o2
        subst o3
        subst o4
        have o7 : a1 ≤ m := o7
        have o9 : It B n (Sm B n) 2 (a + 1) a1 k2 := o9
        have hle := It_le (B := B) (n := n) (S := Sm B n) (fun _ _ h => Sm_lt h) 2 (a + 1) a1 k2 o9
        have i2 : ev_T sh_S G (mi_X11_readsItem 2) [.ref 301] (re B n (0, -1) (a + 1) v1 μ) (.inl (none, re B n (0, -1) a1 v2 μ1)) := i2
        obtain ⟨k3, t2, af, vf, μ2, j1, j2, j3, j5, j6, j7⟩ := ih Q1 a1 bd1 pl1 v2 μ1 (by omega) hR1 o5 o6 i4 o7 ((i3.1 301 17 (by omega) (by omega)).trans h17)
        refine ⟨1 + (k2 + k3), t2, af, vf, μ2, Run_tr hrun (Run_tr i1 j1), ?_, Fw_tr i3 j3, j5, j6, ?_⟩
        · refine LT_go1 (n := 400) (okM_X11_readsText 2) j2 ?_
          rw [at_X11_readsText_50]
          repeat' (first
            | (with_reducible refine ev_rid ?_; simp (disch := first | omega | assumption) only [ev_run_c, ev_run_n, ev_fj, ev_stp, ev_lk, ev_fv, ev_as, ev_sz, ev_st1, ev_st2, ev_rm, ev_pk, ev_Jof, ev_go, lv_args, List.map_cons, List.map_nil, List.zip_cons_cons, List.zip_nil_left, List.zip_nil_right, List.nil_append, List.cons_append, ↓reduceIte, reduceCtorEq, Int.reduceToNat, Nat.reduceEqDiff, Nat.reduceAdd, Nat.reduceLT, Nat.reduceLeDiff, Nat.reduceMul, Nat.reduceSub, Value.category, false_implies, true_and, and_true, Bool.false_eq_true, Option.some.injEq, exists_eq_left', Option.toList_some, Option.toList_none, ev_km, ev_k2, ev_k3, ev_k4, ev_k5, ev_l0, ev_l1, sh_1, sh_2, sh_3, sh_4, sh_5, at_X11_readsText_19, at_X11_readsText_50, at_X11_readsText_69, at_X11_readsText_82, ca_X11_101, ca_X11_118, ca_X11_153, ca_X11_205, ca_X11_216, ca_X11_98, cd_X11_readsText_0, cd_X11_readsText_19, cd_X11_readsText_50, cd_X11_readsText_69, cd_X11_readsText_82, fl_X11_9, ev_b_10, ev_h_900, no_0, no_1, no_lt, no_le, no_eq, no_lt0, no_ge0, no_gt0, no_le0, no_eq0, no_0eq, no_eqm, no_meq, no_m0, no_mlt, no_mge, no_mgt, no_mm, no_i01, no_i10, no_in, no_or, no_ifm, no_mul, nI_add, no_sub, pk_div, iI_if, nI_clamp, oI_n, oI_s, not_true_eq_false, not_false_eq_true, forall_const, true_implies, false_and, and_false, or_false, false_or, Classical.not_not, true_or, or_true, no_b, no_eq1, eq_self, and_self, sk_301, sk_302, sl_302, sp_301])
            | (with_reducible refine ev_gid ?_; simp (disch := first | omega | assumption) only [ev_run_c, ev_run_n, ev_fj, ev_stp, ev_lk, ev_fv, ev_as, ev_sz, ev_st1, ev_st2, ev_rm, ev_pk, ev_Jof, ev_go, lv_args, List.map_cons, List.map_nil, List.zip_cons_cons, List.zip_nil_left, List.zip_nil_right, List.nil_append, List.cons_append, ↓reduceIte, reduceCtorEq, Int.reduceToNat, Nat.reduceEqDiff, Nat.reduceAdd, Nat.reduceLT, Nat.reduceLeDiff, Nat.reduceMul, Nat.reduceSub, Value.category, false_implies, true_and, and_true, Bool.false_eq_true, Option.some.injEq, exists_eq_left', Option.toList_some, Option.toList_none, ev_km, ev_k2, ev_k3, ev_k4, ev_k5, ev_l0, ev_l1, sh_1, sh_2, sh_3, sh_4, sh_5, at_X11_readsText_19, at_X11_readsText_50, at_X11_readsText_69, at_X11_readsText_82, ca_X11_101, ca_X11_118, ca_X11_153, ca_X11_205, ca_X11_216, ca_X11_98, cd_X11_readsText_0, cd_X11_readsText_19, cd_X11_readsText_50, cd_X11_readsText_69, cd_X11_readsText_82, fl_X11_9, ev_b_10, ev_h_900, no_0, no_1, no_lt, no_le, no_eq, no_lt0, no_ge0, no_gt0, no_le0, no_eq0, no_0eq, no_eqm, no_meq, no_m0, no_mlt, no_mge, no_mgt, no_mm, no_i01, no_i10, no_in, no_or, no_ifm, no_mul, nI_add, no_sub, pk_div, iI_if, nI_clamp, oI_n, oI_s, not_true_eq_false, not_false_eq_true, forall_const, true_implies, false_and, and_false, or_false, false_or, Classical.not_not, true_or, or_true, no_b, no_eq1, eq_self, and_self, sk_301, sk_302, sl_302, sp_301])
            | (with_reducible refine And.intro (fun q => ?_) (fun q => ?_) <;> (try simp (disch := first | omega | assumption) only [no_0, no_1, no_lt, no_le, no_eq, no_lt0, no_ge0, no_gt0, no_le0, no_eq0, no_0eq, no_eqm, no_meq, no_m0, no_mlt, no_mge, no_mgt, no_mm, no_i01, no_i10, no_in, no_or, no_ifm, no_mul, nI_add, no_sub, pk_div, iI_if, nI_clamp, oI_n, oI_s, not_true_eq_false, not_false_eq_true, forall_const, true_implies, false_and, and_false, or_false, false_or, Classical.not_not, true_or, or_true, no_b, no_eq1, eq_self, and_self, sk_301, sk_302, sl_302, sp_301] at q))
            | (with_reducible refine ev_ci his4 ?_)
            | (with_reducible refine ev_ci hgo ?_)
            | (with_reducible refine ev_ci i2 ?_)
            | with_reducible refine ev_ci (m_go hok (by first | with_reducible assumption | exact RB_mw (by with_reducible assumption)) ?_) ?_
            | with_reducible refine ev_ci (m_faults hok ?_ _) ?_
            | with_reducible refine ev_ci (m_readNumber hok (by with_reducible assumption) ?_ (by with_reducible assumption) ?_ ?_) ?_
            | with_reducible refine ev_ci (m_is hok ?_ ?_) ?_
            | omega
            | with_reducible assumption
            | with_reducible rfl
            | with_reducible refine lp_nx ?_ ?_ ?_ ?_
            | with_reducible refine lp_st ?_ ?_ ?_
            | with_reducible refine ls_c ?_ ?_
            | with_reducible refine vi_c ?_
            | with_reducible refine re_c ?_
            | with_reducible refine vz_c ?_
            | with_reducible refine rz_c ?_
            | exact trivial
            | with_reducible refine And.intro ?_ ?_
            | simp (disch := first | omega | assumption) only [ev_run_c, ev_run_n, ev_fj, ev_stp, ev_lk, ev_fv, ev_as, ev_sz, ev_st1, ev_st2, ev_rm, ev_pk, ev_Jof, ev_go, lv_args, List.map_cons, List.map_nil, List.zip_cons_cons, List.zip_nil_left, List.zip_nil_right, List.nil_append, List.cons_append, ↓reduceIte, reduceCtorEq, Int.reduceToNat, Nat.reduceEqDiff, Nat.reduceAdd, Nat.reduceLT, Nat.reduceLeDiff, Nat.reduceMul, Nat.reduceSub, Value.category, false_implies, true_and, and_true, Bool.false_eq_true, Option.some.injEq, exists_eq_left', Option.toList_some, Option.toList_none, ev_km, ev_k2, ev_k3, ev_k4, ev_k5, ev_l0, ev_l1, sh_1, sh_2, sh_3, sh_4, sh_5, at_X11_readsText_19, at_X11_readsText_50, at_X11_readsText_69, at_X11_readsText_82, ca_X11_101, ca_X11_118, ca_X11_153, ca_X11_205, ca_X11_216, ca_X11_98, cd_X11_readsText_0, cd_X11_readsText_19, cd_X11_readsText_50, cd_X11_readsText_69, cd_X11_readsText_82, fl_X11_9, ev_b_10, ev_h_900, no_0, no_1, no_lt, no_le, no_eq, no_lt0, no_ge0, no_gt0, no_le0, no_eq0, no_0eq, no_eqm, no_meq, no_m0, no_mlt, no_mge, no_mgt, no_mm, no_i01, no_i10, no_in, no_or, no_ifm, no_mul, nI_add, no_sub, pk_div, iI_if, nI_clamp, oI_n, oI_s, not_true_eq_false, not_false_eq_true, forall_const, true_implies, false_and, and_false, or_false, false_or, Classical.not_not, true_or, or_true, no_b, no_eq1, eq_self, and_self, sk_301, sk_302, sl_302, sp_301]
            | exact rfl
            | (split <;> omega))
        · have e1 : m + 1 - a = (a1 - (a + 1)) + (m + 1 - a1) + 1 := by omega
          rw [e1, Nat.mul_add, Nat.mul_add]
          omega
      · refine ⟨1 + k2, t1, a1, v2, μ1, Run_tr hrun i1, ?_, i3, i5, fun z => absurd z z1, ?_⟩
        · refine LT_go1 (n := 400) (okM_X11_readsText 2) (rt_err hok i5 z1) ?_
          rw [at_X11_readsText_50]
          repeat' (first
            | (with_reducible refine ev_rid ?_; simp (disch := first | omega | assumption) only [ev_run_c, ev_run_n, ev_fj, ev_stp, ev_lk, ev_fv, ev_as, ev_sz, ev_st1, ev_st2, ev_rm, ev_pk, ev_Jof, ev_go, lv_args, List.map_cons, List.map_nil, List.zip_cons_cons, List.zip_nil_left, List.zip_nil_right, List.nil_append, List.cons_append, ↓reduceIte, reduceCtorEq, Int.reduceToNat, Nat.reduceEqDiff, Nat.reduceAdd, Nat.reduceLT, Nat.reduceLeDiff, Nat.reduceMul, Nat.reduceSub, Value.category, false_implies, true_and, and_true, Bool.false_eq_true, Option.some.injEq, exists_eq_left', Option.toList_some, Option.toList_none, ev_km, ev_k2, ev_k3, ev_k4, ev_k5, ev_l0, ev_l1, sh_1, sh_2, sh_3, sh_4, sh_5, at_X11_readsText_19, at_X11_readsText_50, at_X11_readsText_69, at_X11_readsText_82, ca_X11_101, ca_X11_118, ca_X11_153, ca_X11_205, ca_X11_216, ca_X11_98, cd_X11_readsText_0, cd_X11_readsText_19, cd_X11_readsText_50, cd_X11_readsText_69, cd_X11_readsText_82, fl_X11_9, ev_b_10, ev_h_900, no_0, no_1, no_lt, no_le, no_eq, no_lt0, no_ge0, no_gt0, no_le0, no_eq0, no_0eq, no_eqm, no_meq, no_m0, no_mlt, no_mge, no_mgt, no_mm, no_i01, no_i10, no_in, no_or, no_ifm, no_mul, nI_add, no_sub, pk_div, iI_if, nI_clamp, oI_n, oI_s, not_true_eq_false, not_false_eq_true, forall_const, true_implies, false_and, and_false, or_false, false_or, Classical.not_not, true_or, or_true, no_b, no_eq1, eq_self, and_self, sk_301, sk_302, sl_302, sp_301])
            | (with_reducible refine ev_gid ?_; simp (disch := first | omega | assumption) only [ev_run_c, ev_run_n, ev_fj, ev_stp, ev_lk, ev_fv, ev_as, ev_sz, ev_st1, ev_st2, ev_rm, ev_pk, ev_Jof, ev_go, lv_args, List.map_cons, List.map_nil, List.zip_cons_cons, List.zip_nil_left, List.zip_nil_right, List.nil_append, List.cons_append, ↓reduceIte, reduceCtorEq, Int.reduceToNat, Nat.reduceEqDiff, Nat.reduceAdd, Nat.reduceLT, Nat.reduceLeDiff, Nat.reduceMul, Nat.reduceSub, Value.category, false_implies, true_and, and_true, Bool.false_eq_true, Option.some.injEq, exists_eq_left', Option.toList_some, Option.toList_none, ev_km, ev_k2, ev_k3, ev_k4, ev_k5, ev_l0, ev_l1, sh_1, sh_2, sh_3, sh_4, sh_5, at_X11_readsText_19, at_X11_readsText_50, at_X11_readsText_69, at_X11_readsText_82, ca_X11_101, ca_X11_118, ca_X11_153, ca_X11_205, ca_X11_216, ca_X11_98, cd_X11_readsText_0, cd_X11_readsText_19, cd_X11_readsText_50, cd_X11_readsText_69, cd_X11_readsText_82, fl_X11_9, ev_b_10, ev_h_900, no_0, no_1, no_lt, no_le, no_eq, no_lt0, no_ge0, no_gt0, no_le0, no_eq0, no_0eq, no_eqm, no_meq, no_m0, no_mlt, no_mge, no_mgt, no_mm, no_i01, no_i10, no_in, no_or, no_ifm, no_mul, nI_add, no_sub, pk_div, iI_if, nI_clamp, oI_n, oI_s, not_true_eq_false, not_false_eq_true, forall_const, true_implies, false_and, and_false, or_false, false_or, Classical.not_not, true_or, or_true, no_b, no_eq1, eq_self, and_self, sk_301, sk_302, sl_302, sp_301])
            | (with_reducible refine And.intro (fun q => ?_) (fun q => ?_) <;> (try simp (disch := first | omega | assumption) only [no_0, no_1, no_lt, no_le, no_eq, no_lt0, no_ge0, no_gt0, no_le0, no_eq0, no_0eq, no_eqm, no_meq, no_m0, no_mlt, no_mge, no_mgt, no_mm, no_i01, no_i10, no_in, no_or, no_ifm, no_mul, nI_add, no_sub, pk_div, iI_if, nI_clamp, oI_n, oI_s, not_true_eq_false, not_false_eq_true, forall_const, true_implies, false_and, and_false, or_false, false_or, Classical.not_not, true_or, or_true, no_b, no_eq1, eq_self, and_self, sk_301, sk_302, sl_302, sp_301] at q))
            | (with_reducible refine ev_ci his4 ?_)
            | (with_reducible refine ev_ci hgo ?_)
            | (with_reducible refine ev_ci i2 ?_)
            | with_reducible refine ev_ci (m_go hok (by first | with_reducible assumption | exact RB_mw (by with_reducible assumption)) ?_) ?_
            | with_reducible refine ev_ci (m_faults hok ?_ _) ?_
            | with_reducible refine ev_ci (m_readNumber hok (by with_reducible assumption) ?_ (by with_reducible assumption) ?_ ?_) ?_
            | with_reducible refine ev_ci (m_is hok ?_ ?_) ?_
            | omega
            | with_reducible assumption
            | with_reducible rfl
            | with_reducible refine lp_nx ?_ ?_ ?_ ?_
            | with_reducible refine lp_st ?_ ?_ ?_
            | with_reducible refine ls_c ?_ ?_
            | with_reducible refine vi_c ?_
            | with_reducible refine re_c ?_
            | with_reducible refine vz_c ?_
            | with_reducible refine rz_c ?_
            | exact trivial
            | with_reducible refine And.intro ?_ ?_
            | simp (disch := first | omega | assumption) only [ev_run_c, ev_run_n, ev_fj, ev_stp, ev_lk, ev_fv, ev_as, ev_sz, ev_st1, ev_st2, ev_rm, ev_pk, ev_Jof, ev_go, lv_args, List.map_cons, List.map_nil, List.zip_cons_cons, List.zip_nil_left, List.zip_nil_right, List.nil_append, List.cons_append, ↓reduceIte, reduceCtorEq, Int.reduceToNat, Nat.reduceEqDiff, Nat.reduceAdd, Nat.reduceLT, Nat.reduceLeDiff, Nat.reduceMul, Nat.reduceSub, Value.category, false_implies, true_and, and_true, Bool.false_eq_true, Option.some.injEq, exists_eq_left', Option.toList_some, Option.toList_none, ev_km, ev_k2, ev_k3, ev_k4, ev_k5, ev_l0, ev_l1, sh_1, sh_2, sh_3, sh_4, sh_5, at_X11_readsText_19, at_X11_readsText_50, at_X11_readsText_69, at_X11_readsText_82, ca_X11_101, ca_X11_118, ca_X11_153, ca_X11_205, ca_X11_216, ca_X11_98, cd_X11_readsText_0, cd_X11_readsText_19, cd_X11_readsText_50, cd_X11_readsText_69, cd_X11_readsText_82, fl_X11_9, ev_b_10, ev_h_900, no_0, no_1, no_lt, no_le, no_eq, no_lt0, no_ge0, no_gt0, no_le0, no_eq0, no_0eq, no_eqm, no_meq, no_m0, no_mlt, no_mge, no_mgt, no_mm, no_i01, no_i10, no_in, no_or, no_ifm, no_mul, nI_add, no_sub, pk_div, iI_if, nI_clamp, oI_n, oI_s, not_true_eq_false, not_false_eq_true, forall_const, true_implies, false_and, and_false, or_false, false_or, Classical.not_not, true_or, or_true, no_b, no_eq1, eq_self, and_self, sk_301, sk_302, sl_302, sp_301]
            | exact rfl
            | (split <;> omega))
        · have := i7 z1
          omega
    · rw [if_neg (fun q => c3 (by rw [← k4]; exact q.2))] at his4
      by_cases c0 : tkd B n a = 0
      · rw [if_pos ⟨rfl, by rw [k1]; exact c0⟩] at his1
        refine ⟨0, _, a, v, μ, Run_0 _, ?_, Fw_rf, (show (0 : Nat) < 5 by decide), fun _ => ⟨⟨rfl, c0, rfl⟩, hN, hI, rfl⟩, Nat.zero_le _⟩
        refine LT_go (n := 400) (okM_X11_readsText 2) ?_
        rw [at_X11_readsText_50]
        repeat' (first
          | (with_reducible refine ev_rid ?_; simp (disch := first | omega | assumption) only [ev_run_c, ev_run_n, ev_fj, ev_stp, ev_lk, ev_fv, ev_as, ev_sz, ev_st1, ev_st2, ev_rm, ev_pk, ev_Jof, ev_go, lv_args, List.map_cons, List.map_nil, List.zip_cons_cons, List.zip_nil_left, List.zip_nil_right, List.nil_append, List.cons_append, ↓reduceIte, reduceCtorEq, Int.reduceToNat, Nat.reduceEqDiff, Nat.reduceAdd, Nat.reduceLT, Nat.reduceLeDiff, Nat.reduceMul, Nat.reduceSub, Value.category, false_implies, true_and, and_true, Bool.false_eq_true, Option.some.injEq, exists_eq_left', Option.toList_some, Option.toList_none, ev_km, ev_k2, ev_k3, ev_k4, ev_k5, ev_l0, ev_l1, sh_1, sh_2, sh_3, sh_4, sh_5, at_X11_readsText_19, at_X11_readsText_50, at_X11_readsText_69, at_X11_readsText_82, ca_X11_101, ca_X11_118, ca_X11_153, ca_X11_205, ca_X11_216, ca_X11_98, cd_X11_readsText_0, cd_X11_readsText_19, cd_X11_readsText_50, cd_X11_readsText_69, cd_X11_readsText_82, fl_X11_9, ev_b_10, ev_h_900, no_0, no_1, no_lt, no_le, no_eq, no_lt0, no_ge0, no_gt0, no_le0, no_eq0, no_0eq, no_eqm, no_meq, no_m0, no_mlt, no_mge, no_mgt, no_mm, no_i01, no_i10, no_in, no_or, no_ifm, no_mul, nI_add, no_sub, pk_div, iI_if, nI_clamp, oI_n, oI_s, not_true_eq_false, not_false_eq_true, forall_const, true_implies, false_and, and_false, or_false, false_or, Classical.not_not, true_or, or_true, no_b, no_eq1, eq_self, and_self, sk_301, sk_302, sl_302, sp_301])
          | (with_reducible refine ev_gid ?_; simp (disch := first | omega | assumption) only [ev_run_c, ev_run_n, ev_fj, ev_stp, ev_lk, ev_fv, ev_as, ev_sz, ev_st1, ev_st2, ev_rm, ev_pk, ev_Jof, ev_go, lv_args, List.map_cons, List.map_nil, List.zip_cons_cons, List.zip_nil_left, List.zip_nil_right, List.nil_append, List.cons_append, ↓reduceIte, reduceCtorEq, Int.reduceToNat, Nat.reduceEqDiff, Nat.reduceAdd, Nat.reduceLT, Nat.reduceLeDiff, Nat.reduceMul, Nat.reduceSub, Value.category, false_implies, true_and, and_true, Bool.false_eq_true, Option.some.injEq, exists_eq_left', Option.toList_some, Option.toList_none, ev_km, ev_k2, ev_k3, ev_k4, ev_k5, ev_l0, ev_l1, sh_1, sh_2, sh_3, sh_4, sh_5, at_X11_readsText_19, at_X11_readsText_50, at_X11_readsText_69, at_X11_readsText_82, ca_X11_101, ca_X11_118, ca_X11_153, ca_X11_205, ca_X11_216, ca_X11_98, cd_X11_readsText_0, cd_X11_readsText_19, cd_X11_readsText_50, cd_X11_readsText_69, cd_X11_readsText_82, fl_X11_9, ev_b_10, ev_h_900, no_0, no_1, no_lt, no_le, no_eq, no_lt0, no_ge0, no_gt0, no_le0, no_eq0, no_0eq, no_eqm, no_meq, no_m0, no_mlt, no_mge, no_mgt, no_mm, no_i01, no_i10, no_in, no_or, no_ifm, no_mul, nI_add, no_sub, pk_div, iI_if, nI_clamp, oI_n, oI_s, not_true_eq_false, not_false_eq_true, forall_const, true_implies, false_and, and_false, or_false, false_or, Classical.not_not, true_or, or_true, no_b, no_eq1, eq_self, and_self, sk_301, sk_302, sl_302, sp_301])
          | (with_reducible refine And.intro (fun q => ?_) (fun q => ?_) <;> (try simp (disch := first | omega | assumption) only [no_0, no_1, no_lt, no_le, no_eq, no_lt0, no_ge0, no_gt0, no_le0, no_eq0, no_0eq, no_eqm, no_meq, no_m0, no_mlt, no_mge, no_mgt, no_mm, no_i01, no_i10, no_in, no_or, no_ifm, no_mul, nI_add, no_sub, pk_div, iI_if, nI_clamp, oI_n, oI_s, not_true_eq_false, not_false_eq_true, forall_const, true_implies, false_and, and_false, or_false, false_or, Classical.not_not, true_or, or_true, no_b, no_eq1, eq_self, and_self, sk_301, sk_302, sl_302, sp_301] at q))
          | (with_reducible refine ev_ci his4 ?_)
          | (with_reducible refine ev_ci his1 ?_)
          | with_reducible refine ev_ci (m_go hok (by first | with_reducible assumption | exact RB_mw (by with_reducible assumption)) ?_) ?_
          | with_reducible refine ev_ci (m_faults hok ?_ _) ?_
          | with_reducible refine ev_ci (m_readNumber hok (by with_reducible assumption) ?_ (by with_reducible assumption) ?_ ?_) ?_
          | with_reducible refine ev_ci (m_is hok ?_ ?_) ?_
          | omega
          | with_reducible assumption
          | with_reducible rfl
          | with_reducible refine lp_nx ?_ ?_ ?_ ?_
          | with_reducible refine lp_st ?_ ?_ ?_
          | with_reducible refine ls_c ?_ ?_
          | with_reducible refine vi_c ?_
          | with_reducible refine re_c ?_
          | with_reducible refine vz_c ?_
          | with_reducible refine rz_c ?_
          | exact trivial
          | with_reducible refine And.intro ?_ ?_
          | simp (disch := first | omega | assumption) only [ev_run_c, ev_run_n, ev_fj, ev_stp, ev_lk, ev_fv, ev_as, ev_sz, ev_st1, ev_st2, ev_rm, ev_pk, ev_Jof, ev_go, lv_args, List.map_cons, List.map_nil, List.zip_cons_cons, List.zip_nil_left, List.zip_nil_right, List.nil_append, List.cons_append, ↓reduceIte, reduceCtorEq, Int.reduceToNat, Nat.reduceEqDiff, Nat.reduceAdd, Nat.reduceLT, Nat.reduceLeDiff, Nat.reduceMul, Nat.reduceSub, Value.category, false_implies, true_and, and_true, Bool.false_eq_true, Option.some.injEq, exists_eq_left', Option.toList_some, Option.toList_none, ev_km, ev_k2, ev_k3, ev_k4, ev_k5, ev_l0, ev_l1, sh_1, sh_2, sh_3, sh_4, sh_5, at_X11_readsText_19, at_X11_readsText_50, at_X11_readsText_69, at_X11_readsText_82, ca_X11_101, ca_X11_118, ca_X11_153, ca_X11_205, ca_X11_216, ca_X11_98, cd_X11_readsText_0, cd_X11_readsText_19, cd_X11_readsText_50, cd_X11_readsText_69, cd_X11_readsText_82, fl_X11_9, ev_b_10, ev_h_900, no_0, no_1, no_lt, no_le, no_eq, no_lt0, no_ge0, no_gt0, no_le0, no_eq0, no_0eq, no_eqm, no_meq, no_m0, no_mlt, no_mge, no_mgt, no_mm, no_i01, no_i10, no_in, no_or, no_ifm, no_mul, nI_add, no_sub, pk_div, iI_if, nI_clamp, oI_n, oI_s, not_true_eq_false, not_false_eq_true, forall_const, true_implies, false_and, and_false, or_false, false_or, Classical.not_not, true_or, or_true, no_b, no_eq1, eq_self, and_self, sk_301, sk_302, sl_302, sp_301]
          | exact rfl
          | (split <;> omega))
      · rw [if_neg (fun q => c0 (by rw [← k1]; exact q.2))] at his1
        have hb : stp B n (N, a, 0, bd, pl, 0, (0, -1)) = (N, a, 0, bd, pl, 0, er (0, -1) True 1 a B n) := stp_bad c3 (fun q => absurd q.2 (Nat.lt_irrefl 0))
        refine ⟨1, (N, a, 0, bd, pl, 0, er (0, -1) True 1 a B n), a, v, μ, ?_, ?_, Fw_rf, er_c (by decide) (by decide), fun z => absurd (er_yc.symm.trans z) (by decide), by omega⟩
        · have := Run_1 (B := B) (n := n) (s := (N, a, 0, bd, pl, 0, (0, -1))) rfl (fun q => c0 q.2.1)
          rw [hb] at this
          exact this
        · refine LT_go (n := 400) (okM_X11_readsText 2) ?_
          rw [at_X11_readsText_50]
          repeat' (first
            | (with_reducible refine ev_rid ?_; simp (disch := first | omega | assumption) only [ev_run_c, ev_run_n, ev_fj, ev_stp, ev_lk, ev_fv, ev_as, ev_sz, ev_st1, ev_st2, ev_rm, ev_pk, ev_Jof, ev_go, lv_args, List.map_cons, List.map_nil, List.zip_cons_cons, List.zip_nil_left, List.zip_nil_right, List.nil_append, List.cons_append, ↓reduceIte, reduceCtorEq, Int.reduceToNat, Nat.reduceEqDiff, Nat.reduceAdd, Nat.reduceLT, Nat.reduceLeDiff, Nat.reduceMul, Nat.reduceSub, Value.category, false_implies, true_and, and_true, Bool.false_eq_true, Option.some.injEq, exists_eq_left', Option.toList_some, Option.toList_none, ev_km, ev_k2, ev_k3, ev_k4, ev_k5, ev_l0, ev_l1, sh_1, sh_2, sh_3, sh_4, sh_5, at_X11_readsText_19, at_X11_readsText_50, at_X11_readsText_69, at_X11_readsText_82, ca_X11_101, ca_X11_118, ca_X11_153, ca_X11_205, ca_X11_216, ca_X11_98, cd_X11_readsText_0, cd_X11_readsText_19, cd_X11_readsText_50, cd_X11_readsText_69, cd_X11_readsText_82, fl_X11_9, ev_b_10, ev_h_900, no_0, no_1, no_lt, no_le, no_eq, no_lt0, no_ge0, no_gt0, no_le0, no_eq0, no_0eq, no_eqm, no_meq, no_m0, no_mlt, no_mge, no_mgt, no_mm, no_i01, no_i10, no_in, no_or, no_ifm, no_mul, nI_add, no_sub, pk_div, iI_if, nI_clamp, oI_n, oI_s, not_true_eq_false, not_false_eq_true, forall_const, true_implies, false_and, and_false, or_false, false_or, Classical.not_not, true_or, or_true, no_b, no_eq1, eq_self, and_self, sk_301, sk_302, sl_302, sp_301])
            | (with_reducible refine ev_gid ?_; simp (disch := first | omega | assumption) only [ev_run_c, ev_run_n, ev_fj, ev_stp, ev_lk, ev_fv, ev_as, ev_sz, ev_st1, ev_st2, ev_rm, ev_pk, ev_Jof, ev_go, lv_args, List.map_cons, List.map_nil, List.zip_cons_cons, List.zip_nil_left, List.zip_nil_right, List.nil_append, List.cons_append, ↓reduceIte, reduceCtorEq, Int.reduceToNat, Nat.reduceEqDiff, Nat.reduceAdd, Nat.reduceLT, Nat.reduceLeDiff, Nat.reduceMul, Nat.reduceSub, Value.category, false_implies, true_and, and_true, Bool.false_eq_true, Option.some.injEq, exists_eq_left', Option.toList_some, Option.toList_none, ev_km, ev_k2, ev_k3, ev_k4, ev_k5, ev_l0, ev_l1, sh_1, sh_2, sh_3, sh_4, sh_5, at_X11_readsText_19, at_X11_readsText_50, at_X11_readsText_69, at_X11_readsText_82, ca_X11_101, ca_X11_118, ca_X11_153, ca_X11_205, ca_X11_216, ca_X11_98, cd_X11_readsText_0, cd_X11_readsText_19, cd_X11_readsText_50, cd_X11_readsText_69, cd_X11_readsText_82, fl_X11_9, ev_b_10, ev_h_900, no_0, no_1, no_lt, no_le, no_eq, no_lt0, no_ge0, no_gt0, no_le0, no_eq0, no_0eq, no_eqm, no_meq, no_m0, no_mlt, no_mge, no_mgt, no_mm, no_i01, no_i10, no_in, no_or, no_ifm, no_mul, nI_add, no_sub, pk_div, iI_if, nI_clamp, oI_n, oI_s, not_true_eq_false, not_false_eq_true, forall_const, true_implies, false_and, and_false, or_false, false_or, Classical.not_not, true_or, or_true, no_b, no_eq1, eq_self, and_self, sk_301, sk_302, sl_302, sp_301])
            | (with_reducible refine And.intro (fun q => ?_) (fun q => ?_) <;> (try simp (disch := first | omega | assumption) only [no_0, no_1, no_lt, no_le, no_eq, no_lt0, no_ge0, no_gt0, no_le0, no_eq0, no_0eq, no_eqm, no_meq, no_m0, no_mlt, no_mge, no_mgt, no_mm, no_i01, no_i10, no_in, no_or, no_ifm, no_mul, nI_add, no_sub, pk_div, iI_if, nI_clamp, oI_n, oI_s, not_true_eq_false, not_false_eq_true, forall_const, true_implies, false_and, and_false, or_false, false_or, Classical.not_not, true_or, or_true, no_b, no_eq1, eq_self, and_self, sk_301, sk_302, sl_302, sp_301] at q))
            | (with_reducible refine ev_ci his4 ?_)
            | (with_reducible refine ev_ci his1 ?_)
            | (with_reducible refine ev_ci hfa ?_)
            | with_reducible refine ev_ci (m_go hok (by first | with_reducible assumption | exact RB_mw (by with_reducible assumption)) ?_) ?_
            | with_reducible refine ev_ci (m_faults hok ?_ _) ?_
            | with_reducible refine ev_ci (m_readNumber hok (by with_reducible assumption) ?_ (by with_reducible assumption) ?_ ?_) ?_
            | with_reducible refine ev_ci (m_is hok ?_ ?_) ?_
            | omega
            | with_reducible assumption
            | with_reducible rfl
            | with_reducible refine lp_nx ?_ ?_ ?_ ?_
            | with_reducible refine lp_st ?_ ?_ ?_
            | with_reducible refine ls_c ?_ ?_
            | with_reducible refine vi_c ?_
            | with_reducible refine re_c ?_
            | with_reducible refine vz_c ?_
            | with_reducible refine rz_c ?_
            | exact trivial
            | with_reducible refine And.intro ?_ ?_
            | simp (disch := first | omega | assumption) only [ev_run_c, ev_run_n, ev_fj, ev_stp, ev_lk, ev_fv, ev_as, ev_sz, ev_st1, ev_st2, ev_rm, ev_pk, ev_Jof, ev_go, lv_args, List.map_cons, List.map_nil, List.zip_cons_cons, List.zip_nil_left, List.zip_nil_right, List.nil_append, List.cons_append, ↓reduceIte, reduceCtorEq, Int.reduceToNat, Nat.reduceEqDiff, Nat.reduceAdd, Nat.reduceLT, Nat.reduceLeDiff, Nat.reduceMul, Nat.reduceSub, Value.category, false_implies, true_and, and_true, Bool.false_eq_true, Option.some.injEq, exists_eq_left', Option.toList_some, Option.toList_none, ev_km, ev_k2, ev_k3, ev_k4, ev_k5, ev_l0, ev_l1, sh_1, sh_2, sh_3, sh_4, sh_5, at_X11_readsText_19, at_X11_readsText_50, at_X11_readsText_69, at_X11_readsText_82, ca_X11_101, ca_X11_118, ca_X11_153, ca_X11_205, ca_X11_216, ca_X11_98, cd_X11_readsText_0, cd_X11_readsText_19, cd_X11_readsText_50, cd_X11_readsText_69, cd_X11_readsText_82, fl_X11_9, ev_b_10, ev_h_900, no_0, no_1, no_lt, no_le, no_eq, no_lt0, no_ge0, no_gt0, no_le0, no_eq0, no_0eq, no_eqm, no_meq, no_m0, no_mlt, no_mge, no_mgt, no_mm, no_i01, no_i10, no_in, no_or, no_ifm, no_mul, nI_add, no_sub, pk_div, iI_if, nI_clamp, oI_n, oI_s, not_true_eq_false, not_false_eq_true, forall_const, true_implies, false_and, and_false, or_false, false_or, Classical.not_not, true_or, or_true, no_b, no_eq1, eq_self, and_self, sk_301, sk_302, sl_302, sp_301]
            | exact rfl
            | (split <;> omega))
theorem dTx : decode cX11_readsText 5 = .ok (.ldc_w 311, 3) := by decide +kernel
theorem EI_2 : EI 2 = 100043 := by decide +kernel
set_option maxHeartbeats 4000000 in
theorem m_readsText (hok : ev_ok sh_S G) (hks : KS G) (hT : TT B n m μc) (hR : RB B n μ) (hN : MR (fun _ => 0) μ) (h17 : μ.1 301 17 = nI 0) (s t v : Int32) : ∃ k t' af vf μ2, Run B n k (s0 B n) t' ∧ ev_T sh_S G mi_X11_readsText [.ref 301] (q6 (0, -1) (nI 0) s t v μ) (.inl (none, re B n t'.e af vf μ2)) ∧ Fw μ μ2 ∧ t'.e.1 < 5 ∧ (t'.e.1 = 0 → AC B n t' ∧ MR t'.Q μ2 ∧ INV t'.Q ∧ t'.e = (0, -1)) ∧ k + 1 < 1000000 := by
  have hm5 := hT.1
  have hgo : ev_T sh_S G mi_X11_goes [.ref 301] (q6 (0, -1) (nI 0) s t v μ) (.inl (none, re B n (0, -1) 0 (nv B n (ps B n 0) v) μ)) := m_goes hok hR rfl (Nat.zero_le n) s t v
  have hv0 : NV B n 0 (nv B n (ps B n 0) v) := NV_nvA
  generalize w0 : nv B n (ps B n 0) v = v0 at hgo hv0
  have hw := m_isWord (μ := μ) (e := (0, -1)) (a := 0) (v := v0) hok hks hR (by decide) (j := 0) (by omega)
  have hM0 : mw μ (fun _ => 0) = μ := mw_self hN
  -- from the word on
  have key : ∀ (k : Nat) (t' : PS) (af : Nat) (vf : Int32) (μ2 : ev_M), LTt G 8 [.ref 340, .ref 301] (re B n (0, -1) 0 v0 μ) (re B n t'.e af vf μ2) → ev_T sh_S G mi_X11_readsText [.ref 301] (q6 (0, -1) (nI 0) s t v μ) (.inl (none, re B n t'.e af vf μ2)) := by
    intro k t' af vf μ2 h
    have h5 : LTt G 5 [.ref 301] (re B n (0, -1) 0 v0 μ) (re B n t'.e af vf μ2) := LT_ldw hks (j := 0) (by omega) dTx h
    refine LT_T (own := RX11) (Tb := tb_X11_readsText 2) hok (okM_X11_readsText 2) (Nat.le_of_ble_eq_true rfl) ?_
    refine LT_runS (n := 400) (okM_X11_readsText 2) h5 ?_
    rw [show ev_at cd_X11_readsText 0 = cd_X11_readsText_0 from rfl]
    repeat' (first
      | (with_reducible refine ev_rid ?_; simp (disch := first | omega | assumption) only [ev_run_c, ev_run_n, ev_fj, ev_stp, ev_lk, ev_fv, ev_as, ev_sz, ev_st1, ev_st2, ev_rm, ev_pk, ev_Jof, ev_go, lv_args, List.map_cons, List.map_nil, List.zip_cons_cons, List.zip_nil_left, List.zip_nil_right, List.nil_append, List.cons_append, ↓reduceIte, reduceCtorEq, Int.reduceToNat, Nat.reduceEqDiff, Nat.reduceAdd, Nat.reduceLT, Nat.reduceLeDiff, Nat.reduceMul, Nat.reduceSub, Value.category, false_implies, true_and, and_true, Bool.false_eq_true, Option.some.injEq, exists_eq_left', Option.toList_some, Option.toList_none, ev_km, ev_k2, ev_k3, ev_k4, ev_k5, ev_l0, ev_l1, sh_1, sh_2, sh_3, sh_4, sh_5, at_X11_readsText_19, at_X11_readsText_50, at_X11_readsText_69, at_X11_readsText_82, ca_X11_101, ca_X11_118, ca_X11_153, ca_X11_205, ca_X11_216, ca_X11_98, cd_X11_readsText_0, cd_X11_readsText_19, cd_X11_readsText_50, cd_X11_readsText_69, cd_X11_readsText_82, fl_X11_9, ev_b_10, ev_h_900, no_0, no_1, no_lt, no_le, no_eq, no_lt0, no_ge0, no_gt0, no_le0, no_eq0, no_0eq, no_eqm, no_meq, no_m0, no_mlt, no_mge, no_mgt, no_mm, no_i01, no_i10, no_in, no_or, no_ifm, no_mul, nI_add, no_sub, pk_div, iI_if, nI_clamp, oI_n, oI_s, not_true_eq_false, not_false_eq_true, forall_const, true_implies, false_and, and_false, or_false, false_or, Classical.not_not, true_or, or_true, no_b, no_eq1, eq_self, and_self, sk_301, sk_302, sl_302, sp_301])
      | (with_reducible refine ev_gid ?_; simp (disch := first | omega | assumption) only [ev_run_c, ev_run_n, ev_fj, ev_stp, ev_lk, ev_fv, ev_as, ev_sz, ev_st1, ev_st2, ev_rm, ev_pk, ev_Jof, ev_go, lv_args, List.map_cons, List.map_nil, List.zip_cons_cons, List.zip_nil_left, List.zip_nil_right, List.nil_append, List.cons_append, ↓reduceIte, reduceCtorEq, Int.reduceToNat, Nat.reduceEqDiff, Nat.reduceAdd, Nat.reduceLT, Nat.reduceLeDiff, Nat.reduceMul, Nat.reduceSub, Value.category, false_implies, true_and, and_true, Bool.false_eq_true, Option.some.injEq, exists_eq_left', Option.toList_some, Option.toList_none, ev_km, ev_k2, ev_k3, ev_k4, ev_k5, ev_l0, ev_l1, sh_1, sh_2, sh_3, sh_4, sh_5, at_X11_readsText_19, at_X11_readsText_50, at_X11_readsText_69, at_X11_readsText_82, ca_X11_101, ca_X11_118, ca_X11_153, ca_X11_205, ca_X11_216, ca_X11_98, cd_X11_readsText_0, cd_X11_readsText_19, cd_X11_readsText_50, cd_X11_readsText_69, cd_X11_readsText_82, fl_X11_9, ev_b_10, ev_h_900, no_0, no_1, no_lt, no_le, no_eq, no_lt0, no_ge0, no_gt0, no_le0, no_eq0, no_0eq, no_eqm, no_meq, no_m0, no_mlt, no_mge, no_mgt, no_mm, no_i01, no_i10, no_in, no_or, no_ifm, no_mul, nI_add, no_sub, pk_div, iI_if, nI_clamp, oI_n, oI_s, not_true_eq_false, not_false_eq_true, forall_const, true_implies, false_and, and_false, or_false, false_or, Classical.not_not, true_or, or_true, no_b, no_eq1, eq_self, and_self, sk_301, sk_302, sl_302, sp_301])
      | (with_reducible refine And.intro (fun q => ?_) (fun q => ?_) <;> (try simp (disch := first | omega | assumption) only [no_0, no_1, no_lt, no_le, no_eq, no_lt0, no_ge0, no_gt0, no_le0, no_eq0, no_0eq, no_eqm, no_meq, no_m0, no_mlt, no_mge, no_mgt, no_mm, no_i01, no_i10, no_in, no_or, no_ifm, no_mul, nI_add, no_sub, pk_div, iI_if, nI_clamp, oI_n, oI_s, not_true_eq_false, not_false_eq_true, forall_const, true_implies, false_and, and_false, or_false, false_or, Classical.not_not, true_or, or_true, no_b, no_eq1, eq_self, and_self, sk_301, sk_302, sl_302, sp_301] at q))
      | (with_reducible refine ev_ci hgo ?_)
      | with_reducible refine ev_ci (m_go hok (by first | with_reducible assumption | exact RB_mw (by with_reducible assumption)) ?_) ?_
      | with_reducible refine ev_ci (m_faults hok ?_ _) ?_
      | with_reducible refine ev_ci (m_readNumber hok (by with_reducible assumption) ?_ (by with_reducible assumption) ?_ ?_) ?_
      | with_reducible refine ev_ci (m_is hok ?_ ?_) ?_
      | omega
      | with_reducible assumption
      | with_reducible rfl
      | with_reducible refine lp_nx ?_ ?_ ?_ ?_
      | with_reducible refine lp_st ?_ ?_ ?_
      | with_reducible refine ls_c ?_ ?_
      | with_reducible refine vi_c ?_
      | with_reducible refine re_c ?_
      | with_reducible refine vz_c ?_
      | with_reducible refine rz_c ?_
      | exact trivial
      | with_reducible refine And.intro ?_ ?_
      | simp (disch := first | omega | assumption) only [ev_run_c, ev_run_n, ev_fj, ev_stp, ev_lk, ev_fv, ev_as, ev_sz, ev_st1, ev_st2, ev_rm, ev_pk, ev_Jof, ev_go, lv_args, List.map_cons, List.map_nil, List.zip_cons_cons, List.zip_nil_left, List.zip_nil_right, List.nil_append, List.cons_append, ↓reduceIte, reduceCtorEq, Int.reduceToNat, Nat.reduceEqDiff, Nat.reduceAdd, Nat.reduceLT, Nat.reduceLeDiff, Nat.reduceMul, Nat.reduceSub, Value.category, false_implies, true_and, and_true, Bool.false_eq_true, Option.some.injEq, exists_eq_left', Option.toList_some, Option.toList_none, ev_km, ev_k2, ev_k3, ev_k4, ev_k5, ev_l0, ev_l1, sh_1, sh_2, sh_3, sh_4, sh_5, at_X11_readsText_19, at_X11_readsText_50, at_X11_readsText_69, at_X11_readsText_82, ca_X11_101, ca_X11_118, ca_X11_153, ca_X11_205, ca_X11_216, ca_X11_98, cd_X11_readsText_0, cd_X11_readsText_19, cd_X11_readsText_50, cd_X11_readsText_69, cd_X11_readsText_82, fl_X11_9, ev_b_10, ev_h_900, no_0, no_1, no_lt, no_le, no_eq, no_lt0, no_ge0, no_gt0, no_le0, no_eq0, no_0eq, no_eqm, no_meq, no_m0, no_mlt, no_mge, no_mgt, no_mm, no_i01, no_i10, no_in, no_or, no_ifm, no_mul, nI_add, no_sub, pk_div, iI_if, nI_clamp, oI_n, oI_s, not_true_eq_false, not_false_eq_true, forall_const, true_implies, false_and, and_false, or_false, false_or, Classical.not_not, true_or, or_true, no_b, no_eq1, eq_self, and_self, sk_301, sk_302, sl_302, sp_301]
      | exact rfl
      | (split <;> omega))
  have e8 : ev_at cd_X11_readsText 8 = (8, .invokevirtual 216) :: (11, .ifCond .ne 19) :: (14, .aload 0) :: (15, .iconst 1) :: (16, .invokevirtual 98) :: cd_X11_readsText_19 := rfl
  have hwN : ∀ (e : Nat × Int32) (a : Nat) (vv : Int32) (M : Nat → Nat) (k x : Nat), k < 1042 → w1 (re B n e a vv (mw μ M)) 302 k (nI x) = re B n e a vv (mw μ (up M k x)) := fun e a vv M k x hk => re_w302 hk
  have hw2 := fun (e : Nat × Int32) (a : Nat) (vv : Int32) (M : Nat → Nat) (x : Nat) => hwN e a vv M 2 x (by omega)
  have hw3 := fun (e : Nat × Int32) (a : Nat) (vv : Int32) (M : Nat → Nat) (x : Nat) => hwN e a vv M 3 x (by omega)
  have hRm : ∀ M : Nat → Nat, RB B n (mw μ M) := fun M => RB_mw hR
  have hq0 : q_head B n = rN B n (rN B n (er (0, -1) (kwi B n 0 ≠ 0) 1 0 B n) 1 0 901) 2 0 11 := rfl
  by_cases c0 : kwi B n 0 ≠ 0
  · rw [if_neg (fun q => c0 q.2)] at hw
    obtain ⟨e9, f9⟩ : ∃ e, er (0, -1) True 1 0 B n = e := ⟨_, rfl⟩
    have c9 : e9.1 < 5 := by rw [← f9]; exact er_c (by decide) (by decide)
    have z9 : ¬ e9.1 = 0 := by rw [← f9, er_T rfl]; exact Nat.succ_ne_zero _
    have y : (e9.1 = 0) = False := eq_false z9
    have hq : q_head B n = e9 := by rw [hq0, er_True c0, f9, rN_n z9, rN_n z9]
    have hx : (s0 B n).e = e9 := hq
    refine ⟨0, s0 B n, 0, v0, mw μ (up (up (fun _ => 0) 2 0) 3 0), Run_0 _, key 0 _ _ _ _ ?_, Fw_mw, by rw [hx]; exact c9, fun z => absurd z (by rw [hx]; exact z9), by omega⟩
    rw [hx]
    rw [← hM0] at hw ⊢
    rw [mw_mw]
    refine LT_run1 (n := 400) (okM_X11_readsText 2) (rt_err hok c9 z9) ?_
    rw [e8]
    repeat' (first
      | (with_reducible refine ev_rid ?_; simp (disch := first | omega | assumption) only [ev_run_c, ev_run_n, ev_fj, ev_stp, ev_lk, ev_fv, ev_as, ev_sz, ev_st1, ev_st2, ev_rm, ev_pk, ev_Jof, ev_go, lv_args, List.map_cons, List.map_nil, List.zip_cons_cons, List.zip_nil_left, List.zip_nil_right, List.nil_append, List.cons_append, ↓reduceIte, reduceCtorEq, Int.reduceToNat, Nat.reduceEqDiff, Nat.reduceAdd, Nat.reduceLT, Nat.reduceLeDiff, Nat.reduceMul, Nat.reduceSub, Value.category, false_implies, true_and, and_true, Bool.false_eq_true, Option.some.injEq, exists_eq_left', Option.toList_some, Option.toList_none, ev_km, ev_k2, ev_k3, ev_k4, ev_k5, ev_l0, ev_l1, sh_1, sh_2, sh_3, sh_4, sh_5, at_X11_readsText_19, at_X11_readsText_50, at_X11_readsText_69, at_X11_readsText_82, ca_X11_101, ca_X11_118, ca_X11_153, ca_X11_205, ca_X11_216, ca_X11_98, cd_X11_readsText_0, cd_X11_readsText_19, cd_X11_readsText_50, cd_X11_readsText_69, cd_X11_readsText_82, fl_X11_9, ev_b_10, ev_h_900, no_0, no_1, no_lt, no_le, no_eq, no_lt0, no_ge0, no_gt0, no_le0, no_eq0, no_0eq, no_eqm, no_meq, no_m0, no_mlt, no_mge, no_mgt, no_mm, no_i01, no_i10, no_in, no_or, no_ifm, no_mul, nI_add, no_sub, pk_div, iI_if, nI_clamp, oI_n, oI_s, not_true_eq_false, not_false_eq_true, forall_const, true_implies, false_and, and_false, or_false, false_or, Classical.not_not, true_or, or_true, no_b, no_eq1, eq_self, and_self, sk_301, sk_302, sl_302, sp_301, re_10, re_n, f9, y, nx_n z9, nW_n z9, rN_n z9, w1_d, hw2, hw3])
      | (with_reducible refine ev_gid ?_; simp (disch := first | omega | assumption) only [ev_run_c, ev_run_n, ev_fj, ev_stp, ev_lk, ev_fv, ev_as, ev_sz, ev_st1, ev_st2, ev_rm, ev_pk, ev_Jof, ev_go, lv_args, List.map_cons, List.map_nil, List.zip_cons_cons, List.zip_nil_left, List.zip_nil_right, List.nil_append, List.cons_append, ↓reduceIte, reduceCtorEq, Int.reduceToNat, Nat.reduceEqDiff, Nat.reduceAdd, Nat.reduceLT, Nat.reduceLeDiff, Nat.reduceMul, Nat.reduceSub, Value.category, false_implies, true_and, and_true, Bool.false_eq_true, Option.some.injEq, exists_eq_left', Option.toList_some, Option.toList_none, ev_km, ev_k2, ev_k3, ev_k4, ev_k5, ev_l0, ev_l1, sh_1, sh_2, sh_3, sh_4, sh_5, at_X11_readsText_19, at_X11_readsText_50, at_X11_readsText_69, at_X11_readsText_82, ca_X11_101, ca_X11_118, ca_X11_153, ca_X11_205, ca_X11_216, ca_X11_98, cd_X11_readsText_0, cd_X11_readsText_19, cd_X11_readsText_50, cd_X11_readsText_69, cd_X11_readsText_82, fl_X11_9, ev_b_10, ev_h_900, no_0, no_1, no_lt, no_le, no_eq, no_lt0, no_ge0, no_gt0, no_le0, no_eq0, no_0eq, no_eqm, no_meq, no_m0, no_mlt, no_mge, no_mgt, no_mm, no_i01, no_i10, no_in, no_or, no_ifm, no_mul, nI_add, no_sub, pk_div, iI_if, nI_clamp, oI_n, oI_s, not_true_eq_false, not_false_eq_true, forall_const, true_implies, false_and, and_false, or_false, false_or, Classical.not_not, true_or, or_true, no_b, no_eq1, eq_self, and_self, sk_301, sk_302, sl_302, sp_301, re_10, re_n, f9, y, nx_n z9, nW_n z9, rN_n z9, w1_d, hw2, hw3])
      | (with_reducible refine And.intro (fun q => ?_) (fun q => ?_) <;> (try simp (disch := first | omega | assumption) only [no_0, no_1, no_lt, no_le, no_eq, no_lt0, no_ge0, no_gt0, no_le0, no_eq0, no_0eq, no_eqm, no_meq, no_m0, no_mlt, no_mge, no_mgt, no_mm, no_i01, no_i10, no_in, no_or, no_ifm, no_mul, nI_add, no_sub, pk_div, iI_if, nI_clamp, oI_n, oI_s, not_true_eq_false, not_false_eq_true, forall_const, true_implies, false_and, and_false, or_false, false_or, Classical.not_not, true_or, or_true, no_b, no_eq1, eq_self, and_self, sk_301, sk_302, sl_302, sp_301, re_10, re_n, f9, y, nx_n z9, nW_n z9, rN_n z9, w1_d, hw2, hw3] at q))
      | (with_reducible refine ev_ci hw ?_)
      | (with_reducible refine ev_ci (m_go hok (hRm _) ?_) ?_)
      | (with_reducible refine ev_ci (m_readNumber hok (hRm _) ?_ (by with_reducible assumption) ?_ ?_) ?_)
      | with_reducible refine ev_ci (m_go hok (by first | with_reducible assumption | exact RB_mw (by with_reducible assumption)) ?_) ?_
      | with_reducible refine ev_ci (m_faults hok ?_ _) ?_
      | with_reducible refine ev_ci (m_readNumber hok (by with_reducible assumption) ?_ (by with_reducible assumption) ?_ ?_) ?_
      | with_reducible refine ev_ci (m_is hok ?_ ?_) ?_
      | omega
      | with_reducible assumption
      | with_reducible rfl
      | with_reducible refine lp_nx ?_ ?_ ?_ ?_
      | with_reducible refine lp_st ?_ ?_ ?_
      | with_reducible refine ls_c ?_ ?_
      | with_reducible refine vi_c ?_
      | with_reducible refine re_c ?_
      | with_reducible refine vz_c ?_
      | with_reducible refine rz_c ?_
      | exact trivial
      | with_reducible refine And.intro ?_ ?_
      | simp (disch := first | omega | assumption) only [ev_run_c, ev_run_n, ev_fj, ev_stp, ev_lk, ev_fv, ev_as, ev_sz, ev_st1, ev_st2, ev_rm, ev_pk, ev_Jof, ev_go, lv_args, List.map_cons, List.map_nil, List.zip_cons_cons, List.zip_nil_left, List.zip_nil_right, List.nil_append, List.cons_append, ↓reduceIte, reduceCtorEq, Int.reduceToNat, Nat.reduceEqDiff, Nat.reduceAdd, Nat.reduceLT, Nat.reduceLeDiff, Nat.reduceMul, Nat.reduceSub, Value.category, false_implies, true_and, and_true, Bool.false_eq_true, Option.some.injEq, exists_eq_left', Option.toList_some, Option.toList_none, ev_km, ev_k2, ev_k3, ev_k4, ev_k5, ev_l0, ev_l1, sh_1, sh_2, sh_3, sh_4, sh_5, at_X11_readsText_19, at_X11_readsText_50, at_X11_readsText_69, at_X11_readsText_82, ca_X11_101, ca_X11_118, ca_X11_153, ca_X11_205, ca_X11_216, ca_X11_98, cd_X11_readsText_0, cd_X11_readsText_19, cd_X11_readsText_50, cd_X11_readsText_69, cd_X11_readsText_82, fl_X11_9, ev_b_10, ev_h_900, no_0, no_1, no_lt, no_le, no_eq, no_lt0, no_ge0, no_gt0, no_le0, no_eq0, no_0eq, no_eqm, no_meq, no_m0, no_mlt, no_mge, no_mgt, no_mm, no_i01, no_i10, no_in, no_or, no_ifm, no_mul, nI_add, no_sub, pk_div, iI_if, nI_clamp, oI_n, oI_s, not_true_eq_false, not_false_eq_true, forall_const, true_implies, false_and, and_false, or_false, false_or, Classical.not_not, true_or, or_true, no_b, no_eq1, eq_self, and_self, sk_301, sk_302, sl_302, sp_301, re_10, re_n, f9, y, nx_n z9, nW_n z9, rN_n z9, w1_d, hw2, hw3]
      | exact rfl
      | (split <;> omega))
  · have c0 : kwi B n 0 = 0 := Classical.byContradiction c0
    rw [if_pos ⟨rfl, c0⟩] at hw
    have n0 : nx (0, -1) 0 = 1 := rfl
    have hv1 := NV_nx (B := B) (n := n) (e := (0, -1)) (a := 0) hv0
    rw [n0] at hv1
    generalize wA : nW B n (0, -1) 0 v0 = v1 at hv1
    have hq1 : q_head B n = rN B n (rN B n (0, -1) 1 0 901) 2 0 11 := by rw [hq0, er_f (fun q => q c0)]
    obtain ⟨e2, f2⟩ : ∃ e, rN B n (0, -1) 1 0 901 = e := ⟨_, rfl⟩
    have c2 : e2.1 < 5 := by rw [← f2]; exact rN_c (by decide)
    rw [f2] at hq1
    by_cases z2 : ¬ e2.1 = 0
    · have y : (e2.1 = 0) = False := eq_false z2
      rw [rN_n z2] at hq1
      have hx : (s0 B n).e = e2 := hq1
      refine ⟨0, s0 B n, 1, v1, mw μ (up (up (fun _ => 0) 2 0) 3 0), Run_0 _, key 0 _ _ _ _ ?_, Fw_mw, by rw [hx]; exact c2, fun z => absurd z (by rw [hx]; exact z2), by omega⟩
      rw [hx]
      rw [← hM0] at hw ⊢
      rw [mw_mw]
      refine LT_run1 (n := 400) (okM_X11_readsText 2) (rt_err hok c2 z2) ?_
      rw [e8]
      repeat' (first
        | (with_reducible refine ev_rid ?_; simp (disch := first | omega | assumption) only [ev_run_c, ev_run_n, ev_fj, ev_stp, ev_lk, ev_fv, ev_as, ev_sz, ev_st1, ev_st2, ev_rm, ev_pk, ev_Jof, ev_go, lv_args, List.map_cons, List.map_nil, List.zip_cons_cons, List.zip_nil_left, List.zip_nil_right, List.nil_append, List.cons_append, ↓reduceIte, reduceCtorEq, Int.reduceToNat, Nat.reduceEqDiff, Nat.reduceAdd, Nat.reduceLT, Nat.reduceLeDiff, Nat.reduceMul, Nat.reduceSub, Value.category, false_implies, true_and, and_true, Bool.false_eq_true, Option.some.injEq, exists_eq_left', Option.toList_some, Option.toList_none, ev_km, ev_k2, ev_k3, ev_k4, ev_k5, ev_l0, ev_l1, sh_1, sh_2, sh_3, sh_4, sh_5, at_X11_readsText_19, at_X11_readsText_50, at_X11_readsText_69, at_X11_readsText_82, ca_X11_101, ca_X11_118, ca_X11_153, ca_X11_205, ca_X11_216, ca_X11_98, cd_X11_readsText_0, cd_X11_readsText_19, cd_X11_readsText_50, cd_X11_readsText_69, cd_X11_readsText_82, fl_X11_9, ev_b_10, ev_h_900, no_0, no_1, no_lt, no_le, no_eq, no_lt0, no_ge0, no_gt0, no_le0, no_eq0, no_0eq, no_eqm, no_meq, no_m0, no_mlt, no_mge, no_mgt, no_mm, no_i01, no_i10, no_in, no_or, no_ifm, no_mul, nI_add, no_sub, pk_div, iI_if, nI_clamp, oI_n, oI_s, not_true_eq_false, not_false_eq_true, forall_const, true_implies, false_and, and_false, or_false, false_or, Classical.not_not, true_or, or_true, no_b, no_eq1, eq_self, and_self, sk_301, sk_302, sl_302, sp_301, re_10, re_n, n0, wA, f2, y, nx_n z2, nW_n z2, rN_n z2, w1_d, hw2, hw3])
        | (with_reducible refine ev_gid ?_; simp (disch := first | omega | assumption) only [ev_run_c, ev_run_n, ev_fj, ev_stp, ev_lk, ev_fv, ev_as, ev_sz, ev_st1, ev_st2, ev_rm, ev_pk, ev_Jof, ev_go, lv_args, List.map_cons, List.map_nil, List.zip_cons_cons, List.zip_nil_left, List.zip_nil_right, List.nil_append, List.cons_append, ↓reduceIte, reduceCtorEq, Int.reduceToNat, Nat.reduceEqDiff, Nat.reduceAdd, Nat.reduceLT, Nat.reduceLeDiff, Nat.reduceMul, Nat.reduceSub, Value.category, false_implies, true_and, and_true, Bool.false_eq_true, Option.some.injEq, exists_eq_left', Option.toList_some, Option.toList_none, ev_km, ev_k2, ev_k3, ev_k4, ev_k5, ev_l0, ev_l1, sh_1, sh_2, sh_3, sh_4, sh_5, at_X11_readsText_19, at_X11_readsText_50, at_X11_readsText_69, at_X11_readsText_82, ca_X11_101, ca_X11_118, ca_X11_153, ca_X11_205, ca_X11_216, ca_X11_98, cd_X11_readsText_0, cd_X11_readsText_19, cd_X11_readsText_50, cd_X11_readsText_69, cd_X11_readsText_82, fl_X11_9, ev_b_10, ev_h_900, no_0, no_1, no_lt, no_le, no_eq, no_lt0, no_ge0, no_gt0, no_le0, no_eq0, no_0eq, no_eqm, no_meq, no_m0, no_mlt, no_mge, no_mgt, no_mm, no_i01, no_i10, no_in, no_or, no_ifm, no_mul, nI_add, no_sub, pk_div, iI_if, nI_clamp, oI_n, oI_s, not_true_eq_false, not_false_eq_true, forall_const, true_implies, false_and, and_false, or_false, false_or, Classical.not_not, true_or, or_true, no_b, no_eq1, eq_self, and_self, sk_301, sk_302, sl_302, sp_301, re_10, re_n, n0, wA, f2, y, nx_n z2, nW_n z2, rN_n z2, w1_d, hw2, hw3])
        | (with_reducible refine And.intro (fun q => ?_) (fun q => ?_) <;> (try simp (disch := first | omega | assumption) only [no_0, no_1, no_lt, no_le, no_eq, no_lt0, no_ge0, no_gt0, no_le0, no_eq0, no_0eq, no_eqm, no_meq, no_m0, no_mlt, no_mge, no_mgt, no_mm, no_i01, no_i10, no_in, no_or, no_ifm, no_mul, nI_add, no_sub, pk_div, iI_if, nI_clamp, oI_n, oI_s, not_true_eq_false, not_false_eq_true, forall_const, true_implies, false_and, and_false, or_false, false_or, Classical.not_not, true_or, or_true, no_b, no_eq1, eq_self, and_self, sk_301, sk_302, sl_302, sp_301, re_10, re_n, n0, wA, f2, y, nx_n z2, nW_n z2, rN_n z2, w1_d, hw2, hw3] at q))
        | (with_reducible refine ev_ci hw ?_)
        | (with_reducible refine ev_ci (m_go hok (hRm _) ?_) ?_)
        | (with_reducible refine ev_ci (m_readNumber hok (hRm _) ?_ (by with_reducible assumption) ?_ ?_) ?_)
        | with_reducible refine ev_ci (m_go hok (by first | with_reducible assumption | exact RB_mw (by with_reducible assumption)) ?_) ?_
        | with_reducible refine ev_ci (m_faults hok ?_ _) ?_
        | with_reducible refine ev_ci (m_readNumber hok (by with_reducible assumption) ?_ (by with_reducible assumption) ?_ ?_) ?_
        | with_reducible refine ev_ci (m_is hok ?_ ?_) ?_
        | omega
        | with_reducible assumption
        | with_reducible rfl
        | with_reducible refine lp_nx ?_ ?_ ?_ ?_
        | with_reducible refine lp_st ?_ ?_ ?_
        | with_reducible refine ls_c ?_ ?_
        | with_reducible refine vi_c ?_
        | with_reducible refine re_c ?_
        | with_reducible refine vz_c ?_
        | with_reducible refine rz_c ?_
        | exact trivial
        | with_reducible refine And.intro ?_ ?_
        | simp (disch := first | omega | assumption) only [ev_run_c, ev_run_n, ev_fj, ev_stp, ev_lk, ev_fv, ev_as, ev_sz, ev_st1, ev_st2, ev_rm, ev_pk, ev_Jof, ev_go, lv_args, List.map_cons, List.map_nil, List.zip_cons_cons, List.zip_nil_left, List.zip_nil_right, List.nil_append, List.cons_append, ↓reduceIte, reduceCtorEq, Int.reduceToNat, Nat.reduceEqDiff, Nat.reduceAdd, Nat.reduceLT, Nat.reduceLeDiff, Nat.reduceMul, Nat.reduceSub, Value.category, false_implies, true_and, and_true, Bool.false_eq_true, Option.some.injEq, exists_eq_left', Option.toList_some, Option.toList_none, ev_km, ev_k2, ev_k3, ev_k4, ev_k5, ev_l0, ev_l1, sh_1, sh_2, sh_3, sh_4, sh_5, at_X11_readsText_19, at_X11_readsText_50, at_X11_readsText_69, at_X11_readsText_82, ca_X11_101, ca_X11_118, ca_X11_153, ca_X11_205, ca_X11_216, ca_X11_98, cd_X11_readsText_0, cd_X11_readsText_19, cd_X11_readsText_50, cd_X11_readsText_69, cd_X11_readsText_82, fl_X11_9, ev_b_10, ev_h_900, no_0, no_1, no_lt, no_le, no_eq, no_lt0, no_ge0, no_gt0, no_le0, no_eq0, no_0eq, no_eqm, no_meq, no_m0, no_mlt, no_mge, no_mgt, no_mm, no_i01, no_i10, no_in, no_or, no_ifm, no_mul, nI_add, no_sub, pk_div, iI_if, nI_clamp, oI_n, oI_s, not_true_eq_false, not_false_eq_true, forall_const, true_implies, false_and, and_false, or_false, false_or, Classical.not_not, true_or, or_true, no_b, no_eq1, eq_self, and_self, sk_301, sk_302, sl_302, sp_301, re_10, re_n, n0, wA, f2, y, nx_n z2, nW_n z2, rN_n z2, w1_d, hw2, hw3]
        | exact rfl
        | (split <;> omega))
    · have z2 : e2.1 = 0 := Classical.byContradiction z2
      have g2 := z2
      rw [← f2] at g2
      have s2 := rN_0 g2
      have s2' := nmc_0 s2.2.1
      have e20 : e2 = (0, -1) := by rw [← f2]; exact s2.2.2
      subst e20
      have n1 : nx (0, -1) 1 = 2 := rfl
      have hv2 := NV_nx (B := B) (n := n) (e := (0, -1)) (a := 1) hv1
      rw [n1] at hv2
      generalize wB : nW B n (0, -1) 1 v1 = v2 at hv2
      obtain ⟨e3, f3⟩ : ∃ e, rN B n (0, -1) 2 0 11 = e := ⟨_, rfl⟩
      have c3 : e3.1 < 5 := by rw [← f3]; exact rN_c (by decide)
      rw [f3] at hq1
      have hx : (s0 B n).e = e3 := hq1
      by_cases z3 : ¬ e3.1 = 0
      · have y : (e3.1 = 0) = False := eq_false z3
        refine ⟨0, s0 B n, 2, v2, mw μ (up (up (fun _ => 0) 2 (tvl B n 1)) 3 0), Run_0 _, key 0 _ _ _ _ ?_, Fw_mw, by rw [hx]; exact c3, fun z => absurd z (by rw [hx]; exact z3), by omega⟩
        rw [hx]
        rw [← hM0] at hw ⊢
        rw [mw_mw]
        refine LT_run1 (n := 400) (okM_X11_readsText 2) (rt_err hok c3 z3) ?_
        rw [e8]
        repeat' (first
          | (with_reducible refine ev_rid ?_; simp (disch := first | omega | assumption) only [ev_run_c, ev_run_n, ev_fj, ev_stp, ev_lk, ev_fv, ev_as, ev_sz, ev_st1, ev_st2, ev_rm, ev_pk, ev_Jof, ev_go, lv_args, List.map_cons, List.map_nil, List.zip_cons_cons, List.zip_nil_left, List.zip_nil_right, List.nil_append, List.cons_append, ↓reduceIte, reduceCtorEq, Int.reduceToNat, Nat.reduceEqDiff, Nat.reduceAdd, Nat.reduceLT, Nat.reduceLeDiff, Nat.reduceMul, Nat.reduceSub, Value.category, false_implies, true_and, and_true, Bool.false_eq_true, Option.some.injEq, exists_eq_left', Option.toList_some, Option.toList_none, ev_km, ev_k2, ev_k3, ev_k4, ev_k5, ev_l0, ev_l1, sh_1, sh_2, sh_3, sh_4, sh_5, at_X11_readsText_19, at_X11_readsText_50, at_X11_readsText_69, at_X11_readsText_82, ca_X11_101, ca_X11_118, ca_X11_153, ca_X11_205, ca_X11_216, ca_X11_98, cd_X11_readsText_0, cd_X11_readsText_19, cd_X11_readsText_50, cd_X11_readsText_69, cd_X11_readsText_82, fl_X11_9, ev_b_10, ev_h_900, no_0, no_1, no_lt, no_le, no_eq, no_lt0, no_ge0, no_gt0, no_le0, no_eq0, no_0eq, no_eqm, no_meq, no_m0, no_mlt, no_mge, no_mgt, no_mm, no_i01, no_i10, no_in, no_or, no_ifm, no_mul, nI_add, no_sub, pk_div, iI_if, nI_clamp, oI_n, oI_s, not_true_eq_false, not_false_eq_true, forall_const, true_implies, false_and, and_false, or_false, false_or, Classical.not_not, true_or, or_true, no_b, no_eq1, eq_self, and_self, sk_301, sk_302, sl_302, sp_301, re_10, re_n, n0, wA, f2, n1, wB, f3, y, nx_n z3, nW_n z3, w1_d, hw2, hw3])
          | (with_reducible refine ev_gid ?_; simp (disch := first | omega | assumption) only [ev_run_c, ev_run_n, ev_fj, ev_stp, ev_lk, ev_fv, ev_as, ev_sz, ev_st1, ev_st2, ev_rm, ev_pk, ev_Jof, ev_go, lv_args, List.map_cons, List.map_nil, List.zip_cons_cons, List.zip_nil_left, List.zip_nil_right, List.nil_append, List.cons_append, ↓reduceIte, reduceCtorEq, Int.reduceToNat, Nat.reduceEqDiff, Nat.reduceAdd, Nat.reduceLT, Nat.reduceLeDiff, Nat.reduceMul, Nat.reduceSub, Value.category, false_implies, true_and, and_true, Bool.false_eq_true, Option.some.injEq, exists_eq_left', Option.toList_some, Option.toList_none, ev_km, ev_k2, ev_k3, ev_k4, ev_k5, ev_l0, ev_l1, sh_1, sh_2, sh_3, sh_4, sh_5, at_X11_readsText_19, at_X11_readsText_50, at_X11_readsText_69, at_X11_readsText_82, ca_X11_101, ca_X11_118, ca_X11_153, ca_X11_205, ca_X11_216, ca_X11_98, cd_X11_readsText_0, cd_X11_readsText_19, cd_X11_readsText_50, cd_X11_readsText_69, cd_X11_readsText_82, fl_X11_9, ev_b_10, ev_h_900, no_0, no_1, no_lt, no_le, no_eq, no_lt0, no_ge0, no_gt0, no_le0, no_eq0, no_0eq, no_eqm, no_meq, no_m0, no_mlt, no_mge, no_mgt, no_mm, no_i01, no_i10, no_in, no_or, no_ifm, no_mul, nI_add, no_sub, pk_div, iI_if, nI_clamp, oI_n, oI_s, not_true_eq_false, not_false_eq_true, forall_const, true_implies, false_and, and_false, or_false, false_or, Classical.not_not, true_or, or_true, no_b, no_eq1, eq_self, and_self, sk_301, sk_302, sl_302, sp_301, re_10, re_n, n0, wA, f2, n1, wB, f3, y, nx_n z3, nW_n z3, w1_d, hw2, hw3])
          | (with_reducible refine And.intro (fun q => ?_) (fun q => ?_) <;> (try simp (disch := first | omega | assumption) only [no_0, no_1, no_lt, no_le, no_eq, no_lt0, no_ge0, no_gt0, no_le0, no_eq0, no_0eq, no_eqm, no_meq, no_m0, no_mlt, no_mge, no_mgt, no_mm, no_i01, no_i10, no_in, no_or, no_ifm, no_mul, nI_add, no_sub, pk_div, iI_if, nI_clamp, oI_n, oI_s, not_true_eq_false, not_false_eq_true, forall_const, true_implies, false_and, and_false, or_false, false_or, Classical.not_not, true_or, or_true, no_b, no_eq1, eq_self, and_self, sk_301, sk_302, sl_302, sp_301, re_10, re_n, n0, wA, f2, n1, wB, f3, y, nx_n z3, nW_n z3, w1_d, hw2, hw3] at q))
          | (with_reducible refine ev_ci hw ?_)
          | (with_reducible refine ev_ci (m_go hok (hRm _) ?_) ?_)
          | (with_reducible refine ev_ci (m_readNumber hok (hRm _) ?_ (by with_reducible assumption) ?_ ?_) ?_)
          | with_reducible refine ev_ci (m_go hok (by first | with_reducible assumption | exact RB_mw (by with_reducible assumption)) ?_) ?_
          | with_reducible refine ev_ci (m_faults hok ?_ _) ?_
          | with_reducible refine ev_ci (m_readNumber hok (by with_reducible assumption) ?_ (by with_reducible assumption) ?_ ?_) ?_
          | with_reducible refine ev_ci (m_is hok ?_ ?_) ?_
          | omega
          | with_reducible assumption
          | with_reducible rfl
          | with_reducible refine lp_nx ?_ ?_ ?_ ?_
          | with_reducible refine lp_st ?_ ?_ ?_
          | with_reducible refine ls_c ?_ ?_
          | with_reducible refine vi_c ?_
          | with_reducible refine re_c ?_
          | with_reducible refine vz_c ?_
          | with_reducible refine rz_c ?_
          | exact trivial
          | with_reducible refine And.intro ?_ ?_
          | simp (disch := first | omega | assumption) only [ev_run_c, ev_run_n, ev_fj, ev_stp, ev_lk, ev_fv, ev_as, ev_sz, ev_st1, ev_st2, ev_rm, ev_pk, ev_Jof, ev_go, lv_args, List.map_cons, List.map_nil, List.zip_cons_cons, List.zip_nil_left, List.zip_nil_right, List.nil_append, List.cons_append, ↓reduceIte, reduceCtorEq, Int.reduceToNat, Nat.reduceEqDiff, Nat.reduceAdd, Nat.reduceLT, Nat.reduceLeDiff, Nat.reduceMul, Nat.reduceSub, Value.category, false_implies, true_and, and_true, Bool.false_eq_true, Option.some.injEq, exists_eq_left', Option.toList_some, Option.toList_none, ev_km, ev_k2, ev_k3, ev_k4, ev_k5, ev_l0, ev_l1, sh_1, sh_2, sh_3, sh_4, sh_5, at_X11_readsText_19, at_X11_readsText_50, at_X11_readsText_69, at_X11_readsText_82, ca_X11_101, ca_X11_118, ca_X11_153, ca_X11_205, ca_X11_216, ca_X11_98, cd_X11_readsText_0, cd_X11_readsText_19, cd_X11_readsText_50, cd_X11_readsText_69, cd_X11_readsText_82, fl_X11_9, ev_b_10, ev_h_900, no_0, no_1, no_lt, no_le, no_eq, no_lt0, no_ge0, no_gt0, no_le0, no_eq0, no_0eq, no_eqm, no_meq, no_m0, no_mlt, no_mge, no_mgt, no_mm, no_i01, no_i10, no_in, no_or, no_ifm, no_mul, nI_add, no_sub, pk_div, iI_if, nI_clamp, oI_n, oI_s, not_true_eq_false, not_false_eq_true, forall_const, true_implies, false_and, and_false, or_false, false_or, Classical.not_not, true_or, or_true, no_b, no_eq1, eq_self, and_self, sk_301, sk_302, sl_302, sp_301, re_10, re_n, n0, wA, f2, n1, wB, f3, y, nx_n z3, nW_n z3, w1_d, hw2, hw3]
          | exact rfl
          | (split <;> omega))
      · have z3 : e3.1 = 0 := Classical.byContradiction z3
        have g3 := z3
        rw [← f3] at g3
        have s3 := rN_0 g3
        have s3' := nmc_0 s3.2.1
        have e30 : e3 = (0, -1) := by rw [← f3]; exact s3.2.2
        subst e30
        have n2 : nx (0, -1) 2 = 3 := rfl
        have hv3 := NV_nx (B := B) (n := n) (e := (0, -1)) (a := 2) hv2
        rw [n2] at hv3
        generalize wC : nW B n (0, -1) 2 v2 = v3 at hv3
        have a1 : 0 + 1 ≤ m := tk_nxt hT (Nat.zero_le m) (fun q => by unfold kwi at c0; rw [if_neg (by omega)] at c0; cases c0)
        have a2 : 1 + 1 ≤ m := tk_nxt hT a1 (by rw [s2'.1]; decide)
        have a3 : 2 + 1 ≤ m := tk_nxt hT a2 (by rw [s3'.1]; decide)
        have hI := INV_hd (a := tvl B n 1) (b := tvl B n 2) (by omega) (by omega)
        obtain ⟨k, t', af, vf, μ2, j1, j2, j3, j5, j6, j7⟩ := rt_loop hok hks hT _ (up (up (fun _ => 0) 2 (tvl B n 1)) 3 (tvl B n 2)) 3 (fun _ => 0) (fun _ => 0) v3 (mw μ (up (up (fun _ => 0) 2 (tvl B n 1)) 3 (tvl B n 2))) (Nat.le_refl _) (hRm _) mw_R hI hv3 a3 ((by rw [mw_1 (by omega)]; exact h17))
        have hs0 : s0 B n = (up (up (fun _ => 0) 2 (tvl B n 1)) 3 (tvl B n 2), 3, 0, fun _ => 0, fun _ => 0, 0, (0, -1)) := by
          show (_, 3, 0, _, _, 0, q_head B n) = _
          rw [hq1]
        refine ⟨k, t', af, vf, μ2, by rw [hs0]; exact j1, key 0 _ _ _ _ ?_, Fw_tr Fw_mw j3, j5, j6, ?_⟩
        · rw [← hM0] at hw ⊢
          refine LT_run1 (n := 400) (okM_X11_readsText 2) j2 ?_
          rw [e8]
          repeat' (first
            | (with_reducible refine ev_rid ?_; simp (disch := first | omega | assumption) only [ev_run_c, ev_run_n, ev_fj, ev_stp, ev_lk, ev_fv, ev_as, ev_sz, ev_st1, ev_st2, ev_rm, ev_pk, ev_Jof, ev_go, lv_args, List.map_cons, List.map_nil, List.zip_cons_cons, List.zip_nil_left, List.zip_nil_right, List.nil_append, List.cons_append, ↓reduceIte, reduceCtorEq, Int.reduceToNat, Nat.reduceEqDiff, Nat.reduceAdd, Nat.reduceLT, Nat.reduceLeDiff, Nat.reduceMul, Nat.reduceSub, Value.category, false_implies, true_and, and_true, Bool.false_eq_true, Option.some.injEq, exists_eq_left', Option.toList_some, Option.toList_none, ev_km, ev_k2, ev_k3, ev_k4, ev_k5, ev_l0, ev_l1, sh_1, sh_2, sh_3, sh_4, sh_5, at_X11_readsText_19, at_X11_readsText_50, at_X11_readsText_69, at_X11_readsText_82, ca_X11_101, ca_X11_118, ca_X11_153, ca_X11_205, ca_X11_216, ca_X11_98, cd_X11_readsText_0, cd_X11_readsText_19, cd_X11_readsText_50, cd_X11_readsText_69, cd_X11_readsText_82, fl_X11_9, ev_b_10, ev_h_900, no_0, no_1, no_lt, no_le, no_eq, no_lt0, no_ge0, no_gt0, no_le0, no_eq0, no_0eq, no_eqm, no_meq, no_m0, no_mlt, no_mge, no_mgt, no_mm, no_i01, no_i10, no_in, no_or, no_ifm, no_mul, nI_add, no_sub, pk_div, iI_if, nI_clamp, oI_n, oI_s, not_true_eq_false, not_false_eq_true, forall_const, true_implies, false_and, and_false, or_false, false_or, Classical.not_not, true_or, or_true, no_b, no_eq1, eq_self, and_self, sk_301, sk_302, sl_302, sp_301, re_10, re_n, n0, wA, f2, n1, wB, f3, n2, wC, w1_d, hw2, hw3])
            | (with_reducible refine ev_gid ?_; simp (disch := first | omega | assumption) only [ev_run_c, ev_run_n, ev_fj, ev_stp, ev_lk, ev_fv, ev_as, ev_sz, ev_st1, ev_st2, ev_rm, ev_pk, ev_Jof, ev_go, lv_args, List.map_cons, List.map_nil, List.zip_cons_cons, List.zip_nil_left, List.zip_nil_right, List.nil_append, List.cons_append, ↓reduceIte, reduceCtorEq, Int.reduceToNat, Nat.reduceEqDiff, Nat.reduceAdd, Nat.reduceLT, Nat.reduceLeDiff, Nat.reduceMul, Nat.reduceSub, Value.category, false_implies, true_and, and_true, Bool.false_eq_true, Option.some.injEq, exists_eq_left', Option.toList_some, Option.toList_none, ev_km, ev_k2, ev_k3, ev_k4, ev_k5, ev_l0, ev_l1, sh_1, sh_2, sh_3, sh_4, sh_5, at_X11_readsText_19, at_X11_readsText_50, at_X11_readsText_69, at_X11_readsText_82, ca_X11_101, ca_X11_118, ca_X11_153, ca_X11_205, ca_X11_216, ca_X11_98, cd_X11_readsText_0, cd_X11_readsText_19, cd_X11_readsText_50, cd_X11_readsText_69, cd_X11_readsText_82, fl_X11_9, ev_b_10, ev_h_900, no_0, no_1, no_lt, no_le, no_eq, no_lt0, no_ge0, no_gt0, no_le0, no_eq0, no_0eq, no_eqm, no_meq, no_m0, no_mlt, no_mge, no_mgt, no_mm, no_i01, no_i10, no_in, no_or, no_ifm, no_mul, nI_add, no_sub, pk_div, iI_if, nI_clamp, oI_n, oI_s, not_true_eq_false, not_false_eq_true, forall_const, true_implies, false_and, and_false, or_false, false_or, Classical.not_not, true_or, or_true, no_b, no_eq1, eq_self, and_self, sk_301, sk_302, sl_302, sp_301, re_10, re_n, n0, wA, f2, n1, wB, f3, n2, wC, w1_d, hw2, hw3])
            | (with_reducible refine And.intro (fun q => ?_) (fun q => ?_) <;> (try simp (disch := first | omega | assumption) only [no_0, no_1, no_lt, no_le, no_eq, no_lt0, no_ge0, no_gt0, no_le0, no_eq0, no_0eq, no_eqm, no_meq, no_m0, no_mlt, no_mge, no_mgt, no_mm, no_i01, no_i10, no_in, no_or, no_ifm, no_mul, nI_add, no_sub, pk_div, iI_if, nI_clamp, oI_n, oI_s, not_true_eq_false, not_false_eq_true, forall_const, true_implies, false_and, and_false, or_false, false_or, Classical.not_not, true_or, or_true, no_b, no_eq1, eq_self, and_self, sk_301, sk_302, sl_302, sp_301, re_10, re_n, n0, wA, f2, n1, wB, f3, n2, wC, w1_d, hw2, hw3] at q))
            | (with_reducible refine ev_ci hw ?_)
            | (with_reducible refine ev_ci (m_go hok (hRm _) ?_) ?_)
            | (with_reducible refine ev_ci (m_readNumber hok (hRm _) ?_ (by with_reducible assumption) ?_ ?_) ?_)
            | with_reducible refine ev_ci (m_go hok (by first | with_reducible assumption | exact RB_mw (by with_reducible assumption)) ?_) ?_
            | with_reducible refine ev_ci (m_faults hok ?_ _) ?_
            | with_reducible refine ev_ci (m_readNumber hok (by with_reducible assumption) ?_ (by with_reducible assumption) ?_ ?_) ?_
            | with_reducible refine ev_ci (m_is hok ?_ ?_) ?_
            | omega
            | with_reducible assumption
            | with_reducible rfl
            | with_reducible refine lp_nx ?_ ?_ ?_ ?_
            | with_reducible refine lp_st ?_ ?_ ?_
            | with_reducible refine ls_c ?_ ?_
            | with_reducible refine vi_c ?_
            | with_reducible refine re_c ?_
            | with_reducible refine vz_c ?_
            | with_reducible refine rz_c ?_
            | exact trivial
            | with_reducible refine And.intro ?_ ?_
            | simp (disch := first | omega | assumption) only [ev_run_c, ev_run_n, ev_fj, ev_stp, ev_lk, ev_fv, ev_as, ev_sz, ev_st1, ev_st2, ev_rm, ev_pk, ev_Jof, ev_go, lv_args, List.map_cons, List.map_nil, List.zip_cons_cons, List.zip_nil_left, List.zip_nil_right, List.nil_append, List.cons_append, ↓reduceIte, reduceCtorEq, Int.reduceToNat, Nat.reduceEqDiff, Nat.reduceAdd, Nat.reduceLT, Nat.reduceLeDiff, Nat.reduceMul, Nat.reduceSub, Value.category, false_implies, true_and, and_true, Bool.false_eq_true, Option.some.injEq, exists_eq_left', Option.toList_some, Option.toList_none, ev_km, ev_k2, ev_k3, ev_k4, ev_k5, ev_l0, ev_l1, sh_1, sh_2, sh_3, sh_4, sh_5, at_X11_readsText_19, at_X11_readsText_50, at_X11_readsText_69, at_X11_readsText_82, ca_X11_101, ca_X11_118, ca_X11_153, ca_X11_205, ca_X11_216, ca_X11_98, cd_X11_readsText_0, cd_X11_readsText_19, cd_X11_readsText_50, cd_X11_readsText_69, cd_X11_readsText_82, fl_X11_9, ev_b_10, ev_h_900, no_0, no_1, no_lt, no_le, no_eq, no_lt0, no_ge0, no_gt0, no_le0, no_eq0, no_0eq, no_eqm, no_meq, no_m0, no_mlt, no_mge, no_mgt, no_mm, no_i01, no_i10, no_in, no_or, no_ifm, no_mul, nI_add, no_sub, pk_div, iI_if, nI_clamp, oI_n, oI_s, not_true_eq_false, not_false_eq_true, forall_const, true_implies, false_and, and_false, or_false, false_or, Classical.not_not, true_or, or_true, no_b, no_eq1, eq_self, and_self, sk_301, sk_302, sl_302, sp_301, re_10, re_n, n0, wA, f2, n1, wB, f3, n2, wC, w1_d, hw2, hw3]
            | exact rfl
            | (split <;> omega))
        · rw [EI_2] at j7
          have : 9 ^ 2 * 2 * (m + 1 - 3) ≤ 162 * 501 := Nat.mul_le_mul (by decide) (by omega)
          omega
/-- the turns are the same whoever counts them -/
theorem Run_fn {k k' : Nat} {s t t' : PS} (h : Run B n k s t) (h' : Run B n k' s t') (he : t.e.1 = 0 → AC B n t) (he' : t'.e.1 = 0 → AC B n t') : k = k' ∧ t = t' := by
  rcases Nat.lt_trichotomy k k' with c | c | c
  · have h1 := h'.2 k c
    rw [h.1] at h1
    exact absurd (he h1.1) h1.2
  · subst c
    exact ⟨rfl, by rw [← h.1, h'.1]⟩
  · have h1 := h.2 k' c
    rw [h'.1] at h1
    exact absurd (he' h1.1) h1.2
/-- tokens end -/
theorem TT_ex (hok : ev_ok sh_S G) (hn : n ≤ 500) (hB : ∀ b, B b < 256) : ∃ m μc, TT B n m μc ∧ m ≤ n := by
  obtain ⟨m, h1, h2, h3, -⟩ := m_X9_split (μ := (fun _ k => nI (B k), fun _ _ => 0, fun _ _ => 0)) (B := B) hok hn (fun j _ => rfl) hB
  exact ⟨m, tkM B n (m + 1) n (fun _ _ => 0, fun _ _ => 0, fun _ _ => 0), ⟨by omega, h2, hB, fun k hk => ⟨tkz_29 (Nat.lt_succ_of_le hk), tkz_30 (Nat.lt_succ_of_le hk), tkz_31 (c := n) (Nat.lt_succ_of_le hk)⟩⟩, h1⟩
/-- how a text ends -/
def PE (B : Nat → Nat) (n k : Nat) (t : PS) : Prop := Run B n k (s0 B n) t ∧ t.e.1 < 5 ∧ (t.e.1 = 0 → AC B n t ∧ INV t.Q ∧ t.e = (0, -1)) ∧ k + 1 < 1000000
theorem PE_ex (hok : ev_ok sh_S G) (hks : KS G) (hn : n ≤ 500) (hB : ∀ b, B b < 256) : ∃ k t, PE B n k t := by
  obtain ⟨m, μc, hT, -⟩ := TT_ex (G := G) hok hn hB
  obtain ⟨k, t, af, vf, μ2, h1, h2, h3, h4, h5, h6⟩ := m_readsText (μ := (fun a k => if a = 301 ∧ k = 12 then nI n else if a = 307 then sb (B k) else nI 0, fun _ _ => 0, fun _ _ => 0)) hok hks hT ⟨hn, hB, rfl, fun j _ => rfl⟩ (fun k _ => rfl) rfl 0 0 0
  exact ⟨k, t, h1, h4, fun z => ⟨(h5 z).1, (h5 z).2.2.1, (h5 z).2.2.2⟩, h6⟩
/-- the reference reads a text -/
theorem m_readsTextE (hok : ev_ok sh_S G) (hks : KS G) (hR : RB B n μ) (hN : MR (fun _ => 0) μ) (h17 : μ.1 301 17 = nI 0) {k : Nat} {t' : PS} (hP : PE B n k t') (s t v : Int32) : ∃ af vf μ2, ev_T sh_S G mi_X11_readsText [.ref 301] (q6 (0, -1) (nI 0) s t v μ) (.inl (none, re B n t'.e af vf μ2)) ∧ Fw μ μ2 ∧ (t'.e.1 = 0 → MR t'.Q μ2) := by
  obtain ⟨m, μc, hT, -⟩ := TT_ex (G := G) hok hR.1 hR.2.1
  obtain ⟨k2, t2, af, vf, μ2, h1, h2, h3, h4, h5, h6⟩ := m_readsText hok hks hT hR hN h17 s t v
  obtain ⟨-, e1⟩ := Run_fn h1 hP.1 (fun z => (h5 z).1) (fun z => (hP.2.2.1 z).1)
  subst e1
  exact ⟨af, vf, μ2, h2, h3, fun z => (h5 z).2.1⟩
end RText
