/-! ===== the reference's parser beside the class's: lists of items, repeats ===== -/
section RRecB
variable {G : ev_G} {N : Nat → Nat} {B : Nat → Nat} {n m : Nat} {μ μ' μc : ev_M}
abbrev LTs (G : ev_G) (r : Nat) (M M' : ev_M) : Prop := LT G RX11 (mi_X11_readsItems r) (tb_X11_readsItems r) 0 ([0].zip [.ref 301]) [] M (.inl (none, M'))
set_option maxHeartbeats 2000000 in
/-- items, one after the other -/
theorem rs_loop (hok : ev_ok sh_S G) (hT : TT B n m μc) {r : Nat} (hi : RIs G B n m r) : ∀ (x : Nat) (N : Nat → Nat) (A d : Nat) (bd pl : Nat → Nat) (s t v : Int32) (μ : ev_M), m + 1 - A ≤ x → RB B n μ → MR N μ → INV N → A ≤ m → μ.1 301 17 = nI d → 0 < d → d + r = 2 → ∃ k t' af vf μ2, Run B n k (N, A, d, bd, pl, 1, (0, -1)) t' ∧ LTs G r (q6 (0, -1) (nI (ps B n A)) s t v μ) (re B n t'.e af vf μ2) ∧ Fw μ μ2 ∧ NV B n af vf ∧ t'.e.1 < 5 ∧ (t'.e.1 = 0 → OKt m d bd pl t' af μ2 ∧ tkd B n t'.a = 5 ∧ Sh B n (It B n (Sm B n) r) A t'.a k) ∧ (t'.e.1 ≠ 0 → k ≤ 9 ^ r * 2 * (m + 1 - A) + EI r + 1) := by
  have hp : 1 ≤ 9 ^ r := Nat.one_le_pow _ _ (by omega)
  intro x
  induction x with
  | zero => intro N A d bd pl s t v μ hx hR hN hI hA; exact absurd hx (by omega)
  | succ x ih =>
    intro N A d bd pl s t v μ hx hR hN hI hA h17 hd hdr
    have hgo : ev_T sh_S G mi_X11_goes [.ref 301] (q6 (0, -1) (nI (ps B n A)) s t v μ) (.inl (none, re B n (0, -1) A (nv B n (ps B n A) v) μ)) := m_goes hok hR rfl (ps_le B n A) s t v
    obtain ⟨k1, t1, a1, v1, μ1, i1, i2, i3, i4, i5, i6, i7⟩ := hi N A d bd pl _ μ hR hN hI NV_nvA hA h17 hdr
    have hR1 := RB_fw hR i3
    have his4 := m_is (μ := μ1) (B := B) (n := n) (e := t1.e) (a := a1) (v := v1) hok i5 (j := 4) (by omega)
    have his6 := m_is (μ := μ1) (B := B) (n := n) (e := t1.e) (a := a1) (v := v1) hok i5 (j := 6) (by omega)
    have hfa := m_faults (μ := μ1) (B := B) (n := n) (e := t1.e) (a := a1) (v := v1) hok i5 1
    have k4 : (rcd (tkd B n a1) = 4) = (tkd B n a1 = 3) := rcd_eq (tkd_le B n a1) (by omega)
    have k6 : (rcd (tkd B n a1) = 6) = (tkd B n a1 = 5) := rcd_eq (tkd_le B n a1) (by omega)
    by_cases z1 : t1.e.1 = 0
    · obtain ⟨⟨o1, o2, o3, o4, o5, o6, o7, o8⟩, o9⟩ := i6 z1
      obtain ⟨Q1, a9, d9, bd1, pl1, due9, e9⟩ := t1
      have o1 : d9 = d := o1
      have o2 : due9 = 0 := o2
      have o3 : e9 = (0, -1) := o3
      have o4 : a1 = a9 := o4
      subst o1
      subst o2
      subst o3
      subst o4
      have o5 : MR Q1 μ1 := o5
      have o6 : INV Q1 := o6
      have o7 : a1 ≤ m := o7
      have o8 : ∀ i, i < d9 → bd1 i = bd i ∧ pl1 i = pl i := o8
      have o9 : It B n (Sm B n) r A a1 k1 := o9
      have hle := It_le (B := B) (n := n) (S := Sm B n) (fun _ _ h => Sm_lt h) r A a1 k1 o9
      have his4 : ev_T sh_S G mi_X11_is [.ref 301, .int (nI 4)] (re B n (0, -1) a1 v1 μ1) (.inl (some (.int (nI (if ((0 : Nat) = 0 ∧ rcd (tkd B n a1) = 4) then 1 else 0))), re B n (0, -1) a1 v1 μ1)) := his4
      have his6 : ev_T sh_S G mi_X11_is [.ref 301, .int (nI 6)] (re B n (0, -1) a1 v1 μ1) (.inl (some (.int (nI (if ((0 : Nat) = 0 ∧ rcd (tkd B n a1) = 6) then 1 else 0))), re B n (0, -1) a1 v1 μ1)) := his6
      have i2 : ev_T sh_S G (mi_X11_readsItem r) [.ref 301] (re B n (0, -1) A (nv B n (ps B n A) v) μ) (.inl (none, re B n (0, -1) a1 v1 μ1)) := i2
      by_cases c3 : tkd B n a1 = 3
      · have hn3 := tk_nxt hT o7 (by omega)
        rw [if_pos ⟨rfl, by rw [k4]; exact c3⟩] at his4
        obtain ⟨k2, t2, af, vf, μ2, j1, j2, j3, j4, j5, j6, j7⟩ := ih Q1 (a1 + 1) d9 bd1 pl1 (nI (tst B n a1)) (nI (rcd (tkd B n a1))) v1 μ1 (by omega) hR1 o5 o6 hn3 ((i3.1 301 17 (by omega) (by omega)).trans h17) hd hdr
        have j2 : LTs G r (re B n (0, -1) a1 v1 μ1) (re B n t2.e af vf μ2) := j2
        refine ⟨k1 + (1 + k2), t2, af, vf, μ2, Run_tr i1 (Run_tr (Run_1 rfl (nAC_d hd)) ?_), ?_, Fw_tr i3 j3, j4, j5, fun z => ?_, fun z => ?_⟩
        · rw [stp_semi c3]; exact j1
        · refine LT_go1 (n := 400) (okM_X11_readsItems r) j2 ?_
          rw [at_X11_readsItems_0]
          repeat' (first
            | (with_reducible refine ev_rid ?_; simp (disch := first | omega | assumption) only [ev_run_c, ev_run_n, ev_fj, ev_stp, ev_lk, ev_fv, ev_as, ev_sz, ev_st1, ev_st2, ev_rm, ev_pk, ev_Jof, ev_go, lv_args, List.map_cons, List.map_nil, List.zip_cons_cons, List.zip_nil_left, List.zip_nil_right, List.nil_append, List.cons_append, ↓reduceIte, reduceCtorEq, Int.reduceToNat, Nat.reduceEqDiff, Nat.reduceAdd, Nat.reduceLT, Nat.reduceLeDiff, Nat.reduceMul, Nat.reduceSub, Value.category, false_implies, true_and, and_true, Bool.false_eq_true, Option.some.injEq, exists_eq_left', Option.toList_some, Option.toList_none, ev_km, ev_k2, ev_k3, ev_k4, ev_k5, ev_l0, ev_l1, sh_1, sh_2, sh_3, sh_4, sh_5, at_X11_readsItems_0, at_X11_readsItems_30, ca_X11_101, ca_X11_118, ca_X11_205, ca_X11_98, cd_X11_readsItems_0, cd_X11_readsItems_30, ev_b_6, no_0, no_1, no_lt, no_le, no_eq, no_lt0, no_ge0, no_gt0, no_le0, no_eq0, no_0eq, no_eqm, no_meq, no_m0, no_mlt, no_mge, no_mgt, no_mm, no_i01, no_i10, no_in, no_or, no_ifm, no_mul, nI_add, no_sub, pk_div, iI_if, nI_clamp, oI_n, oI_s, not_true_eq_false, not_false_eq_true, forall_const, true_implies, false_and, and_false, or_false, false_or, Classical.not_not, true_or, or_true, no_b, no_eq1, eq_self, and_self, sk_301, sk_302, sl_302, sp_301])
            | (with_reducible refine ev_gid ?_; simp (disch := first | omega | assumption) only [ev_run_c, ev_run_n, ev_fj, ev_stp, ev_lk, ev_fv, ev_as, ev_sz, ev_st1, ev_st2, ev_rm, ev_pk, ev_Jof, ev_go, lv_args, List.map_cons, List.map_nil, List.zip_cons_cons, List.zip_nil_left, List.zip_nil_right, List.nil_append, List.cons_append, ↓reduceIte, reduceCtorEq, Int.reduceToNat, Nat.reduceEqDiff, Nat.reduceAdd, Nat.reduceLT, Nat.reduceLeDiff, Nat.reduceMul, Nat.reduceSub, Value.category, false_implies, true_and, and_true, Bool.false_eq_true, Option.some.injEq, exists_eq_left', Option.toList_some, Option.toList_none, ev_km, ev_k2, ev_k3, ev_k4, ev_k5, ev_l0, ev_l1, sh_1, sh_2, sh_3, sh_4, sh_5, at_X11_readsItems_0, at_X11_readsItems_30, ca_X11_101, ca_X11_118, ca_X11_205, ca_X11_98, cd_X11_readsItems_0, cd_X11_readsItems_30, ev_b_6, no_0, no_1, no_lt, no_le, no_eq, no_lt0, no_ge0, no_gt0, no_le0, no_eq0, no_0eq, no_eqm, no_meq, no_m0, no_mlt, no_mge, no_mgt, no_mm, no_i01, no_i10, no_in, no_or, no_ifm, no_mul, nI_add, no_sub, pk_div, iI_if, nI_clamp, oI_n, oI_s, not_true_eq_false, not_false_eq_true, forall_const, true_implies, false_and, and_false, or_false, false_or, Classical.not_not, true_or, or_true, no_b, no_eq1, eq_self, and_self, sk_301, sk_302, sl_302, sp_301])
            | (with_reducible refine And.intro (fun q => ?_) (fun q => ?_) <;> (try simp (disch := first | omega | assumption) only [no_0, no_1, no_lt, no_le, no_eq, no_lt0, no_ge0, no_gt0, no_le0, no_eq0, no_0eq, no_eqm, no_meq, no_m0, no_mlt, no_mge, no_mgt, no_mm, no_i01, no_i10, no_in, no_or, no_ifm, no_mul, nI_add, no_sub, pk_div, iI_if, nI_clamp, oI_n, oI_s, not_true_eq_false, not_false_eq_true, forall_const, true_implies, false_and, and_false, or_false, false_or, Classical.not_not, true_or, or_true, no_b, no_eq1, eq_self, and_self, sk_301, sk_302, sl_302, sp_301] at q))
            | (with_reducible refine ev_ci hgo ?_)
            | (with_reducible refine ev_ci i2 ?_)
            | (with_reducible refine ev_ci his4 ?_)
            | with_reducible refine ev_ci (m_go hok (by first | with_reducible assumption | exact RB_mw (by with_reducible assumption)) ?_) ?_
            | with_reducible refine ev_ci (m_is hok ?_ ?_) ?_
            | with_reducible refine ev_ci (m_faults hok ?_ _) ?_
            | omega
            | with_reducible assumption
            | with_reducible rfl
            | with_reducible refine lp_nx ?_ ?_ ?_ ?_
            | with_reducible refine lp_st ?_ ?_ ?_
            | with_reducible refine ls_c ?_ ?_
            | with_reducible refine vi_c ?_
            | with_reducible refine re_c ?_
            | with_reducible refine vz_c ?_
            | with_reducible refine rz_c ?_
            | exact trivial
            | with_reducible refine And.intro ?_ ?_
            | simp (disch := first | omega | assumption) only [ev_run_c, ev_run_n, ev_fj, ev_stp, ev_lk, ev_fv, ev_as, ev_sz, ev_st1, ev_st2, ev_rm, ev_pk, ev_Jof, ev_go, lv_args, List.map_cons, List.map_nil, List.zip_cons_cons, List.zip_nil_left, List.zip_nil_right, List.nil_append, List.cons_append, ↓reduceIte, reduceCtorEq, Int.reduceToNat, Nat.reduceEqDiff, Nat.reduceAdd, Nat.reduceLT, Nat.reduceLeDiff, Nat.reduceMul, Nat.reduceSub, Value.category, false_implies, true_and, and_true, Bool.false_eq_true, Option.some.injEq, exists_eq_left', Option.toList_some, Option.toList_none, ev_km, ev_k2, ev_k3, ev_k4, ev_k5, ev_l0, ev_l1, sh_1, sh_2, sh_3, sh_4, sh_5, at_X11_readsItems_0, at_X11_readsItems_30, ca_X11_101, ca_X11_118, ca_X11_205, ca_X11_98, cd_X11_readsItems_0, cd_X11_readsItems_30, ev_b_6, no_0, no_1, no_lt, no_le, no_eq, no_lt0, no_ge0, no_gt0, no_le0, no_eq0, no_0eq, no_eqm, no_meq, no_m0, no_mlt, no_mge, no_mgt, no_mm, no_i01, no_i10, no_in, no_or, no_ifm, no_mul, nI_add, no_sub, pk_div, iI_if, nI_clamp, oI_n, oI_s, not_true_eq_false, not_false_eq_true, forall_const, true_implies, false_and, and_false, or_false, false_or, Classical.not_not, true_or, or_true, no_b, no_eq1, eq_self, and_self, sk_301, sk_302, sl_302, sp_301]
            | exact rfl
            | (split <;> omega))
        · obtain ⟨⟨p1, p2, p3, p4, p5, p6, p7, p8⟩, p9, q, hq⟩ := j6 z
          refine ⟨⟨p1, p2, p3, p4, p5, p6, p7, fun i hi => ⟨(p8 i hi).1.trans (o8 i hi).1, (p8 i hi).2.trans (o8 i hi).2⟩⟩, p9, q + 1, a1, k1, k2, o9, c3, hq, by omega⟩
        · have h7 := j7 z
          have e1 : m + 1 - A = (a1 - A) + (m + 1 - (a1 + 1)) + 1 := by omega
          rw [e1, Nat.mul_add, Nat.mul_add]
          omega
      · rw [if_neg (fun q => c3 (by rw [← k4]; exact q.2))] at his4
        by_cases c5 : tkd B n a1 = 5
        · rw [if_pos ⟨rfl, by rw [k6]; exact c5⟩] at his6
          refine ⟨k1, _, a1, v1, μ1, i1, ?_, i3, i4, i5, fun _ => ⟨⟨rfl, rfl, rfl, rfl, o5, o6, o7, o8⟩, c5, 0, o9, c3⟩, fun z => absurd rfl z⟩
          refine LT_go (n := 400) (okM_X11_readsItems r) ?_
          rw [at_X11_readsItems_0]
          repeat' (first
            | (with_reducible refine ev_rid ?_; simp (disch := first | omega | assumption) only [ev_run_c, ev_run_n, ev_fj, ev_stp, ev_lk, ev_fv, ev_as, ev_sz, ev_st1, ev_st2, ev_rm, ev_pk, ev_Jof, ev_go, lv_args, List.map_cons, List.map_nil, List.zip_cons_cons, List.zip_nil_left, List.zip_nil_right, List.nil_append, List.cons_append, ↓reduceIte, reduceCtorEq, Int.reduceToNat, Nat.reduceEqDiff, Nat.reduceAdd, Nat.reduceLT, Nat.reduceLeDiff, Nat.reduceMul, Nat.reduceSub, Value.category, false_implies, true_and, and_true, Bool.false_eq_true, Option.some.injEq, exists_eq_left', Option.toList_some, Option.toList_none, ev_km, ev_k2, ev_k3, ev_k4, ev_k5, ev_l0, ev_l1, sh_1, sh_2, sh_3, sh_4, sh_5, at_X11_readsItems_0, at_X11_readsItems_30, ca_X11_101, ca_X11_118, ca_X11_205, ca_X11_98, cd_X11_readsItems_0, cd_X11_readsItems_30, ev_b_6, no_0, no_1, no_lt, no_le, no_eq, no_lt0, no_ge0, no_gt0, no_le0, no_eq0, no_0eq, no_eqm, no_meq, no_m0, no_mlt, no_mge, no_mgt, no_mm, no_i01, no_i10, no_in, no_or, no_ifm, no_mul, nI_add, no_sub, pk_div, iI_if, nI_clamp, oI_n, oI_s, not_true_eq_false, not_false_eq_true, forall_const, true_implies, false_and, and_false, or_false, false_or, Classical.not_not, true_or, or_true, no_b, no_eq1, eq_self, and_self, sk_301, sk_302, sl_302, sp_301])
            | (with_reducible refine ev_gid ?_; simp (disch := first | omega | assumption) only [ev_run_c, ev_run_n, ev_fj, ev_stp, ev_lk, ev_fv, ev_as, ev_sz, ev_st1, ev_st2, ev_rm, ev_pk, ev_Jof, ev_go, lv_args, List.map_cons, List.map_nil, List.zip_cons_cons, List.zip_nil_left, List.zip_nil_right, List.nil_append, List.cons_append, ↓reduceIte, reduceCtorEq, Int.reduceToNat, Nat.reduceEqDiff, Nat.reduceAdd, Nat.reduceLT, Nat.reduceLeDiff, Nat.reduceMul, Nat.reduceSub, Value.category, false_implies, true_and, and_true, Bool.false_eq_true, Option.some.injEq, exists_eq_left', Option.toList_some, Option.toList_none, ev_km, ev_k2, ev_k3, ev_k4, ev_k5, ev_l0, ev_l1, sh_1, sh_2, sh_3, sh_4, sh_5, at_X11_readsItems_0, at_X11_readsItems_30, ca_X11_101, ca_X11_118, ca_X11_205, ca_X11_98, cd_X11_readsItems_0, cd_X11_readsItems_30, ev_b_6, no_0, no_1, no_lt, no_le, no_eq, no_lt0, no_ge0, no_gt0, no_le0, no_eq0, no_0eq, no_eqm, no_meq, no_m0, no_mlt, no_mge, no_mgt, no_mm, no_i01, no_i10, no_in, no_or, no_ifm, no_mul, nI_add, no_sub, pk_div, iI_if, nI_clamp, oI_n, oI_s, not_true_eq_false, not_false_eq_true, forall_const, true_implies, false_and, and_false, or_false, false_or, Classical.not_not, true_or, or_true, no_b, no_eq1, eq_self, and_self, sk_301, sk_302, sl_302, sp_301])
            | (with_reducible refine And.intro (fun q => ?_) (fun q => ?_) <;> (try simp (disch := first | omega | assumption) only [no_0, no_1, no_lt, no_le, no_eq, no_lt0, no_ge0, no_gt0, no_le0, no_eq0, no_0eq, no_eqm, no_meq, no_m0, no_mlt, no_mge, no_mgt, no_mm, no_i01, no_i10, no_in, no_or, no_ifm, no_mul, nI_add, no_sub, pk_div, iI_if, nI_clamp, oI_n, oI_s, not_true_eq_false, not_false_eq_true, forall_const, true_implies, false_and, and_false, or_false, false_or, Classical.not_not, true_or, or_true, no_b, no_eq1, eq_self, and_self, sk_301, sk_302, sl_302, sp_301] at q))
            | (with_reducible refine ev_ci hgo ?_)
            | (with_reducible refine ev_ci i2 ?_)
            | (with_reducible refine ev_ci his4 ?_)
            | (with_reducible refine ev_ci his6 ?_)
            | with_reducible refine ev_ci (m_go hok (by first | with_reducible assumption | exact RB_mw (by with_reducible assumption)) ?_) ?_
            | with_reducible refine ev_ci (m_is hok ?_ ?_) ?_
            | with_reducible refine ev_ci (m_faults hok ?_ _) ?_
            | omega
            | with_reducible assumption
            | with_reducible rfl
            | with_reducible refine lp_nx ?_ ?_ ?_ ?_
            | with_reducible refine lp_st ?_ ?_ ?_
            | with_reducible refine ls_c ?_ ?_
            | with_reducible refine vi_c ?_
            | with_reducible refine re_c ?_
            | with_reducible refine vz_c ?_
            | with_reducible refine rz_c ?_
            | exact trivial
            | with_reducible refine And.intro ?_ ?_
            | simp (disch := first | omega | assumption) only [ev_run_c, ev_run_n, ev_fj, ev_stp, ev_lk, ev_fv, ev_as, ev_sz, ev_st1, ev_st2, ev_rm, ev_pk, ev_Jof, ev_go, lv_args, List.map_cons, List.map_nil, List.zip_cons_cons, List.zip_nil_left, List.zip_nil_right, List.nil_append, List.cons_append, ↓reduceIte, reduceCtorEq, Int.reduceToNat, Nat.reduceEqDiff, Nat.reduceAdd, Nat.reduceLT, Nat.reduceLeDiff, Nat.reduceMul, Nat.reduceSub, Value.category, false_implies, true_and, and_true, Bool.false_eq_true, Option.some.injEq, exists_eq_left', Option.toList_some, Option.toList_none, ev_km, ev_k2, ev_k3, ev_k4, ev_k5, ev_l0, ev_l1, sh_1, sh_2, sh_3, sh_4, sh_5, at_X11_readsItems_0, at_X11_readsItems_30, ca_X11_101, ca_X11_118, ca_X11_205, ca_X11_98, cd_X11_readsItems_0, cd_X11_readsItems_30, ev_b_6, no_0, no_1, no_lt, no_le, no_eq, no_lt0, no_ge0, no_gt0, no_le0, no_eq0, no_0eq, no_eqm, no_meq, no_m0, no_mlt, no_mge, no_mgt, no_mm, no_i01, no_i10, no_in, no_or, no_ifm, no_mul, nI_add, no_sub, pk_div, iI_if, nI_clamp, oI_n, oI_s, not_true_eq_false, not_false_eq_true, forall_const, true_implies, false_and, and_false, or_false, false_or, Classical.not_not, true_or, or_true, no_b, no_eq1, eq_self, and_self, sk_301, sk_302, sl_302, sp_301]
            | exact rfl
            | (split <;> omega))
        · rw [if_neg (fun q => c5 (by rw [← k6]; exact q.2))] at his6
          have hb : stp B n (Q1, a1, d9, bd1, pl1, 0, (0, -1)) = (Q1, a1, d9, bd1, pl1, 0, er (0, -1) True 1 a1 B n) := stp_bad c3 (fun q => c5 q.1)
          have hfa : ev_T sh_S G mi_X11_faults [.ref 301, .int (nI 1)] (re B n (0, -1) a1 v1 μ1) (.inl (none, re B n (er (0, -1) True 1 a1 B n) a1 v1 μ1)) := hfa
          refine ⟨k1 + 1, (Q1, a1, d9, bd1, pl1, 0, er (0, -1) True 1 a1 B n), a1, v1, μ1, Run_tr i1 ?_, ?_, i3, i4, er_c (by decide) (by decide), fun z => absurd (er_yc.symm.trans z) (by decide), fun _ => ?_⟩
          · have := Run_1 (B := B) (n := n) (s := (Q1, a1, d9, bd1, pl1, 0, (0, -1))) rfl (nAC_d hd)
            rw [hb] at this
            exact this
          · refine LT_go (n := 400) (okM_X11_readsItems r) ?_
            rw [at_X11_readsItems_0]
            repeat' (first
              | (with_reducible refine ev_rid ?_; simp (disch := first | omega | assumption) only [ev_run_c, ev_run_n, ev_fj, ev_stp, ev_lk, ev_fv, ev_as, ev_sz, ev_st1, ev_st2, ev_rm, ev_pk, ev_Jof, ev_go, lv_args, List.map_cons, List.map_nil, List.zip_cons_cons, List.zip_nil_left, List.zip_nil_right, List.nil_append, List.cons_append, ↓reduceIte, reduceCtorEq, Int.reduceToNat, Nat.reduceEqDiff, Nat.reduceAdd, Nat.reduceLT, Nat.reduceLeDiff, Nat.reduceMul, Nat.reduceSub, Value.category, false_implies, true_and, and_true, Bool.false_eq_true, Option.some.injEq, exists_eq_left', Option.toList_some, Option.toList_none, ev_km, ev_k2, ev_k3, ev_k4, ev_k5, ev_l0, ev_l1, sh_1, sh_2, sh_3, sh_4, sh_5, at_X11_readsItems_0, at_X11_readsItems_30, ca_X11_101, ca_X11_118, ca_X11_205, ca_X11_98, cd_X11_readsItems_0, cd_X11_readsItems_30, ev_b_6, no_0, no_1, no_lt, no_le, no_eq, no_lt0, no_ge0, no_gt0, no_le0, no_eq0, no_0eq, no_eqm, no_meq, no_m0, no_mlt, no_mge, no_mgt, no_mm, no_i01, no_i10, no_in, no_or, no_ifm, no_mul, nI_add, no_sub, pk_div, iI_if, nI_clamp, oI_n, oI_s, not_true_eq_false, not_false_eq_true, forall_const, true_implies, false_and, and_false, or_false, false_or, Classical.not_not, true_or, or_true, no_b, no_eq1, eq_self, and_self, sk_301, sk_302, sl_302, sp_301])
              | (with_reducible refine ev_gid ?_; simp (disch := first | omega | assumption) only [ev_run_c, ev_run_n, ev_fj, ev_stp, ev_lk, ev_fv, ev_as, ev_sz, ev_st1, ev_st2, ev_rm, ev_pk, ev_Jof, ev_go, lv_args, List.map_cons, List.map_nil, List.zip_cons_cons, List.zip_nil_left, List.zip_nil_right, List.nil_append, List.cons_append, ↓reduceIte, reduceCtorEq, Int.reduceToNat, Nat.reduceEqDiff, Nat.reduceAdd, Nat.reduceLT, Nat.reduceLeDiff, Nat.reduceMul, Nat.reduceSub, Value.category, false_implies, true_and, and_true, Bool.false_eq_true, Option.some.injEq, exists_eq_left', Option.toList_some, Option.toList_none, ev_km, ev_k2, ev_k3, ev_k4, ev_k5, ev_l0, ev_l1, sh_1, sh_2, sh_3, sh_4, sh_5, at_X11_readsItems_0, at_X11_readsItems_30, ca_X11_101, ca_X11_118, ca_X11_205, ca_X11_98, cd_X11_readsItems_0, cd_X11_readsItems_30, ev_b_6, no_0, no_1, no_lt, no_le, no_eq, no_lt0, no_ge0, no_gt0, no_le0, no_eq0, no_0eq, no_eqm, no_meq, no_m0, no_mlt, no_mge, no_mgt, no_mm, no_i01, no_i10, no_in, no_or, no_ifm, no_mul, nI_add, no_sub, pk_div, iI_if, nI_clamp, oI_n, oI_s, not_true_eq_false, not_false_eq_true, forall_const, true_implies, false_and, and_false, or_false, false_or, Classical.not_not, true_or, or_true, no_b, no_eq1, eq_self, and_self, sk_301, sk_302, sl_302, sp_301])
              | (with_reducible refine And.intro (fun q => ?_) (fun q => ?_) <;> (try simp (disch := first | omega | assumption) only [no_0, no_1, no_lt, no_le, no_eq, no_lt0, no_ge0, no_gt0, no_le0, no_eq0, no_0eq, no_eqm, no_meq, no_m0, no_mlt, no_mge, no_mgt, no_mm, no_i01, no_i10, no_in, no_or, no_ifm, no_mul, nI_add, no_sub, pk_div, iI_if, nI_clamp, oI_n, oI_s, not_true_eq_false, not_false_eq_true, forall_const, true_implies, false_and, and_false, or_false, false_or, Classical.not_not, true_or, or_true, no_b, no_eq1, eq_self, and_self, sk_301, sk_302, sl_302, sp_301] at q))
              | (with_reducible refine ev_ci hgo ?_)
              | (with_reducible refine ev_ci i2 ?_)
              | (with_reducible refine ev_ci his4 ?_)
              | (with_reducible refine ev_ci his6 ?_)
              | (with_reducible refine ev_ci hfa ?_)
              | with_reducible refine ev_ci (m_go hok (by first | with_reducible assumption | exact RB_mw (by with_reducible assumption)) ?_) ?_
              | with_reducible refine ev_ci (m_is hok ?_ ?_) ?_
              | with_reducible refine ev_ci (m_faults hok ?_ _) ?_
              | omega
              | with_reducible assumption
              | with_reducible rfl
              | with_reducible refine lp_nx ?_ ?_ ?_ ?_
              | with_reducible refine lp_st ?_ ?_ ?_
              | with_reducible refine ls_c ?_ ?_
              | with_reducible refine vi_c ?_
              | with_reducible refine re_c ?_
              | with_reducible refine vz_c ?_
              | with_reducible refine rz_c ?_
              | exact trivial
              | with_reducible refine And.intro ?_ ?_
              | simp (disch := first | omega | assumption) only [ev_run_c, ev_run_n, ev_fj, ev_stp, ev_lk, ev_fv, ev_as, ev_sz, ev_st1, ev_st2, ev_rm, ev_pk, ev_Jof, ev_go, lv_args, List.map_cons, List.map_nil, List.zip_cons_cons, List.zip_nil_left, List.zip_nil_right, List.nil_append, List.cons_append, ↓reduceIte, reduceCtorEq, Int.reduceToNat, Nat.reduceEqDiff, Nat.reduceAdd, Nat.reduceLT, Nat.reduceLeDiff, Nat.reduceMul, Nat.reduceSub, Value.category, false_implies, true_and, and_true, Bool.false_eq_true, Option.some.injEq, exists_eq_left', Option.toList_some, Option.toList_none, ev_km, ev_k2, ev_k3, ev_k4, ev_k5, ev_l0, ev_l1, sh_1, sh_2, sh_3, sh_4, sh_5, at_X11_readsItems_0, at_X11_readsItems_30, ca_X11_101, ca_X11_118, ca_X11_205, ca_X11_98, cd_X11_readsItems_0, cd_X11_readsItems_30, ev_b_6, no_0, no_1, no_lt, no_le, no_eq, no_lt0, no_ge0, no_gt0, no_le0, no_eq0, no_0eq, no_eqm, no_meq, no_m0, no_mlt, no_mge, no_mgt, no_mm, no_i01, no_i10, no_in, no_or, no_ifm, no_mul, nI_add, no_sub, pk_div, iI_if, nI_clamp, oI_n, oI_s, not_true_eq_false, not_false_eq_true, forall_const, true_implies, false_and, and_false, or_false, false_or, Classical.not_not, true_or, or_true, no_b, no_eq1, eq_self, and_self, sk_301, sk_302, sl_302, sp_301]
              | exact rfl
              | (split <;> omega))
          · have h8 : 9 ^ r * 2 * (a1 - A) ≤ 9 ^ r * 2 * (m + 1 - A) := Nat.mul_le_mul_left _ (by omega)
            have h9 := EI_1 r
            omega
    · rw [if_neg (fun q => z1 q.1)] at his4 his6
      rw [er_n z1] at hfa
      refine ⟨k1, t1, a1, v1, μ1, i1, ?_, i3, i4, i5, fun z => absurd z z1, fun z => ?_⟩
      · refine LT_go (n := 400) (okM_X11_readsItems r) ?_
        rw [at_X11_readsItems_0]
        repeat' (first
          | (with_reducible refine ev_rid ?_; simp (disch := first | omega | assumption) only [ev_run_c, ev_run_n, ev_fj, ev_stp, ev_lk, ev_fv, ev_as, ev_sz, ev_st1, ev_st2, ev_rm, ev_pk, ev_Jof, ev_go, lv_args, List.map_cons, List.map_nil, List.zip_cons_cons, List.zip_nil_left, List.zip_nil_right, List.nil_append, List.cons_append, ↓reduceIte, reduceCtorEq, Int.reduceToNat, Nat.reduceEqDiff, Nat.reduceAdd, Nat.reduceLT, Nat.reduceLeDiff, Nat.reduceMul, Nat.reduceSub, Value.category, false_implies, true_and, and_true, Bool.false_eq_true, Option.some.injEq, exists_eq_left', Option.toList_some, Option.toList_none, ev_km, ev_k2, ev_k3, ev_k4, ev_k5, ev_l0, ev_l1, sh_1, sh_2, sh_3, sh_4, sh_5, at_X11_readsItems_0, at_X11_readsItems_30, ca_X11_101, ca_X11_118, ca_X11_205, ca_X11_98, cd_X11_readsItems_0, cd_X11_readsItems_30, ev_b_6, no_0, no_1, no_lt, no_le, no_eq, no_lt0, no_ge0, no_gt0, no_le0, no_eq0, no_0eq, no_eqm, no_meq, no_m0, no_mlt, no_mge, no_mgt, no_mm, no_i01, no_i10, no_in, no_or, no_ifm, no_mul, nI_add, no_sub, pk_div, iI_if, nI_clamp, oI_n, oI_s, not_true_eq_false, not_false_eq_true, forall_const, true_implies, false_and, and_false, or_false, false_or, Classical.not_not, true_or, or_true, no_b, no_eq1, eq_self, and_self, sk_301, sk_302, sl_302, sp_301])
          | (with_reducible refine ev_gid ?_; simp (disch := first | omega | assumption) only [ev_run_c, ev_run_n, ev_fj, ev_stp, ev_lk, ev_fv, ev_as, ev_sz, ev_st1, ev_st2, ev_rm, ev_pk, ev_Jof, ev_go, lv_args, List.map_cons, List.map_nil, List.zip_cons_cons, List.zip_nil_left, List.zip_nil_right, List.nil_append, List.cons_append, ↓reduceIte, reduceCtorEq, Int.reduceToNat, Nat.reduceEqDiff, Nat.reduceAdd, Nat.reduceLT, Nat.reduceLeDiff, Nat.reduceMul, Nat.reduceSub, Value.category, false_implies, true_and, and_true, Bool.false_eq_true, Option.some.injEq, exists_eq_left', Option.toList_some, Option.toList_none, ev_km, ev_k2, ev_k3, ev_k4, ev_k5, ev_l0, ev_l1, sh_1, sh_2, sh_3, sh_4, sh_5, at_X11_readsItems_0, at_X11_readsItems_30, ca_X11_101, ca_X11_118, ca_X11_205, ca_X11_98, cd_X11_readsItems_0, cd_X11_readsItems_30, ev_b_6, no_0, no_1, no_lt, no_le, no_eq, no_lt0, no_ge0, no_gt0, no_le0, no_eq0, no_0eq, no_eqm, no_meq, no_m0, no_mlt, no_mge, no_mgt, no_mm, no_i01, no_i10, no_in, no_or, no_ifm, no_mul, nI_add, no_sub, pk_div, iI_if, nI_clamp, oI_n, oI_s, not_true_eq_false, not_false_eq_true, forall_const, true_implies, false_and, and_false, or_false, false_or, Classical.not_not, true_or, or_true, no_b, no_eq1, eq_self, and_self, sk_301, sk_302, sl_302, sp_301])
          | (with_reducible refine And.intro (fun q => ?_) (fun q => ?_) <;> (try simp (disch := first | omega | assumption) only [no_0, no_1, no_lt, no_le, no_eq, no_lt0, no_ge0, no_gt0, no_le0, no_eq0, no_0eq, no_eqm, no_meq, no_m0, no_mlt, no_mge, no_mgt, no_mm, no_i01, no_i10, no_in, no_or, no_ifm, no_mul, nI_add, no_sub, pk_div, iI_if, nI_clamp, oI_n, oI_s, not_true_eq_false, not_false_eq_true, forall_const, true_implies, false_and, and_false, or_false, false_or, Classical.not_not, true_or, or_true, no_b, no_eq1, eq_self, and_self, sk_301, sk_302, sl_302, sp_301] at q))
          | (with_reducible refine ev_ci hgo ?_)
          | (with_reducible refine ev_ci i2 ?_)
          | (with_reducible refine ev_ci his4 ?_)
          | (with_reducible refine ev_ci his6 ?_)
          | (with_reducible refine ev_ci hfa ?_)
          | with_reducible refine ev_ci (m_go hok (by first | with_reducible assumption | exact RB_mw (by with_reducible assumption)) ?_) ?_
          | with_reducible refine ev_ci (m_is hok ?_ ?_) ?_
          | with_reducible refine ev_ci (m_faults hok ?_ _) ?_
          | omega
          | with_reducible assumption
          | with_reducible rfl
          | with_reducible refine lp_nx ?_ ?_ ?_ ?_
          | with_reducible refine lp_st ?_ ?_ ?_
          | with_reducible refine ls_c ?_ ?_
          | with_reducible refine vi_c ?_
          | with_reducible refine re_c ?_
          | with_reducible refine vz_c ?_
          | with_reducible refine rz_c ?_
          | exact trivial
          | with_reducible refine And.intro ?_ ?_
          | simp (disch := first | omega | assumption) only [ev_run_c, ev_run_n, ev_fj, ev_stp, ev_lk, ev_fv, ev_as, ev_sz, ev_st1, ev_st2, ev_rm, ev_pk, ev_Jof, ev_go, lv_args, List.map_cons, List.map_nil, List.zip_cons_cons, List.zip_nil_left, List.zip_nil_right, List.nil_append, List.cons_append, ↓reduceIte, reduceCtorEq, Int.reduceToNat, Nat.reduceEqDiff, Nat.reduceAdd, Nat.reduceLT, Nat.reduceLeDiff, Nat.reduceMul, Nat.reduceSub, Value.category, false_implies, true_and, and_true, Bool.false_eq_true, Option.some.injEq, exists_eq_left', Option.toList_some, Option.toList_none, ev_km, ev_k2, ev_k3, ev_k4, ev_k5, ev_l0, ev_l1, sh_1, sh_2, sh_3, sh_4, sh_5, at_X11_readsItems_0, at_X11_readsItems_30, ca_X11_101, ca_X11_118, ca_X11_205, ca_X11_98, cd_X11_readsItems_0, cd_X11_readsItems_30, ev_b_6, no_0, no_1, no_lt, no_le, no_eq, no_lt0, no_ge0, no_gt0, no_le0, no_eq0, no_0eq, no_eqm, no_meq, no_m0, no_mlt, no_mge, no_mgt, no_mm, no_i01, no_i10, no_in, no_or, no_ifm, no_mul, nI_add, no_sub, pk_div, iI_if, nI_clamp, oI_n, oI_s, not_true_eq_false, not_false_eq_true, forall_const, true_implies, false_and, and_false, or_false, false_or, Classical.not_not, true_or, or_true, no_b, no_eq1, eq_self, and_self, sk_301, sk_302, sl_302, sp_301]
          | exact rfl
          | (split <;> omega))
      · have := i7 z
        omega
theorem rs_of (hok : ev_ok sh_S G) (hT : TT B n m μc) {r : Nat} (hi : RIs G B n m r) : RSs G B n m r := by
  intro N A d bd pl s t v μ hR hN hI hA h17 hd hdr
  obtain ⟨k, t', af, vf, μ2, h1, h2, h3, h4, h5, h6, h7⟩ := rs_loop hok hT hi _ N A d bd pl s t v μ (Nat.le_refl _) hR hN hI hA h17 hd hdr
  refine ⟨k, t', af, vf, μ2, h1, LT_T hok (okM_X11_readsItems r) (Nat.le_of_ble_eq_true rfl) h2, h3, h4, h5, h6, fun z => ?_⟩
  have h8 := h7 z
  have h9 := hT.1
  have h10 : 9 ^ r * 2 * (m + 1 - A) ≤ 9 ^ r * 2 * 501 := Nat.mul_le_mul_left _ (by omega)
  omega
end RRecB
