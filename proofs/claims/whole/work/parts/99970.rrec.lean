/-! ===== the reference's parser beside the class's: repeats ===== -/
section RRecC
variable {G : ev_G} {N : Nat → Nat} {B : Nat → Nat} {n m : Nat} {μ μ' μc : ev_M}
abbrev LTr (G : ev_G) (r c F i : Nat) (M M' : ev_M) : Prop := LT G RX11 (mi_X11_readsRepeat (r + 1)) (tb_X11_readsRepeat (r + 1)) 59 ([0, 1, 2, 3].zip [.ref 301, .int (nI c), .int (nI F), .int (nI i)]) [] M (.inl (none, M'))
theorem sub_s9 {c i : Nat} (h : i < c) : c - i = (c - (i + 1)) + 1 := by omega
theorem m_go17 (hok : ev_ok sh_S G) (hR : RB B n μ) {e : Nat × Int32} {a : Nat} {v x : Int32} (h5 : e.1 < 5) : ev_T sh_S G mi_X11_goes [.ref 301] (re B n e a v (w1 μ 301 17 x)) (.inl (none, re B n e (nx e a) (nW B n e a v) (w1 μ 301 17 x))) := m_go hok (RB_w17 hR) h5
set_option maxHeartbeats 2000000 in
/-- the passes of a repeat -/
theorem rr_loop (hok : ev_ok sh_S G) (hT : TT B n m μc) {r : Nat} (hs : RSs G B n m r) {a0 c : Nat} (hc : c < 10) (ha0 : a0 ≤ m) : ∀ (y : Nat) (i : Nat) (N : Nat → Nat) (x d : Nat) (bd pl : Nat → Nat) (v : Int32) (μ : ev_M), c - i - 1 = y → i < c → RB B n μ → MR N μ → INV N → NV B n x v → μ.1 301 17 = nI (d + 1) → d + 1 + r = 2 → bd d = a0 → pl d = c - i →
    ∃ k t af vf μ2, Run B n k (N, a0, d + 1, bd, pl, 1, (0, -1)) t ∧ LTr G r c (ps B n a0) i (re B n (0, -1) x v μ) (re B n t.e af vf μ2) ∧ Fw (w1 μ 301 17 (nI d)) μ2 ∧ NV B n af vf ∧ t.e.1 < 5 ∧ (t.e.1 = 0 → OKt m d bd pl t af μ2 ∧ ∃ e c', Sh B n (It B n (Sm B n) r) a0 e c' ∧ tkd B n e = 5 ∧ t.a = e + 1 ∧ k = (c - i) * (c' + 1)) ∧ (t.e.1 ≠ 0 → k ≤ (c - i) * (9 ^ r * 2 * 500 + 1) + (9 ^ r * 2 * 501 + EI r + 1)) := by
  intro y
  induction y with
  | zero =>
    intro i N x d bd pl v μ hy hi hR hN hI hv h17 hdr hbd hpl
    have hps := ps_le B n a0
    have hd1 : d ≤ 1 := by omega
    have hR5 := hR.1
    obtain ⟨k1, t1, a1, v1, μ1, i1, i2, i3, i4, i5, i6, i7⟩ := hs N a0 (d + 1) bd pl (nI (tst B n x)) (nI (rcd (tkd B n x))) v μ hR hN hI ha0 h17 (Nat.succ_pos d) hdr
    have hR1 := RB_fw hR i3
    have h171 : μ1.1 301 17 = nI (d + 1) := (i3.1 301 17 (by omega) (by omega)).trans h17
    have hgo := m_go17 (μ := μ1) (e := t1.e) (a := a1) (v := v1) (x := nI d) hok hR1 i5
    have hdd : d + 1 - 1 = d := rfl
    have elv : ev_lv (r + 1) = r := rfl
    have hFw := Fw_w17 (x := nI d) i3
    by_cases z1 : t1.e.1 = 0
    · obtain ⟨⟨o1, o2, o3, o4, o5, o6, o7, o8⟩, o9, o10⟩ := i6 z1
      obtain ⟨Q1, a9, d9, bd1, pl1, due9, e9⟩ := t1
      have o1 : d9 = d + 1 := o1
      have o2 : due9 = 0 := o2
      have o3 : e9 = (0, -1) := o3
      have o4 : a1 = a9 := o4
      subst o1
      subst o2
      subst o3
      subst o4
      have o5 : MR Q1 μ1 := o5
      have o6 : INV Q1 := o6
      have o7 : a1 ≤ m := o7
      have o8 : ∀ i, i < d + 1 → bd1 i = bd i ∧ pl1 i = pl i := o8
      have o9 : tkd B n a1 = 5 := o9
      have o10 : Sh B n (It B n (Sm B n) r) a0 a1 k1 := o10
      have i2 : ev_T sh_S G (mi_X11_readsItems r) [.ref 301] (q6 (0, -1) (nI (ps B n a0)) (nI (tst B n x)) (nI (rcd (tkd B n x))) v μ) (.inl (none, re B n (0, -1) a1 v1 μ1)) := i2
      have g1 := o8 d (Nat.lt_succ_self d)
      have hm5 := hT.1
      have hle := Sh_le (B := B) (n := n) (K := 9 ^ r * 2) (It_le (B := B) (n := n) (S := Sm B n) (fun _ _ h => Sm_lt h) r) (by have : 1 ≤ 9 ^ r := Nat.one_le_pow _ _ (by omega); omega) o10
      have hle2 : k1 ≤ 9 ^ r * 2 * 500 := Nat.le_trans hle.2 (Nat.mul_le_mul_left _ (by omega))
      have i1 : Run B n k1 (N, a0, d + 1, bd, pl, 1, (0, -1)) (Q1, a1, d + 1, bd1, pl1, 0, (0, -1)) := i1
      have hp2 : ¬ 2 ≤ pl1 d := by omega
      have a1m := tk_nxt hT o7 (by omega)
      have nn : nx (0, -1) a1 = a1 + 1 := rfl
      have hv9 := NV_nx (B := B) (n := n) (e := (0, -1)) (a := a1) i4
      have hgo : ev_T sh_S G mi_X11_goes [.ref 301] (re B n (0, -1) a1 v1 (w1 μ1 301 17 (nI d))) (.inl (none, re B n (0, -1) (nx (0, -1) a1) (nW B n (0, -1) a1 v1) (w1 μ1 301 17 (nI d)))) := hgo
      rw [nn] at hgo hv9
      generalize w9 : nW B n (0, -1) a1 v1 = v9 at hgo hv9
      have hci : c - i = 1 := by omega
      refine ⟨k1 + 1, (Q1, a1 + 1, d, bd1, pl1, 0, (0, -1)), a1 + 1, v9, w1 μ1 301 17 (nI d), Run_tr i1 ?_, ?_, hFw, hv9, (show (0 : Nat) < 5 by decide), fun _ => ⟨⟨rfl, rfl, rfl, rfl, MR_w17 o5, o6, a1m, fun j hj => o8 j (by omega)⟩, a1, k1, o10, o9, rfl, by rw [hci, Nat.one_mul]⟩, fun z => absurd rfl z⟩
      · have := Run_1 (B := B) (n := n) (s := (Q1, a1, d + 1, bd1, pl1, 0, (0, -1))) rfl (nAC_d (Nat.succ_pos d))
        rw [stp_end o9 hp2] at this
        exact this
      · refine LT_go (n := 400) (okM_X11_readsRepeat (r + 1)) ?_
        rw [at_X11_readsRepeat_59]
        repeat' (first
          | (with_reducible refine ev_rid ?_; simp (disch := first | omega | assumption) only [ev_run_c, ev_run_n, ev_fj, ev_stp, ev_lk, ev_fv, ev_as, ev_sz, ev_st1, ev_st2, ev_rm, ev_pk, ev_Jof, ev_go, lv_args, List.map_cons, List.map_nil, List.zip_cons_cons, List.zip_nil_left, List.zip_nil_right, List.nil_append, List.cons_append, ↓reduceIte, reduceCtorEq, Int.reduceToNat, Nat.reduceEqDiff, Nat.reduceAdd, Nat.reduceLT, Nat.reduceLeDiff, Nat.reduceMul, Nat.reduceSub, Value.category, false_implies, true_and, and_true, Bool.false_eq_true, Option.some.injEq, exists_eq_left', Option.toList_some, Option.toList_none, ev_km, ev_k2, ev_k3, ev_k4, ev_k5, ev_l0, ev_l1, sh_1, sh_2, sh_3, sh_4, sh_5, at_X11_readsRepeat_13, at_X11_readsRepeat_14, at_X11_readsRepeat_42, at_X11_readsRepeat_59, at_X11_readsRepeat_86, ca_X11_101, ca_X11_118, ca_X11_146, ca_X11_153, ca_X11_211, ca_X11_98, cd_X11_readsRepeat_0, cd_X11_readsRepeat_13, cd_X11_readsRepeat_14, cd_X11_readsRepeat_42, cd_X11_readsRepeat_59, cd_X11_readsRepeat_86, fl_X11_208, fl_X11_62, fl_X11_76, ev_b_9, no_0, no_1, no_lt, no_le, no_eq, no_lt0, no_ge0, no_gt0, no_le0, no_eq0, no_0eq, no_eqm, no_meq, no_m0, no_mlt, no_mge, no_mgt, no_mm, no_i01, no_i10, no_in, no_or, no_ifm, no_mul, nI_add, no_sub, pk_div, iI_if, nI_clamp, oI_n, oI_s, not_true_eq_false, not_false_eq_true, forall_const, true_implies, false_and, and_false, or_false, false_or, Classical.not_not, true_or, or_true, no_b, no_eq1, eq_self, and_self, sk_301, sk_302, sl_302, sp_301, re_10, re_17, re_w13, re_w17, w1_d, h171, hdd, elv])
          | (with_reducible refine ev_gid ?_; simp (disch := first | omega | assumption) only [ev_run_c, ev_run_n, ev_fj, ev_stp, ev_lk, ev_fv, ev_as, ev_sz, ev_st1, ev_st2, ev_rm, ev_pk, ev_Jof, ev_go, lv_args, List.map_cons, List.map_nil, List.zip_cons_cons, List.zip_nil_left, List.zip_nil_right, List.nil_append, List.cons_append, ↓reduceIte, reduceCtorEq, Int.reduceToNat, Nat.reduceEqDiff, Nat.reduceAdd, Nat.reduceLT, Nat.reduceLeDiff, Nat.reduceMul, Nat.reduceSub, Value.category, false_implies, true_and, and_true, Bool.false_eq_true, Option.some.injEq, exists_eq_left', Option.toList_some, Option.toList_none, ev_km, ev_k2, ev_k3, ev_k4, ev_k5, ev_l0, ev_l1, sh_1, sh_2, sh_3, sh_4, sh_5, at_X11_readsRepeat_13, at_X11_readsRepeat_14, at_X11_readsRepeat_42, at_X11_readsRepeat_59, at_X11_readsRepeat_86, ca_X11_101, ca_X11_118, ca_X11_146, ca_X11_153, ca_X11_211, ca_X11_98, cd_X11_readsRepeat_0, cd_X11_readsRepeat_13, cd_X11_readsRepeat_14, cd_X11_readsRepeat_42, cd_X11_readsRepeat_59, cd_X11_readsRepeat_86, fl_X11_208, fl_X11_62, fl_X11_76, ev_b_9, no_0, no_1, no_lt, no_le, no_eq, no_lt0, no_ge0, no_gt0, no_le0, no_eq0, no_0eq, no_eqm, no_meq, no_m0, no_mlt, no_mge, no_mgt, no_mm, no_i01, no_i10, no_in, no_or, no_ifm, no_mul, nI_add, no_sub, pk_div, iI_if, nI_clamp, oI_n, oI_s, not_true_eq_false, not_false_eq_true, forall_const, true_implies, false_and, and_false, or_false, false_or, Classical.not_not, true_or, or_true, no_b, no_eq1, eq_self, and_self, sk_301, sk_302, sl_302, sp_301, re_10, re_17, re_w13, re_w17, w1_d, h171, hdd, elv])
          | (with_reducible refine And.intro (fun q => ?_) (fun q => ?_) <;> (try simp (disch := first | omega | assumption) only [no_0, no_1, no_lt, no_le, no_eq, no_lt0, no_ge0, no_gt0, no_le0, no_eq0, no_0eq, no_eqm, no_meq, no_m0, no_mlt, no_mge, no_mgt, no_mm, no_i01, no_i10, no_in, no_or, no_ifm, no_mul, nI_add, no_sub, pk_div, iI_if, nI_clamp, oI_n, oI_s, not_true_eq_false, not_false_eq_true, forall_const, true_implies, false_and, and_false, or_false, false_or, Classical.not_not, true_or, or_true, no_b, no_eq1, eq_self, and_self, sk_301, sk_302, sl_302, sp_301, re_10, re_17, re_w13, re_w17, w1_d, h171, hdd, elv] at q))
          | (with_reducible refine ev_ci i2 ?_)
          | (with_reducible refine ev_ci hgo ?_)
          | with_reducible refine ev_ci (m_limits1 hok ?_) ?_
          | with_reducible refine ev_ci (m_limits0 hok ?_) ?_
          | with_reducible refine ev_ci (m_go hok (by first | with_reducible assumption | exact RB_mw (by with_reducible assumption)) ?_) ?_
          | with_reducible refine ev_ci (m_readNumber hok (by with_reducible assumption) ?_ (by with_reducible assumption) ?_ ?_) ?_
          | with_reducible refine ev_ci (m_is hok ?_ ?_) ?_
          | with_reducible refine ev_ci (m_faults hok ?_ _) ?_
          | omega
          | with_reducible assumption
          | with_reducible rfl
          | with_reducible refine lp_nx ?_ ?_ ?_ ?_
          | with_reducible refine lp_st ?_ ?_ ?_
          | with_reducible refine ls_c ?_ ?_
          | with_reducible refine vi_c ?_
          | with_reducible refine re_c ?_
          | with_reducible refine vz_c ?_
          | with_reducible refine rz_c ?_
          | exact trivial
          | with_reducible refine And.intro ?_ ?_
          | simp (disch := first | omega | assumption) only [ev_run_c, ev_run_n, ev_fj, ev_stp, ev_lk, ev_fv, ev_as, ev_sz, ev_st1, ev_st2, ev_rm, ev_pk, ev_Jof, ev_go, lv_args, List.map_cons, List.map_nil, List.zip_cons_cons, List.zip_nil_left, List.zip_nil_right, List.nil_append, List.cons_append, ↓reduceIte, reduceCtorEq, Int.reduceToNat, Nat.reduceEqDiff, Nat.reduceAdd, Nat.reduceLT, Nat.reduceLeDiff, Nat.reduceMul, Nat.reduceSub, Value.category, false_implies, true_and, and_true, Bool.false_eq_true, Option.some.injEq, exists_eq_left', Option.toList_some, Option.toList_none, ev_km, ev_k2, ev_k3, ev_k4, ev_k5, ev_l0, ev_l1, sh_1, sh_2, sh_3, sh_4, sh_5, at_X11_readsRepeat_13, at_X11_readsRepeat_14, at_X11_readsRepeat_42, at_X11_readsRepeat_59, at_X11_readsRepeat_86, ca_X11_101, ca_X11_118, ca_X11_146, ca_X11_153, ca_X11_211, ca_X11_98, cd_X11_readsRepeat_0, cd_X11_readsRepeat_13, cd_X11_readsRepeat_14, cd_X11_readsRepeat_42, cd_X11_readsRepeat_59, cd_X11_readsRepeat_86, fl_X11_208, fl_X11_62, fl_X11_76, ev_b_9, no_0, no_1, no_lt, no_le, no_eq, no_lt0, no_ge0, no_gt0, no_le0, no_eq0, no_0eq, no_eqm, no_meq, no_m0, no_mlt, no_mge, no_mgt, no_mm, no_i01, no_i10, no_in, no_or, no_ifm, no_mul, nI_add, no_sub, pk_div, iI_if, nI_clamp, oI_n, oI_s, not_true_eq_false, not_false_eq_true, forall_const, true_implies, false_and, and_false, or_false, false_or, Classical.not_not, true_or, or_true, no_b, no_eq1, eq_self, and_self, sk_301, sk_302, sl_302, sp_301, re_10, re_17, re_w13, re_w17, w1_d, h171, hdd, elv]
          | exact rfl
          | (split <;> omega))
    · have y1 : (t1.e.1 = 0) = False := eq_false z1
      rw [nx_n z1, nW_n z1] at hgo
      refine ⟨k1, t1, a1, v1, w1 μ1 301 17 (nI d), i1, ?_, hFw, i4, i5, fun z => absurd z z1, fun z => ?_⟩
      · refine LT_go (n := 400) (okM_X11_readsRepeat (r + 1)) ?_
        rw [at_X11_readsRepeat_59]
        repeat' (first
          | (with_reducible refine ev_rid ?_; simp (disch := first | omega | assumption) only [ev_run_c, ev_run_n, ev_fj, ev_stp, ev_lk, ev_fv, ev_as, ev_sz, ev_st1, ev_st2, ev_rm, ev_pk, ev_Jof, ev_go, lv_args, List.map_cons, List.map_nil, List.zip_cons_cons, List.zip_nil_left, List.zip_nil_right, List.nil_append, List.cons_append, ↓reduceIte, reduceCtorEq, Int.reduceToNat, Nat.reduceEqDiff, Nat.reduceAdd, Nat.reduceLT, Nat.reduceLeDiff, Nat.reduceMul, Nat.reduceSub, Value.category, false_implies, true_and, and_true, Bool.false_eq_true, Option.some.injEq, exists_eq_left', Option.toList_some, Option.toList_none, ev_km, ev_k2, ev_k3, ev_k4, ev_k5, ev_l0, ev_l1, sh_1, sh_2, sh_3, sh_4, sh_5, at_X11_readsRepeat_13, at_X11_readsRepeat_14, at_X11_readsRepeat_42, at_X11_readsRepeat_59, at_X11_readsRepeat_86, ca_X11_101, ca_X11_118, ca_X11_146, ca_X11_153, ca_X11_211, ca_X11_98, cd_X11_readsRepeat_0, cd_X11_readsRepeat_13, cd_X11_readsRepeat_14, cd_X11_readsRepeat_42, cd_X11_readsRepeat_59, cd_X11_readsRepeat_86, fl_X11_208, fl_X11_62, fl_X11_76, ev_b_9, no_0, no_1, no_lt, no_le, no_eq, no_lt0, no_ge0, no_gt0, no_le0, no_eq0, no_0eq, no_eqm, no_meq, no_m0, no_mlt, no_mge, no_mgt, no_mm, no_i01, no_i10, no_in, no_or, no_ifm, no_mul, nI_add, no_sub, pk_div, iI_if, nI_clamp, oI_n, oI_s, not_true_eq_false, not_false_eq_true, forall_const, true_implies, false_and, and_false, or_false, false_or, Classical.not_not, true_or, or_true, no_b, no_eq1, eq_self, and_self, sk_301, sk_302, sl_302, sp_301, re_10, re_17, re_w13, re_w17, w1_d, h171, hdd, elv, y1])
          | (with_reducible refine ev_gid ?_; simp (disch := first | omega | assumption) only [ev_run_c, ev_run_n, ev_fj, ev_stp, ev_lk, ev_fv, ev_as, ev_sz, ev_st1, ev_st2, ev_rm, ev_pk, ev_Jof, ev_go, lv_args, List.map_cons, List.map_nil, List.zip_cons_cons, List.zip_nil_left, List.zip_nil_right, List.nil_append, List.cons_append, ↓reduceIte, reduceCtorEq, Int.reduceToNat, Nat.reduceEqDiff, Nat.reduceAdd, Nat.reduceLT, Nat.reduceLeDiff, Nat.reduceMul, Nat.reduceSub, Value.category, false_implies, true_and, and_true, Bool.false_eq_true, Option.some.injEq, exists_eq_left', Option.toList_some, Option.toList_none, ev_km, ev_k2, ev_k3, ev_k4, ev_k5, ev_l0, ev_l1, sh_1, sh_2, sh_3, sh_4, sh_5, at_X11_readsRepeat_13, at_X11_readsRepeat_14, at_X11_readsRepeat_42, at_X11_readsRepeat_59, at_X11_readsRepeat_86, ca_X11_101, ca_X11_118, ca_X11_146, ca_X11_153, ca_X11_211, ca_X11_98, cd_X11_readsRepeat_0, cd_X11_readsRepeat_13, cd_X11_readsRepeat_14, cd_X11_readsRepeat_42, cd_X11_readsRepeat_59, cd_X11_readsRepeat_86, fl_X11_208, fl_X11_62, fl_X11_76, ev_b_9, no_0, no_1, no_lt, no_le, no_eq, no_lt0, no_ge0, no_gt0, no_le0, no_eq0, no_0eq, no_eqm, no_meq, no_m0, no_mlt, no_mge, no_mgt, no_mm, no_i01, no_i10, no_in, no_or, no_ifm, no_mul, nI_add, no_sub, pk_div, iI_if, nI_clamp, oI_n, oI_s, not_true_eq_false, not_false_eq_true, forall_const, true_implies, false_and, and_false, or_false, false_or, Classical.not_not, true_or, or_true, no_b, no_eq1, eq_self, and_self, sk_301, sk_302, sl_302, sp_301, re_10, re_17, re_w13, re_w17, w1_d, h171, hdd, elv, y1])
          | (with_reducible refine And.intro (fun q => ?_) (fun q => ?_) <;> (try simp (disch := first | omega | assumption) only [no_0, no_1, no_lt, no_le, no_eq, no_lt0, no_ge0, no_gt0, no_le0, no_eq0, no_0eq, no_eqm, no_meq, no_m0, no_mlt, no_mge, no_mgt, no_mm, no_i01, no_i10, no_in, no_or, no_ifm, no_mul, nI_add, no_sub, pk_div, iI_if, nI_clamp, oI_n, oI_s, not_true_eq_false, not_false_eq_true, forall_const, true_implies, false_and, and_false, or_false, false_or, Classical.not_not, true_or, or_true, no_b, no_eq1, eq_self, and_self, sk_301, sk_302, sl_302, sp_301, re_10, re_17, re_w13, re_w17, w1_d, h171, hdd, elv, y1] at q))
          | (with_reducible refine ev_ci i2 ?_)
          | (with_reducible refine ev_ci hgo ?_)
          | with_reducible refine ev_ci (m_limits1 hok ?_) ?_
          | with_reducible refine ev_ci (m_limits0 hok ?_) ?_
          | with_reducible refine ev_ci (m_go hok (by first | with_reducible assumption | exact RB_mw (by with_reducible assumption)) ?_) ?_
          | with_reducible refine ev_ci (m_readNumber hok (by with_reducible assumption) ?_ (by with_reducible assumption) ?_ ?_) ?_
          | with_reducible refine ev_ci (m_is hok ?_ ?_) ?_
          | with_reducible refine ev_ci (m_faults hok ?_ _) ?_
          | omega
          | with_reducible assumption
          | with_reducible rfl
          | with_reducible refine lp_nx ?_ ?_ ?_ ?_
          | with_reducible refine lp_st ?_ ?_ ?_
          | with_reducible refine ls_c ?_ ?_
          | with_reducible refine vi_c ?_
          | with_reducible refine re_c ?_
          | with_reducible refine vz_c ?_
          | with_reducible refine rz_c ?_
          | exact trivial
          | with_reducible refine And.intro ?_ ?_
          | simp (disch := first | omega | assumption) only [ev_run_c, ev_run_n, ev_fj, ev_stp, ev_lk, ev_fv, ev_as, ev_sz, ev_st1, ev_st2, ev_rm, ev_pk, ev_Jof, ev_go, lv_args, List.map_cons, List.map_nil, List.zip_cons_cons, List.zip_nil_left, List.zip_nil_right, List.nil_append, List.cons_append, ↓reduceIte, reduceCtorEq, Int.reduceToNat, Nat.reduceEqDiff, Nat.reduceAdd, Nat.reduceLT, Nat.reduceLeDiff, Nat.reduceMul, Nat.reduceSub, Value.category, false_implies, true_and, and_true, Bool.false_eq_true, Option.some.injEq, exists_eq_left', Option.toList_some, Option.toList_none, ev_km, ev_k2, ev_k3, ev_k4, ev_k5, ev_l0, ev_l1, sh_1, sh_2, sh_3, sh_4, sh_5, at_X11_readsRepeat_13, at_X11_readsRepeat_14, at_X11_readsRepeat_42, at_X11_readsRepeat_59, at_X11_readsRepeat_86, ca_X11_101, ca_X11_118, ca_X11_146, ca_X11_153, ca_X11_211, ca_X11_98, cd_X11_readsRepeat_0, cd_X11_readsRepeat_13, cd_X11_readsRepeat_14, cd_X11_readsRepeat_42, cd_X11_readsRepeat_59, cd_X11_readsRepeat_86, fl_X11_208, fl_X11_62, fl_X11_76, ev_b_9, no_0, no_1, no_lt, no_le, no_eq, no_lt0, no_ge0, no_gt0, no_le0, no_eq0, no_0eq, no_eqm, no_meq, no_m0, no_mlt, no_mge, no_mgt, no_mm, no_i01, no_i10, no_in, no_or, no_ifm, no_mul, nI_add, no_sub, pk_div, iI_if, nI_clamp, oI_n, oI_s, not_true_eq_false, not_false_eq_true, forall_const, true_implies, false_and, and_false, or_false, false_or, Classical.not_not, true_or, or_true, no_b, no_eq1, eq_self, and_self, sk_301, sk_302, sl_302, sp_301, re_10, re_17, re_w13, re_w17, w1_d, h171, hdd, elv, y1]
          | exact rfl
          | (split <;> omega))
      · have h7 := i7 z
        exact Nat.le_trans h7 (Nat.le_add_left _ _)
  | succ y ih =>
    intro i N x d bd pl v μ hy hi hR hN hI hv h17 hdr hbd hpl
    have hps := ps_le B n a0
    have hd1 : d ≤ 1 := by omega
    have hR5 := hR.1
    obtain ⟨k1, t1, a1, v1, μ1, i1, i2, i3, i4, i5, i6, i7⟩ := hs N a0 (d + 1) bd pl (nI (tst B n x)) (nI (rcd (tkd B n x))) v μ hR hN hI ha0 h17 (Nat.succ_pos d) hdr
    have hR1 := RB_fw hR i3
    have h171 : μ1.1 301 17 = nI (d + 1) := (i3.1 301 17 (by omega) (by omega)).trans h17
    have hgo := m_go17 (μ := μ1) (e := t1.e) (a := a1) (v := v1) (x := nI d) hok hR1 i5
    have hdd : d + 1 - 1 = d := rfl
    have elv : ev_lv (r + 1) = r := rfl
    have hFw := Fw_w17 (x := nI d) i3
    by_cases z1 : t1.e.1 = 0
    · obtain ⟨⟨o1, o2, o3, o4, o5, o6, o7, o8⟩, o9, o10⟩ := i6 z1
      obtain ⟨Q1, a9, d9, bd1, pl1, due9, e9⟩ := t1
      have o1 : d9 = d + 1 := o1
      have o2 : due9 = 0 := o2
      have o3 : e9 = (0, -1) := o3
      have o4 : a1 = a9 := o4
      subst o1
      subst o2
      subst o3
      subst o4
      have o5 : MR Q1 μ1 := o5
      have o6 : INV Q1 := o6
      have o7 : a1 ≤ m := o7
      have o8 : ∀ i, i < d + 1 → bd1 i = bd i ∧ pl1 i = pl i := o8
      have o9 : tkd B n a1 = 5 := o9
      have o10 : Sh B n (It B n (Sm B n) r) a0 a1 k1 := o10
      have i2 : ev_T sh_S G (mi_X11_readsItems r) [.ref 301] (q6 (0, -1) (nI (ps B n a0)) (nI (tst B n x)) (nI (rcd (tkd B n x))) v μ) (.inl (none, re B n (0, -1) a1 v1 μ1)) := i2
      have g1 := o8 d (Nat.lt_succ_self d)
      have hm5 := hT.1
      have hle := Sh_le (B := B) (n := n) (K := 9 ^ r * 2) (It_le (B := B) (n := n) (S := Sm B n) (fun _ _ h => Sm_lt h) r) (by have : 1 ≤ 9 ^ r := Nat.one_le_pow _ _ (by omega); omega) o10
      have hle2 : k1 ≤ 9 ^ r * 2 * 500 := Nat.le_trans hle.2 (Nat.mul_le_mul_left _ (by omega))
      have i1 : Run B n k1 (N, a0, d + 1, bd, pl, 1, (0, -1)) (Q1, a1, d + 1, bd1, pl1, 0, (0, -1)) := i1
      have hp2 : 2 ≤ pl1 d := by omega
      obtain ⟨k2, t2, af, vf, μ2, j1, j2, j3, j4, j5, j6, j7⟩ := ih (i + 1) Q1 a1 d bd1 (u1 pl1 d (pl1 d - 1)) v1 μ1 (by omega) (by omega) hR1 o5 o6 i4 h171 hdr (g1.1.trans hbd) (by
        have e1 : u1 pl1 d (pl1 d - 1) d = pl1 d - 1 := if_pos rfl
        rw [e1, g1.2, hpl]
        omega)
      refine ⟨k1 + (1 + k2), t2, af, vf, μ2, Run_tr i1 (Run_tr (Run_1 rfl (nAC_d (Nat.succ_pos d))) ?_), ?_, Fw_tr hFw j3, j4, j5, fun z => ?_, fun z => ?_⟩
      · rw [stp_pass o9 hp2, g1.1, hbd]; exact j1
      · refine LT_go1 (n := 400) (okM_X11_readsRepeat (r + 1)) j2 ?_
        rw [at_X11_readsRepeat_59]
        repeat' (first
          | (with_reducible refine ev_rid ?_; simp (disch := first | omega | assumption) only [ev_run_c, ev_run_n, ev_fj, ev_stp, ev_lk, ev_fv, ev_as, ev_sz, ev_st1, ev_st2, ev_rm, ev_pk, ev_Jof, ev_go, lv_args, List.map_cons, List.map_nil, List.zip_cons_cons, List.zip_nil_left, List.zip_nil_right, List.nil_append, List.cons_append, ↓reduceIte, reduceCtorEq, Int.reduceToNat, Nat.reduceEqDiff, Nat.reduceAdd, Nat.reduceLT, Nat.reduceLeDiff, Nat.reduceMul, Nat.reduceSub, Value.category, false_implies, true_and, and_true, Bool.false_eq_true, Option.some.injEq, exists_eq_left', Option.toList_some, Option.toList_none, ev_km, ev_k2, ev_k3, ev_k4, ev_k5, ev_l0, ev_l1, sh_1, sh_2, sh_3, sh_4, sh_5, at_X11_readsRepeat_13, at_X11_readsRepeat_14, at_X11_readsRepeat_42, at_X11_readsRepeat_59, at_X11_readsRepeat_86, ca_X11_101, ca_X11_118, ca_X11_146, ca_X11_153, ca_X11_211, ca_X11_98, cd_X11_readsRepeat_0, cd_X11_readsRepeat_13, cd_X11_readsRepeat_14, cd_X11_readsRepeat_42, cd_X11_readsRepeat_59, cd_X11_readsRepeat_86, fl_X11_208, fl_X11_62, fl_X11_76, ev_b_9, no_0, no_1, no_lt, no_le, no_eq, no_lt0, no_ge0, no_gt0, no_le0, no_eq0, no_0eq, no_eqm, no_meq, no_m0, no_mlt, no_mge, no_mgt, no_mm, no_i01, no_i10, no_in, no_or, no_ifm, no_mul, nI_add, no_sub, pk_div, iI_if, nI_clamp, oI_n, oI_s, not_true_eq_false, not_false_eq_true, forall_const, true_implies, false_and, and_false, or_false, false_or, Classical.not_not, true_or, or_true, no_b, no_eq1, eq_self, and_self, sk_301, sk_302, sl_302, sp_301, re_10, re_17, re_w13, re_w17, w1_d, h171, hdd, elv])
          | (with_reducible refine ev_gid ?_; simp (disch := first | omega | assumption) only [ev_run_c, ev_run_n, ev_fj, ev_stp, ev_lk, ev_fv, ev_as, ev_sz, ev_st1, ev_st2, ev_rm, ev_pk, ev_Jof, ev_go, lv_args, List.map_cons, List.map_nil, List.zip_cons_cons, List.zip_nil_left, List.zip_nil_right, List.nil_append, List.cons_append, ↓reduceIte, reduceCtorEq, Int.reduceToNat, Nat.reduceEqDiff, Nat.reduceAdd, Nat.reduceLT, Nat.reduceLeDiff, Nat.reduceMul, Nat.reduceSub, Value.category, false_implies, true_and, and_true, Bool.false_eq_true, Option.some.injEq, exists_eq_left', Option.toList_some, Option.toList_none, ev_km, ev_k2, ev_k3, ev_k4, ev_k5, ev_l0, ev_l1, sh_1, sh_2, sh_3, sh_4, sh_5, at_X11_readsRepeat_13, at_X11_readsRepeat_14, at_X11_readsRepeat_42, at_X11_readsRepeat_59, at_X11_readsRepeat_86, ca_X11_101, ca_X11_118, ca_X11_146, ca_X11_153, ca_X11_211, ca_X11_98, cd_X11_readsRepeat_0, cd_X11_readsRepeat_13, cd_X11_readsRepeat_14, cd_X11_readsRepeat_42, cd_X11_readsRepeat_59, cd_X11_readsRepeat_86, fl_X11_208, fl_X11_62, fl_X11_76, ev_b_9, no_0, no_1, no_lt, no_le, no_eq, no_lt0, no_ge0, no_gt0, no_le0, no_eq0, no_0eq, no_eqm, no_meq, no_m0, no_mlt, no_mge, no_mgt, no_mm, no_i01, no_i10, no_in, no_or, no_ifm, no_mul, nI_add, no_sub, pk_div, iI_if, nI_clamp, oI_n, oI_s, not_true_eq_false, not_false_eq_true, forall_const, true_implies, false_and, and_false, or_false, false_or, Classical.not_not, true_or, or_true, no_b, no_eq1, eq_self, and_self, sk_301, sk_302, sl_302, sp_301, re_10, re_17, re_w13, re_w17, w1_d, h171, hdd, elv])
          | (with_reducible refine And.intro (fun q => ?_) (fun q => ?_) <;> (try simp (disch := first | omega | assumption) only [no_0, no_1, no_lt, no_le, no_eq, no_lt0, no_ge0, no_gt0, no_le0, no_eq0, no_0eq, no_eqm, no_meq, no_m0, no_mlt, no_mge, no_mgt, no_mm, no_i01, no_i10, no_in, no_or, no_ifm, no_mul, nI_add, no_sub, pk_div, iI_if, nI_clamp, oI_n, oI_s, not_true_eq_false, not_false_eq_true, forall_const, true_implies, false_and, and_false, or_false, false_or, Classical.not_not, true_or, or_true, no_b, no_eq1, eq_self, and_self, sk_301, sk_302, sl_302, sp_301, re_10, re_17, re_w13, re_w17, w1_d, h171, hdd, elv] at q))
          | (with_reducible refine ev_ci i2 ?_)
          | with_reducible refine ev_ci (m_limits1 hok ?_) ?_
          | with_reducible refine ev_ci (m_limits0 hok ?_) ?_
          | with_reducible refine ev_ci (m_go hok (by first | with_reducible assumption | exact RB_mw (by with_reducible assumption)) ?_) ?_
          | with_reducible refine ev_ci (m_readNumber hok (by with_reducible assumption) ?_ (by with_reducible assumption) ?_ ?_) ?_
          | with_reducible refine ev_ci (m_is hok ?_ ?_) ?_
          | with_reducible refine ev_ci (m_faults hok ?_ _) ?_
          | omega
          | with_reducible assumption
          | with_reducible rfl
          | with_reducible refine lp_nx ?_ ?_ ?_ ?_
          | with_reducible refine lp_st ?_ ?_ ?_
          | with_reducible refine ls_c ?_ ?_
          | with_reducible refine vi_c ?_
          | with_reducible refine re_c ?_
          | with_reducible refine vz_c ?_
          | with_reducible refine rz_c ?_
          | exact trivial
          | with_reducible refine And.intro ?_ ?_
          | simp (disch := first | omega | assumption) only [ev_run_c, ev_run_n, ev_fj, ev_stp, ev_lk, ev_fv, ev_as, ev_sz, ev_st1, ev_st2, ev_rm, ev_pk, ev_Jof, ev_go, lv_args, List.map_cons, List.map_nil, List.zip_cons_cons, List.zip_nil_left, List.zip_nil_right, List.nil_append, List.cons_append, ↓reduceIte, reduceCtorEq, Int.reduceToNat, Nat.reduceEqDiff, Nat.reduceAdd, Nat.reduceLT, Nat.reduceLeDiff, Nat.reduceMul, Nat.reduceSub, Value.category, false_implies, true_and, and_true, Bool.false_eq_true, Option.some.injEq, exists_eq_left', Option.toList_some, Option.toList_none, ev_km, ev_k2, ev_k3, ev_k4, ev_k5, ev_l0, ev_l1, sh_1, sh_2, sh_3, sh_4, sh_5, at_X11_readsRepeat_13, at_X11_readsRepeat_14, at_X11_readsRepeat_42, at_X11_readsRepeat_59, at_X11_readsRepeat_86, ca_X11_101, ca_X11_118, ca_X11_146, ca_X11_153, ca_X11_211, ca_X11_98, cd_X11_readsRepeat_0, cd_X11_readsRepeat_13, cd_X11_readsRepeat_14, cd_X11_readsRepeat_42, cd_X11_readsRepeat_59, cd_X11_readsRepeat_86, fl_X11_208, fl_X11_62, fl_X11_76, ev_b_9, no_0, no_1, no_lt, no_le, no_eq, no_lt0, no_ge0, no_gt0, no_le0, no_eq0, no_0eq, no_eqm, no_meq, no_m0, no_mlt, no_mge, no_mgt, no_mm, no_i01, no_i10, no_in, no_or, no_ifm, no_mul, nI_add, no_sub, pk_div, iI_if, nI_clamp, oI_n, oI_s, not_true_eq_false, not_false_eq_true, forall_const, true_implies, false_and, and_false, or_false, false_or, Classical.not_not, true_or, or_true, no_b, no_eq1, eq_self, and_self, sk_301, sk_302, sl_302, sp_301, re_10, re_17, re_w13, re_w17, w1_d, h171, hdd, elv]
          | exact rfl
          | (split <;> omega))
      · obtain ⟨⟨p1, p2, p3, p4, p5, p6, p7, p8⟩, e, c', q1, q2, q3, q4⟩ := j6 z
        have hfn := Sh_fn (B := B) (n := n) (It_fn (B := B) (n := n) (S := Sm B n) (fun _ _ _ h h2 => Sm_fn h h2) r) o10 _ _ q1
        refine ⟨⟨p1, p2, p3, p4, p5, p6, p7, fun j hj => ?_⟩, e, c', q1, q2, q3, ?_⟩
        · have e2 : u1 pl1 d (pl1 d - 1) j = pl1 j := if_neg (by omega)
          have e3 := p8 j hj
          have e4 := o8 j (by omega)
          exact ⟨e3.1.trans e4.1, (e3.2.trans e2).trans e4.2⟩
        · have e5 : c - i = (c - (i + 1)) + 1 := sub_s9 hi
          rw [e5, Nat.succ_mul, q4, hfn.2]
          omega
      · have h7 := j7 z
        have e5 : c - i = (c - (i + 1)) + 1 := sub_s9 hi
        rw [e5, Nat.succ_mul]
        omega
    · have y1 : (t1.e.1 = 0) = False := eq_false z1
      rw [nx_n z1, nW_n z1] at hgo
      refine ⟨k1, t1, a1, v1, w1 μ1 301 17 (nI d), i1, ?_, hFw, i4, i5, fun z => absurd z z1, fun z => ?_⟩
      · refine LT_go (n := 400) (okM_X11_readsRepeat (r + 1)) ?_
        rw [at_X11_readsRepeat_59]
        repeat' (first
          | (with_reducible refine ev_rid ?_; simp (disch := first | omega | assumption) only [ev_run_c, ev_run_n, ev_fj, ev_stp, ev_lk, ev_fv, ev_as, ev_sz, ev_st1, ev_st2, ev_rm, ev_pk, ev_Jof, ev_go, lv_args, List.map_cons, List.map_nil, List.zip_cons_cons, List.zip_nil_left, List.zip_nil_right, List.nil_append, List.cons_append, ↓reduceIte, reduceCtorEq, Int.reduceToNat, Nat.reduceEqDiff, Nat.reduceAdd, Nat.reduceLT, Nat.reduceLeDiff, Nat.reduceMul, Nat.reduceSub, Value.category, false_implies, true_and, and_true, Bool.false_eq_true, Option.some.injEq, exists_eq_left', Option.toList_some, Option.toList_none, ev_km, ev_k2, ev_k3, ev_k4, ev_k5, ev_l0, ev_l1, sh_1, sh_2, sh_3, sh_4, sh_5, at_X11_readsRepeat_13, at_X11_readsRepeat_14, at_X11_readsRepeat_42, at_X11_readsRepeat_59, at_X11_readsRepeat_86, ca_X11_101, ca_X11_118, ca_X11_146, ca_X11_153, ca_X11_211, ca_X11_98, cd_X11_readsRepeat_0, cd_X11_readsRepeat_13, cd_X11_readsRepeat_14, cd_X11_readsRepeat_42, cd_X11_readsRepeat_59, cd_X11_readsRepeat_86, fl_X11_208, fl_X11_62, fl_X11_76, ev_b_9, no_0, no_1, no_lt, no_le, no_eq, no_lt0, no_ge0, no_gt0, no_le0, no_eq0, no_0eq, no_eqm, no_meq, no_m0, no_mlt, no_mge, no_mgt, no_mm, no_i01, no_i10, no_in, no_or, no_ifm, no_mul, nI_add, no_sub, pk_div, iI_if, nI_clamp, oI_n, oI_s, not_true_eq_false, not_false_eq_true, forall_const, true_implies, false_and, and_false, or_false, false_or, Classical.not_not, true_or, or_true, no_b, no_eq1, eq_self, and_self, sk_301, sk_302, sl_302, sp_301, re_10, re_17, re_w13, re_w17, w1_d, h171, hdd, elv, y1])
          | (with_reducible refine ev_gid ?_; simp (disch := first | omega | assumption) only [ev_run_c, ev_run_n, ev_fj, ev_stp, ev_lk, ev_fv, ev_as, ev_sz, ev_st1, ev_st2, ev_rm, ev_pk, ev_Jof, ev_go, lv_args, List.map_cons, List.map_nil, List.zip_cons_cons, List.zip_nil_left, List.zip_nil_right, List.nil_append, List.cons_append, ↓reduceIte, reduceCtorEq, Int.reduceToNat, Nat.reduceEqDiff, Nat.reduceAdd, Nat.reduceLT, Nat.reduceLeDiff, Nat.reduceMul, Nat.reduceSub, Value.category, false_implies, true_and, and_true, Bool.false_eq_true, Option.some.injEq, exists_eq_left', Option.toList_some, Option.toList_none, ev_km, ev_k2, ev_k3, ev_k4, ev_k5, ev_l0, ev_l1, sh_1, sh_2, sh_3, sh_4, sh_5, at_X11_readsRepeat_13, at_X11_readsRepeat_14, at_X11_readsRepeat_42, at_X11_readsRepeat_59, at_X11_readsRepeat_86, ca_X11_101, ca_X11_118, ca_X11_146, ca_X11_153, ca_X11_211, ca_X11_98, cd_X11_readsRepeat_0, cd_X11_readsRepeat_13, cd_X11_readsRepeat_14, cd_X11_readsRepeat_42, cd_X11_readsRepeat_59, cd_X11_readsRepeat_86, fl_X11_208, fl_X11_62, fl_X11_76, ev_b_9, no_0, no_1, no_lt, no_le, no_eq, no_lt0, no_ge0, no_gt0, no_le0, no_eq0, no_0eq, no_eqm, no_meq, no_m0, no_mlt, no_mge, no_mgt, no_mm, no_i01, no_i10, no_in, no_or, no_ifm, no_mul, nI_add, no_sub, pk_div, iI_if, nI_clamp, oI_n, oI_s, not_true_eq_false, not_false_eq_true, forall_const, true_implies, false_and, and_false, or_false, false_or, Classical.not_not, true_or, or_true, no_b, no_eq1, eq_self, and_self, sk_301, sk_302, sl_302, sp_301, re_10, re_17, re_w13, re_w17, w1_d, h171, hdd, elv, y1])
          | (with_reducible refine And.intro (fun q => ?_) (fun q => ?_) <;> (try simp (disch := first | omega | assumption) only [no_0, no_1, no_lt, no_le, no_eq, no_lt0, no_ge0, no_gt0, no_le0, no_eq0, no_0eq, no_eqm, no_meq, no_m0, no_mlt, no_mge, no_mgt, no_mm, no_i01, no_i10, no_in, no_or, no_ifm, no_mul, nI_add, no_sub, pk_div, iI_if, nI_clamp, oI_n, oI_s, not_true_eq_false, not_false_eq_true, forall_const, true_implies, false_and, and_false, or_false, false_or, Classical.not_not, true_or, or_true, no_b, no_eq1, eq_self, and_self, sk_301, sk_302, sl_302, sp_301, re_10, re_17, re_w13, re_w17, w1_d, h171, hdd, elv, y1] at q))
          | (with_reducible refine ev_ci i2 ?_)
          | (with_reducible refine ev_ci hgo ?_)
          | with_reducible refine ev_ci (m_limits1 hok ?_) ?_
          | with_reducible refine ev_ci (m_limits0 hok ?_) ?_
          | with_reducible refine ev_ci (m_go hok (by first | with_reducible assumption | exact RB_mw (by with_reducible assumption)) ?_) ?_
          | with_reducible refine ev_ci (m_readNumber hok (by with_reducible assumption) ?_ (by with_reducible assumption) ?_ ?_) ?_
          | with_reducible refine ev_ci (m_is hok ?_ ?_) ?_
          | with_reducible refine ev_ci (m_faults hok ?_ _) ?_
          | omega
          | with_reducible assumption
          | with_reducible rfl
          | with_reducible refine lp_nx ?_ ?_ ?_ ?_
          | with_reducible refine lp_st ?_ ?_ ?_
          | with_reducible refine ls_c ?_ ?_
          | with_reducible refine vi_c ?_
          | with_reducible refine re_c ?_
          | with_reducible refine vz_c ?_
          | with_reducible refine rz_c ?_
          | exact trivial
          | with_reducible refine And.intro ?_ ?_
          | simp (disch := first | omega | assumption) only [ev_run_c, ev_run_n, ev_fj, ev_stp, ev_lk, ev_fv, ev_as, ev_sz, ev_st1, ev_st2, ev_rm, ev_pk, ev_Jof, ev_go, lv_args, List.map_cons, List.map_nil, List.zip_cons_cons, List.zip_nil_left, List.zip_nil_right, List.nil_append, List.cons_append, ↓reduceIte, reduceCtorEq, Int.reduceToNat, Nat.reduceEqDiff, Nat.reduceAdd, Nat.reduceLT, Nat.reduceLeDiff, Nat.reduceMul, Nat.reduceSub, Value.category, false_implies, true_and, and_true, Bool.false_eq_true, Option.some.injEq, exists_eq_left', Option.toList_some, Option.toList_none, ev_km, ev_k2, ev_k3, ev_k4, ev_k5, ev_l0, ev_l1, sh_1, sh_2, sh_3, sh_4, sh_5, at_X11_readsRepeat_13, at_X11_readsRepeat_14, at_X11_readsRepeat_42, at_X11_readsRepeat_59, at_X11_readsRepeat_86, ca_X11_101, ca_X11_118, ca_X11_146, ca_X11_153, ca_X11_211, ca_X11_98, cd_X11_readsRepeat_0, cd_X11_readsRepeat_13, cd_X11_readsRepeat_14, cd_X11_readsRepeat_42, cd_X11_readsRepeat_59, cd_X11_readsRepeat_86, fl_X11_208, fl_X11_62, fl_X11_76, ev_b_9, no_0, no_1, no_lt, no_le, no_eq, no_lt0, no_ge0, no_gt0, no_le0, no_eq0, no_0eq, no_eqm, no_meq, no_m0, no_mlt, no_mge, no_mgt, no_mm, no_i01, no_i10, no_in, no_or, no_ifm, no_mul, nI_add, no_sub, pk_div, iI_if, nI_clamp, oI_n, oI_s, not_true_eq_false, not_false_eq_true, forall_const, true_implies, false_and, and_false, or_false, false_or, Classical.not_not, true_or, or_true, no_b, no_eq1, eq_self, and_self, sk_301, sk_302, sl_302, sp_301, re_10, re_17, re_w13, re_w17, w1_d, h171, hdd, elv, y1]
          | exact rfl
          | (split <;> omega))
      · have h7 := i7 z
        exact Nat.le_trans h7 (Nat.le_add_left _ _)
set_option maxHeartbeats 2000000 in
/-- a repeat -/
theorem rr_of (hok : ev_ok sh_S G) (hT : TT B n m μc) {r : Nat} (hs : RSs G B n m r) : RRs G B n m (r + 1) := by
  intro N a d bd pl v μ hR hN hI hv ha h17 hdr h18 ho
  have hd1 : d ≤ 1 := by omega
  have ho' : otm N d (kwi B n a) = 0 := by rw [h18]; exact ho
  have ht1 : tkd B n a = 1 := Classical.byContradiction (fun q => by unfold kwi at h18; rw [if_neg q] at h18; cases h18)
  have ha1 : a + 1 ≤ m := tk_nxt hT ha (by omega)
  have n0 : nx (0, -1) a = a + 1 := rfl
  have hv1 := NV_nx (B := B) (n := n) (e := (0, -1)) (a := a) hv
  rw [n0] at hv1
  generalize w0 : nW B n (0, -1) a v = v1 at hv1
  obtain ⟨e1, f1⟩ : ∃ e, rN B n (0, -1) (a + 1) 1 10 = e := ⟨_, rfl⟩
  have c1 : e1.1 < 5 := by rw [← f1]; exact rN_c (by decide)
  have hq : q_repeat B n (a + 1) = er e1 (tkd B n (a + 1 + 1) ≠ 4) 1 (a + 1 + 1) B n := by rw [← f1]; rfl
  have hrun := Run_1 (B := B) (n := n) (s := (N, a, d, bd, pl, 1, (0, -1))) rfl nAC_1
  rw [stp_rep ho' h18, hq] at hrun
  have hdd : d + 1 - 1 = d := rfl
  have hR3 : ∀ x : Int32, RB B n (w1 μ 301 17 x) := fun x => RB_w17 hR
  have e3 : w1 μ 301 17 (nI d) = μ := w1_e h17
  have e4 : ∀ x : Int32, (w1 μ 301 17 x).1 301 17 = x := fun x => w1_s
  have k5 : (rcd (tkd B n (a + 1 + 1)) = 5) = (tkd B n (a + 1 + 1) = 4) := rcd_eq (tkd_le B n _) (by omega)
  have hE := EI_1 (r + 1)
  by_cases z1 : ¬ e1.1 = 0
  · have y1 : (e1.1 = 0) = False := eq_false z1
    rw [er_n z1] at hrun
    refine ⟨1, _, a + 1, v1, μ, hrun, ?_, Fw_rf, hv1, c1, fun z => absurd z z1, fun _ => hE⟩
    refine LT_T (own := RX11) (Tb := tb_X11_readsRepeat (r + 1)) hok (okM_X11_readsRepeat (r + 1)) (Nat.le_of_ble_eq_true rfl) ?_
    refine LT_run0 (n := 400) (okM_X11_readsRepeat (r + 1)) ?_
    rw [show ev_at cd_X11_readsRepeat 0 = cd_X11_readsRepeat_0 from rfl]
    repeat' (first
      | (with_reducible refine ev_rid ?_; simp (disch := first | omega | assumption) only [ev_run_c, ev_run_n, ev_fj, ev_stp, ev_lk, ev_fv, ev_as, ev_sz, ev_st1, ev_st2, ev_rm, ev_pk, ev_Jof, ev_go, lv_args, List.map_cons, List.map_nil, List.zip_cons_cons, List.zip_nil_left, List.zip_nil_right, List.nil_append, List.cons_append, ↓reduceIte, reduceCtorEq, Int.reduceToNat, Nat.reduceEqDiff, Nat.reduceAdd, Nat.reduceLT, Nat.reduceLeDiff, Nat.reduceMul, Nat.reduceSub, Value.category, false_implies, true_and, and_true, Bool.false_eq_true, Option.some.injEq, exists_eq_left', Option.toList_some, Option.toList_none, ev_km, ev_k2, ev_k3, ev_k4, ev_k5, ev_l0, ev_l1, sh_1, sh_2, sh_3, sh_4, sh_5, at_X11_readsRepeat_13, at_X11_readsRepeat_14, at_X11_readsRepeat_42, at_X11_readsRepeat_59, at_X11_readsRepeat_86, ca_X11_101, ca_X11_118, ca_X11_146, ca_X11_153, ca_X11_211, ca_X11_98, cd_X11_readsRepeat_0, cd_X11_readsRepeat_13, cd_X11_readsRepeat_14, cd_X11_readsRepeat_42, cd_X11_readsRepeat_59, cd_X11_readsRepeat_86, fl_X11_208, fl_X11_62, fl_X11_76, ev_b_9, no_0, no_1, no_lt, no_le, no_eq, no_lt0, no_ge0, no_gt0, no_le0, no_eq0, no_0eq, no_eqm, no_meq, no_m0, no_mlt, no_mge, no_mgt, no_mm, no_i01, no_i10, no_in, no_or, no_ifm, no_mul, nI_add, no_sub, pk_div, iI_if, nI_clamp, oI_n, oI_s, not_true_eq_false, not_false_eq_true, forall_const, true_implies, false_and, and_false, or_false, false_or, Classical.not_not, true_or, or_true, no_b, no_eq1, eq_self, and_self, sk_301, sk_302, sl_302, sp_301, n0, w0, re_10, re_13, re_17, re_n, h17, f1, y1, nx_n z1, nW_n z1, er_n z1, w1_d, re_w17, e3, e4, w1_w, hdd])
      | (with_reducible refine ev_gid ?_; simp (disch := first | omega | assumption) only [ev_run_c, ev_run_n, ev_fj, ev_stp, ev_lk, ev_fv, ev_as, ev_sz, ev_st1, ev_st2, ev_rm, ev_pk, ev_Jof, ev_go, lv_args, List.map_cons, List.map_nil, List.zip_cons_cons, List.zip_nil_left, List.zip_nil_right, List.nil_append, List.cons_append, ↓reduceIte, reduceCtorEq, Int.reduceToNat, Nat.reduceEqDiff, Nat.reduceAdd, Nat.reduceLT, Nat.reduceLeDiff, Nat.reduceMul, Nat.reduceSub, Value.category, false_implies, true_and, and_true, Bool.false_eq_true, Option.some.injEq, exists_eq_left', Option.toList_some, Option.toList_none, ev_km, ev_k2, ev_k3, ev_k4, ev_k5, ev_l0, ev_l1, sh_1, sh_2, sh_3, sh_4, sh_5, at_X11_readsRepeat_13, at_X11_readsRepeat_14, at_X11_readsRepeat_42, at_X11_readsRepeat_59, at_X11_readsRepeat_86, ca_X11_101, ca_X11_118, ca_X11_146, ca_X11_153, ca_X11_211, ca_X11_98, cd_X11_readsRepeat_0, cd_X11_readsRepeat_13, cd_X11_readsRepeat_14, cd_X11_readsRepeat_42, cd_X11_readsRepeat_59, cd_X11_readsRepeat_86, fl_X11_208, fl_X11_62, fl_X11_76, ev_b_9, no_0, no_1, no_lt, no_le, no_eq, no_lt0, no_ge0, no_gt0, no_le0, no_eq0, no_0eq, no_eqm, no_meq, no_m0, no_mlt, no_mge, no_mgt, no_mm, no_i01, no_i10, no_in, no_or, no_ifm, no_mul, nI_add, no_sub, pk_div, iI_if, nI_clamp, oI_n, oI_s, not_true_eq_false, not_false_eq_true, forall_const, true_implies, false_and, and_false, or_false, false_or, Classical.not_not, true_or, or_true, no_b, no_eq1, eq_self, and_self, sk_301, sk_302, sl_302, sp_301, n0, w0, re_10, re_13, re_17, re_n, h17, f1, y1, nx_n z1, nW_n z1, er_n z1, w1_d, re_w17, e3, e4, w1_w, hdd])
      | (with_reducible refine And.intro (fun q => ?_) (fun q => ?_) <;> (try simp (disch := first | omega | assumption) only [no_0, no_1, no_lt, no_le, no_eq, no_lt0, no_ge0, no_gt0, no_le0, no_eq0, no_0eq, no_eqm, no_meq, no_m0, no_mlt, no_mge, no_mgt, no_mm, no_i01, no_i10, no_in, no_or, no_ifm, no_mul, nI_add, no_sub, pk_div, iI_if, nI_clamp, oI_n, oI_s, not_true_eq_false, not_false_eq_true, forall_const, true_implies, false_and, and_false, or_false, false_or, Classical.not_not, true_or, or_true, no_b, no_eq1, eq_self, and_self, sk_301, sk_302, sl_302, sp_301, n0, w0, re_10, re_13, re_17, re_n, h17, f1, y1, nx_n z1, nW_n z1, er_n z1, w1_d, re_w17, e3, e4, w1_w, hdd] at q))
      | with_reducible refine ev_ci (m_limits1 hok ?_) ?_
      | with_reducible refine ev_ci (m_limits0 hok ?_) ?_
      | with_reducible refine ev_ci (m_go hok (by first | with_reducible assumption | exact RB_mw (by with_reducible assumption)) ?_) ?_
      | with_reducible refine ev_ci (m_readNumber hok (by with_reducible assumption) ?_ (by with_reducible assumption) ?_ ?_) ?_
      | with_reducible refine ev_ci (m_is hok ?_ ?_) ?_
      | with_reducible refine ev_ci (m_faults hok ?_ _) ?_
      | omega
      | with_reducible assumption
      | with_reducible rfl
      | with_reducible refine lp_nx ?_ ?_ ?_ ?_
      | with_reducible refine lp_st ?_ ?_ ?_
      | with_reducible refine ls_c ?_ ?_
      | with_reducible refine vi_c ?_
      | with_reducible refine re_c ?_
      | with_reducible refine vz_c ?_
      | with_reducible refine rz_c ?_
      | exact trivial
      | with_reducible refine And.intro ?_ ?_
      | simp (disch := first | omega | assumption) only [ev_run_c, ev_run_n, ev_fj, ev_stp, ev_lk, ev_fv, ev_as, ev_sz, ev_st1, ev_st2, ev_rm, ev_pk, ev_Jof, ev_go, lv_args, List.map_cons, List.map_nil, List.zip_cons_cons, List.zip_nil_left, List.zip_nil_right, List.nil_append, List.cons_append, ↓reduceIte, reduceCtorEq, Int.reduceToNat, Nat.reduceEqDiff, Nat.reduceAdd, Nat.reduceLT, Nat.reduceLeDiff, Nat.reduceMul, Nat.reduceSub, Value.category, false_implies, true_and, and_true, Bool.false_eq_true, Option.some.injEq, exists_eq_left', Option.toList_some, Option.toList_none, ev_km, ev_k2, ev_k3, ev_k4, ev_k5, ev_l0, ev_l1, sh_1, sh_2, sh_3, sh_4, sh_5, at_X11_readsRepeat_13, at_X11_readsRepeat_14, at_X11_readsRepeat_42, at_X11_readsRepeat_59, at_X11_readsRepeat_86, ca_X11_101, ca_X11_118, ca_X11_146, ca_X11_153, ca_X11_211, ca_X11_98, cd_X11_readsRepeat_0, cd_X11_readsRepeat_13, cd_X11_readsRepeat_14, cd_X11_readsRepeat_42, cd_X11_readsRepeat_59, cd_X11_readsRepeat_86, fl_X11_208, fl_X11_62, fl_X11_76, ev_b_9, no_0, no_1, no_lt, no_le, no_eq, no_lt0, no_ge0, no_gt0, no_le0, no_eq0, no_0eq, no_eqm, no_meq, no_m0, no_mlt, no_mge, no_mgt, no_mm, no_i01, no_i10, no_in, no_or, no_ifm, no_mul, nI_add, no_sub, pk_div, iI_if, nI_clamp, oI_n, oI_s, not_true_eq_false, not_false_eq_true, forall_const, true_implies, false_and, and_false, or_false, false_or, Classical.not_not, true_or, or_true, no_b, no_eq1, eq_self, and_self, sk_301, sk_302, sl_302, sp_301, n0, w0, re_10, re_13, re_17, re_n, h17, f1, y1, nx_n z1, nW_n z1, er_n z1, w1_d, re_w17, e3, e4, w1_w, hdd]
      | exact rfl
      | (split <;> omega))
  · have z1 : e1.1 = 0 := Classical.byContradiction z1
    have g1 := z1
    rw [← f1] at g1
    have s0 := rN_0 g1
    have s1 := nmc_0 s0.2.1
    have e0 : e1 = (0, -1) := by rw [← f1]; exact s0.2.2
    subst e0
    have n1 : nx (0, -1) (a + 1) = a + 1 + 1 := rfl
    have hv2 := NV_nx (B := B) (n := n) (e := (0, -1)) (a := a + 1) hv1
    rw [n1] at hv2
    generalize wA : nW B n (0, -1) (a + 1) v1 = v2 at hv2
    have a2m : a + 1 + 1 ≤ m := tk_nxt hT ha1 (by omega)
    by_cases hc : tkd B n (a + 1 + 1) ≠ 4
    · obtain ⟨e9, f9⟩ : ∃ e, er (0, -1) True 1 (a + 1 + 1) B n = e := ⟨_, rfl⟩
      have c9 : e9.1 < 5 := by rw [← f9]; exact er_c (by decide) (by decide)
      have z9 : ¬ e9.1 = 0 := by rw [← f9, er_T rfl]; exact Nat.succ_ne_zero _
      have y1 : (e9.1 = 0) = False := eq_false z9
      rw [er_True hc, f9] at hrun
      refine ⟨1, _, a + 1 + 1, v2, μ, hrun, ?_, Fw_rf, hv2, c9, fun z => absurd z z9, fun _ => hE⟩
      refine LT_T (own := RX11) (Tb := tb_X11_readsRepeat (r + 1)) hok (okM_X11_readsRepeat (r + 1)) (Nat.le_of_ble_eq_true rfl) ?_
      refine LT_run0 (n := 400) (okM_X11_readsRepeat (r + 1)) ?_
      rw [show ev_at cd_X11_readsRepeat 0 = cd_X11_readsRepeat_0 from rfl]
      repeat' (first
        | (with_reducible refine ev_rid ?_; simp (disch := first | omega | assumption) only [ev_run_c, ev_run_n, ev_fj, ev_stp, ev_lk, ev_fv, ev_as, ev_sz, ev_st1, ev_st2, ev_rm, ev_pk, ev_Jof, ev_go, lv_args, List.map_cons, List.map_nil, List.zip_cons_cons, List.zip_nil_left, List.zip_nil_right, List.nil_append, List.cons_append, ↓reduceIte, reduceCtorEq, Int.reduceToNat, Nat.reduceEqDiff, Nat.reduceAdd, Nat.reduceLT, Nat.reduceLeDiff, Nat.reduceMul, Nat.reduceSub, Value.category, false_implies, true_and, and_true, Bool.false_eq_true, Option.some.injEq, exists_eq_left', Option.toList_some, Option.toList_none, ev_km, ev_k2, ev_k3, ev_k4, ev_k5, ev_l0, ev_l1, sh_1, sh_2, sh_3, sh_4, sh_5, at_X11_readsRepeat_13, at_X11_readsRepeat_14, at_X11_readsRepeat_42, at_X11_readsRepeat_59, at_X11_readsRepeat_86, ca_X11_101, ca_X11_118, ca_X11_146, ca_X11_153, ca_X11_211, ca_X11_98, cd_X11_readsRepeat_0, cd_X11_readsRepeat_13, cd_X11_readsRepeat_14, cd_X11_readsRepeat_42, cd_X11_readsRepeat_59, cd_X11_readsRepeat_86, fl_X11_208, fl_X11_62, fl_X11_76, ev_b_9, no_0, no_1, no_lt, no_le, no_eq, no_lt0, no_ge0, no_gt0, no_le0, no_eq0, no_0eq, no_eqm, no_meq, no_m0, no_mlt, no_mge, no_mgt, no_mm, no_i01, no_i10, no_in, no_or, no_ifm, no_mul, nI_add, no_sub, pk_div, iI_if, nI_clamp, oI_n, oI_s, not_true_eq_false, not_false_eq_true, forall_const, true_implies, false_and, and_false, or_false, false_or, Classical.not_not, true_or, or_true, no_b, no_eq1, eq_self, and_self, sk_301, sk_302, sl_302, sp_301, n0, w0, re_10, re_13, re_17, re_n, h17, f1, n1, wA, k5, f9, y1, nx_n z9, nW_n z9, w1_d, re_w17, e3, e4, w1_w, hdd])
        | (with_reducible refine ev_gid ?_; simp (disch := first | omega | assumption) only [ev_run_c, ev_run_n, ev_fj, ev_stp, ev_lk, ev_fv, ev_as, ev_sz, ev_st1, ev_st2, ev_rm, ev_pk, ev_Jof, ev_go, lv_args, List.map_cons, List.map_nil, List.zip_cons_cons, List.zip_nil_left, List.zip_nil_right, List.nil_append, List.cons_append, ↓reduceIte, reduceCtorEq, Int.reduceToNat, Nat.reduceEqDiff, Nat.reduceAdd, Nat.reduceLT, Nat.reduceLeDiff, Nat.reduceMul, Nat.reduceSub, Value.category, false_implies, true_and, and_true, Bool.false_eq_true, Option.some.injEq, exists_eq_left', Option.toList_some, Option.toList_none, ev_km, ev_k2, ev_k3, ev_k4, ev_k5, ev_l0, ev_l1, sh_1, sh_2, sh_3, sh_4, sh_5, at_X11_readsRepeat_13, at_X11_readsRepeat_14, at_X11_readsRepeat_42, at_X11_readsRepeat_59, at_X11_readsRepeat_86, ca_X11_101, ca_X11_118, ca_X11_146, ca_X11_153, ca_X11_211, ca_X11_98, cd_X11_readsRepeat_0, cd_X11_readsRepeat_13, cd_X11_readsRepeat_14, cd_X11_readsRepeat_42, cd_X11_readsRepeat_59, cd_X11_readsRepeat_86, fl_X11_208, fl_X11_62, fl_X11_76, ev_b_9, no_0, no_1, no_lt, no_le, no_eq, no_lt0, no_ge0, no_gt0, no_le0, no_eq0, no_0eq, no_eqm, no_meq, no_m0, no_mlt, no_mge, no_mgt, no_mm, no_i01, no_i10, no_in, no_or, no_ifm, no_mul, nI_add, no_sub, pk_div, iI_if, nI_clamp, oI_n, oI_s, not_true_eq_false, not_false_eq_true, forall_const, true_implies, false_and, and_false, or_false, false_or, Classical.not_not, true_or, or_true, no_b, no_eq1, eq_self, and_self, sk_301, sk_302, sl_302, sp_301, n0, w0, re_10, re_13, re_17, re_n, h17, f1, n1, wA, k5, f9, y1, nx_n z9, nW_n z9, w1_d, re_w17, e3, e4, w1_w, hdd])
        | (with_reducible refine And.intro (fun q => ?_) (fun q => ?_) <;> (try simp (disch := first | omega | assumption) only [no_0, no_1, no_lt, no_le, no_eq, no_lt0, no_ge0, no_gt0, no_le0, no_eq0, no_0eq, no_eqm, no_meq, no_m0, no_mlt, no_mge, no_mgt, no_mm, no_i01, no_i10, no_in, no_or, no_ifm, no_mul, nI_add, no_sub, pk_div, iI_if, nI_clamp, oI_n, oI_s, not_true_eq_false, not_false_eq_true, forall_const, true_implies, false_and, and_false, or_false, false_or, Classical.not_not, true_or, or_true, no_b, no_eq1, eq_self, and_self, sk_301, sk_302, sl_302, sp_301, n0, w0, re_10, re_13, re_17, re_n, h17, f1, n1, wA, k5, f9, y1, nx_n z9, nW_n z9, w1_d, re_w17, e3, e4, w1_w, hdd] at q))
        | with_reducible refine ev_ci (m_limits1 hok ?_) ?_
        | with_reducible refine ev_ci (m_limits0 hok ?_) ?_
        | with_reducible refine ev_ci (m_go hok (by first | with_reducible assumption | exact RB_mw (by with_reducible assumption)) ?_) ?_
        | with_reducible refine ev_ci (m_readNumber hok (by with_reducible assumption) ?_ (by with_reducible assumption) ?_ ?_) ?_
        | with_reducible refine ev_ci (m_is hok ?_ ?_) ?_
        | with_reducible refine ev_ci (m_faults hok ?_ _) ?_
        | omega
        | with_reducible assumption
        | with_reducible rfl
        | with_reducible refine lp_nx ?_ ?_ ?_ ?_
        | with_reducible refine lp_st ?_ ?_ ?_
        | with_reducible refine ls_c ?_ ?_
        | with_reducible refine vi_c ?_
        | with_reducible refine re_c ?_
        | with_reducible refine vz_c ?_
        | with_reducible refine rz_c ?_
        | exact trivial
        | with_reducible refine And.intro ?_ ?_
        | simp (disch := first | omega | assumption) only [ev_run_c, ev_run_n, ev_fj, ev_stp, ev_lk, ev_fv, ev_as, ev_sz, ev_st1, ev_st2, ev_rm, ev_pk, ev_Jof, ev_go, lv_args, List.map_cons, List.map_nil, List.zip_cons_cons, List.zip_nil_left, List.zip_nil_right, List.nil_append, List.cons_append, ↓reduceIte, reduceCtorEq, Int.reduceToNat, Nat.reduceEqDiff, Nat.reduceAdd, Nat.reduceLT, Nat.reduceLeDiff, Nat.reduceMul, Nat.reduceSub, Value.category, false_implies, true_and, and_true, Bool.false_eq_true, Option.some.injEq, exists_eq_left', Option.toList_some, Option.toList_none, ev_km, ev_k2, ev_k3, ev_k4, ev_k5, ev_l0, ev_l1, sh_1, sh_2, sh_3, sh_4, sh_5, at_X11_readsRepeat_13, at_X11_readsRepeat_14, at_X11_readsRepeat_42, at_X11_readsRepeat_59, at_X11_readsRepeat_86, ca_X11_101, ca_X11_118, ca_X11_146, ca_X11_153, ca_X11_211, ca_X11_98, cd_X11_readsRepeat_0, cd_X11_readsRepeat_13, cd_X11_readsRepeat_14, cd_X11_readsRepeat_42, cd_X11_readsRepeat_59, cd_X11_readsRepeat_86, fl_X11_208, fl_X11_62, fl_X11_76, ev_b_9, no_0, no_1, no_lt, no_le, no_eq, no_lt0, no_ge0, no_gt0, no_le0, no_eq0, no_0eq, no_eqm, no_meq, no_m0, no_mlt, no_mge, no_mgt, no_mm, no_i01, no_i10, no_in, no_or, no_ifm, no_mul, nI_add, no_sub, pk_div, iI_if, nI_clamp, oI_n, oI_s, not_true_eq_false, not_false_eq_true, forall_const, true_implies, false_and, and_false, or_false, false_or, Classical.not_not, true_or, or_true, no_b, no_eq1, eq_self, and_self, sk_301, sk_302, sl_302, sp_301, n0, w0, re_10, re_13, re_17, re_n, h17, f1, n1, wA, k5, f9, y1, nx_n z9, nW_n z9, w1_d, re_w17, e3, e4, w1_w, hdd]
        | exact rfl
        | (split <;> omega))
    · rw [er_f hc] at hrun
      have hc4 : tkd B n (a + 1 + 1) = 4 := Classical.byContradiction hc
      have a3m : a + 1 + 1 + 1 ≤ m := tk_nxt hT a2m (by rw [hc4]; decide)
      obtain ⟨k2, t2, af, vf, μ2, j1, j2, j3, j4, j5, j6, j7⟩ := rr_loop (a0 := a + 1 + 1 + 1) (c := tvl B n (a + 1)) hok hT hs s1.2.2 a3m _ 0 N (a + 1 + 1) d (u1 bd d (a + 1 + 1 + 1)) (u1 pl d (tvl B n (a + 1))) v2 (w1 μ 301 17 (nI (d + 1))) rfl (by omega) (RB_w17 hR) (MR_w17 hN) hI hv2 w1_s (by omega) (if_pos rfl) (if_pos rfl)
      rw [w1_w, e3] at j3
      refine ⟨1 + k2, t2, af, vf, μ2, Run_tr hrun j1, ?_, j3, j4, j5, fun z => ?_, fun z => ?_⟩
      · refine LT_T (own := RX11) (Tb := tb_X11_readsRepeat (r + 1)) hok (okM_X11_readsRepeat (r + 1)) (Nat.le_of_ble_eq_true rfl) ?_
        refine LT_run1 (n := 400) (okM_X11_readsRepeat (r + 1)) j2 ?_
        rw [show ev_at cd_X11_readsRepeat 0 = cd_X11_readsRepeat_0 from rfl]
        repeat' (first
          | (with_reducible refine ev_rid ?_; simp (disch := first | omega | assumption) only [ev_run_c, ev_run_n, ev_fj, ev_stp, ev_lk, ev_fv, ev_as, ev_sz, ev_st1, ev_st2, ev_rm, ev_pk, ev_Jof, ev_go, lv_args, List.map_cons, List.map_nil, List.zip_cons_cons, List.zip_nil_left, List.zip_nil_right, List.nil_append, List.cons_append, ↓reduceIte, reduceCtorEq, Int.reduceToNat, Nat.reduceEqDiff, Nat.reduceAdd, Nat.reduceLT, Nat.reduceLeDiff, Nat.reduceMul, Nat.reduceSub, Value.category, false_implies, true_and, and_true, Bool.false_eq_true, Option.some.injEq, exists_eq_left', Option.toList_some, Option.toList_none, ev_km, ev_k2, ev_k3, ev_k4, ev_k5, ev_l0, ev_l1, sh_1, sh_2, sh_3, sh_4, sh_5, at_X11_readsRepeat_13, at_X11_readsRepeat_14, at_X11_readsRepeat_42, at_X11_readsRepeat_59, at_X11_readsRepeat_86, ca_X11_101, ca_X11_118, ca_X11_146, ca_X11_153, ca_X11_211, ca_X11_98, cd_X11_readsRepeat_0, cd_X11_readsRepeat_13, cd_X11_readsRepeat_14, cd_X11_readsRepeat_42, cd_X11_readsRepeat_59, cd_X11_readsRepeat_86, fl_X11_208, fl_X11_62, fl_X11_76, ev_b_9, no_0, no_1, no_lt, no_le, no_eq, no_lt0, no_ge0, no_gt0, no_le0, no_eq0, no_0eq, no_eqm, no_meq, no_m0, no_mlt, no_mge, no_mgt, no_mm, no_i01, no_i10, no_in, no_or, no_ifm, no_mul, nI_add, no_sub, pk_div, iI_if, nI_clamp, oI_n, oI_s, not_true_eq_false, not_false_eq_true, forall_const, true_implies, false_and, and_false, or_false, false_or, Classical.not_not, true_or, or_true, no_b, no_eq1, eq_self, and_self, sk_301, sk_302, sl_302, sp_301, n0, w0, re_10, re_13, re_17, re_n, h17, f1, n1, wA, k5, w1_d, re_w17])
          | (with_reducible refine ev_gid ?_; simp (disch := first | omega | assumption) only [ev_run_c, ev_run_n, ev_fj, ev_stp, ev_lk, ev_fv, ev_as, ev_sz, ev_st1, ev_st2, ev_rm, ev_pk, ev_Jof, ev_go, lv_args, List.map_cons, List.map_nil, List.zip_cons_cons, List.zip_nil_left, List.zip_nil_right, List.nil_append, List.cons_append, ↓reduceIte, reduceCtorEq, Int.reduceToNat, Nat.reduceEqDiff, Nat.reduceAdd, Nat.reduceLT, Nat.reduceLeDiff, Nat.reduceMul, Nat.reduceSub, Value.category, false_implies, true_and, and_true, Bool.false_eq_true, Option.some.injEq, exists_eq_left', Option.toList_some, Option.toList_none, ev_km, ev_k2, ev_k3, ev_k4, ev_k5, ev_l0, ev_l1, sh_1, sh_2, sh_3, sh_4, sh_5, at_X11_readsRepeat_13, at_X11_readsRepeat_14, at_X11_readsRepeat_42, at_X11_readsRepeat_59, at_X11_readsRepeat_86, ca_X11_101, ca_X11_118, ca_X11_146, ca_X11_153, ca_X11_211, ca_X11_98, cd_X11_readsRepeat_0, cd_X11_readsRepeat_13, cd_X11_readsRepeat_14, cd_X11_readsRepeat_42, cd_X11_readsRepeat_59, cd_X11_readsRepeat_86, fl_X11_208, fl_X11_62, fl_X11_76, ev_b_9, no_0, no_1, no_lt, no_le, no_eq, no_lt0, no_ge0, no_gt0, no_le0, no_eq0, no_0eq, no_eqm, no_meq, no_m0, no_mlt, no_mge, no_mgt, no_mm, no_i01, no_i10, no_in, no_or, no_ifm, no_mul, nI_add, no_sub, pk_div, iI_if, nI_clamp, oI_n, oI_s, not_true_eq_false, not_false_eq_true, forall_const, true_implies, false_and, and_false, or_false, false_or, Classical.not_not, true_or, or_true, no_b, no_eq1, eq_self, and_self, sk_301, sk_302, sl_302, sp_301, n0, w0, re_10, re_13, re_17, re_n, h17, f1, n1, wA, k5, w1_d, re_w17])
          | (with_reducible refine And.intro (fun q => ?_) (fun q => ?_) <;> (try simp (disch := first | omega | assumption) only [no_0, no_1, no_lt, no_le, no_eq, no_lt0, no_ge0, no_gt0, no_le0, no_eq0, no_0eq, no_eqm, no_meq, no_m0, no_mlt, no_mge, no_mgt, no_mm, no_i01, no_i10, no_in, no_or, no_ifm, no_mul, nI_add, no_sub, pk_div, iI_if, nI_clamp, oI_n, oI_s, not_true_eq_false, not_false_eq_true, forall_const, true_implies, false_and, and_false, or_false, false_or, Classical.not_not, true_or, or_true, no_b, no_eq1, eq_self, and_self, sk_301, sk_302, sl_302, sp_301, n0, w0, re_10, re_13, re_17, re_n, h17, f1, n1, wA, k5, w1_d, re_w17] at q))
          | with_reducible refine ev_ci (m_limits1 hok ?_) ?_
          | with_reducible refine ev_ci (m_limits0 hok ?_) ?_
          | with_reducible refine ev_ci (m_go hok (by first | with_reducible assumption | exact RB_mw (by with_reducible assumption)) ?_) ?_
          | with_reducible refine ev_ci (m_readNumber hok (by with_reducible assumption) ?_ (by with_reducible assumption) ?_ ?_) ?_
          | with_reducible refine ev_ci (m_is hok ?_ ?_) ?_
          | with_reducible refine ev_ci (m_faults hok ?_ _) ?_
          | omega
          | with_reducible assumption
          | with_reducible rfl
          | with_reducible refine lp_nx ?_ ?_ ?_ ?_
          | with_reducible refine lp_st ?_ ?_ ?_
          | with_reducible refine ls_c ?_ ?_
          | with_reducible refine vi_c ?_
          | with_reducible refine re_c ?_
          | with_reducible refine vz_c ?_
          | with_reducible refine rz_c ?_
          | exact trivial
          | with_reducible refine And.intro ?_ ?_
          | simp (disch := first | omega | assumption) only [ev_run_c, ev_run_n, ev_fj, ev_stp, ev_lk, ev_fv, ev_as, ev_sz, ev_st1, ev_st2, ev_rm, ev_pk, ev_Jof, ev_go, lv_args, List.map_cons, List.map_nil, List.zip_cons_cons, List.zip_nil_left, List.zip_nil_right, List.nil_append, List.cons_append, ↓reduceIte, reduceCtorEq, Int.reduceToNat, Nat.reduceEqDiff, Nat.reduceAdd, Nat.reduceLT, Nat.reduceLeDiff, Nat.reduceMul, Nat.reduceSub, Value.category, false_implies, true_and, and_true, Bool.false_eq_true, Option.some.injEq, exists_eq_left', Option.toList_some, Option.toList_none, ev_km, ev_k2, ev_k3, ev_k4, ev_k5, ev_l0, ev_l1, sh_1, sh_2, sh_3, sh_4, sh_5, at_X11_readsRepeat_13, at_X11_readsRepeat_14, at_X11_readsRepeat_42, at_X11_readsRepeat_59, at_X11_readsRepeat_86, ca_X11_101, ca_X11_118, ca_X11_146, ca_X11_153, ca_X11_211, ca_X11_98, cd_X11_readsRepeat_0, cd_X11_readsRepeat_13, cd_X11_readsRepeat_14, cd_X11_readsRepeat_42, cd_X11_readsRepeat_59, cd_X11_readsRepeat_86, fl_X11_208, fl_X11_62, fl_X11_76, ev_b_9, no_0, no_1, no_lt, no_le, no_eq, no_lt0, no_ge0, no_gt0, no_le0, no_eq0, no_0eq, no_eqm, no_meq, no_m0, no_mlt, no_mge, no_mgt, no_mm, no_i01, no_i10, no_in, no_or, no_ifm, no_mul, nI_add, no_sub, pk_div, iI_if, nI_clamp, oI_n, oI_s, not_true_eq_false, not_false_eq_true, forall_const, true_implies, false_and, and_false, or_false, false_or, Classical.not_not, true_or, or_true, no_b, no_eq1, eq_self, and_self, sk_301, sk_302, sl_302, sp_301, n0, w0, re_10, re_13, re_17, re_n, h17, f1, n1, wA, k5, w1_d, re_w17]
          | exact rfl
          | (split <;> omega))
      · obtain ⟨⟨p1, p2, p3, p4, p5, p6, p7, p8⟩, e, c', q1, q2, q3, q4⟩ := j6 z
        refine ⟨⟨p1, p2, p3, p4, p5, p6, p7, fun j hj => ?_⟩, Or.inr ⟨h18, e, c', q1, q2, s1.2.1, s1.2.2, q3, by rw [q4, Nat.sub_zero]⟩⟩
        have e5 := p8 j hj
        have e6 : u1 bd d (a + 1 + 1 + 1) j = bd j := if_neg (by omega)
        have e7 : u1 pl d (tvl B n (a + 1)) j = pl j := if_neg (by omega)
        exact ⟨e5.1.trans e6, e5.2.trans e7⟩
      · have h7 := j7 z
        have h8 : (tvl B n (a + 1) - 0) * (9 ^ r * 2 * 500 + 1) ≤ 9 * (9 ^ r * 2 * 500 + 1) := Nat.mul_le_mul_right _ (by omega)
        show 1 + k2 ≤ 1 + 9 * (9 ^ r * 2 * 500 + 1) + (9 ^ r * 2 * 501 + EI r + 1)
        omega
/-- at every depth -/
theorem ri_all (hok : ev_ok sh_S G) (hks : KS G) (hT : TT B n m μc) : ∀ r, RIs G B n m r
  | 0 => ri_of hok hks hT (fun N a d bd pl v μ _ _ _ _ _ _ hdr _ ho => by
    have h2 : otm N d 18 = 1 := by unfold otm; exact if_pos (Or.inr (Or.inr ⟨rfl, by omega⟩))
    rw [h2] at ho
    cases ho)
  | r + 1 => ri_of hok hks hT (rr_of hok hT (rs_of hok hT (ri_all hok hks hT r)))
end RRecC
