/-! ===== the reference's parser: a pancake ===== -/
section RItF
variable {G : ev_G} {N : Nat → Nat} {B : Nat → Nat} {n : Nat} {μ μ' : ev_M}
/-- the cooks so far -/
def ckN (N : Nat → Nat) (f : Nat → Nat) (c : Nat) : Nat → Nat := fun x => if 952 + 9 * N 1 + 2 ≤ x ∧ x < 952 + 9 * N 1 + 2 + c then f (x - (952 + 9 * N 1 + 2)) else N x
theorem ckN_0 {f : Nat → Nat} : ckN N f 0 = N := funext fun x => if_neg (by omega)
theorem ckN_n {f : Nat → Nat} {c x : Nat} (h : x < 952 + 9 * N 1 + 2 ∨ 952 + 9 * N 1 + 2 + c ≤ x) : ckN N f c x = N x := if_neg (by omega)
theorem ckN_y {f : Nat → Nat} {c k : Nat} (h : k < c) : ckN N f c (952 + 9 * N 1 + (2 + k)) = f k := by
  show (if 952 + 9 * N 1 + 2 ≤ 952 + 9 * N 1 + (2 + k) ∧ 952 + 9 * N 1 + (2 + k) < 952 + 9 * N 1 + 2 + c then f (952 + 9 * N 1 + (2 + k) - (952 + 9 * N 1 + 2)) else N (952 + 9 * N 1 + (2 + k))) = f k
  rw [if_pos (by omega), show 952 + 9 * N 1 + (2 + k) - (952 + 9 * N 1 + 2) = k by omega]
theorem ckN_s {f : Nat → Nat} {c : Nat} : up (ckN N f c) (952 + 9 * N 1 + (2 + c)) (f c) = ckN N f (c + 1) := by
  funext x
  show (if x = 952 + 9 * N 1 + (2 + c) then f c else if 952 + 9 * N 1 + 2 ≤ x ∧ x < 952 + 9 * N 1 + 2 + c then f (x - (952 + 9 * N 1 + 2)) else N x) = if 952 + 9 * N 1 + 2 ≤ x ∧ x < 952 + 9 * N 1 + 2 + (c + 1) then f (x - (952 + 9 * N 1 + 2)) else N x
  by_cases h : x = 952 + 9 * N 1 + (2 + c)
  · rw [if_pos h, if_pos (by omega), show x - (952 + 9 * N 1 + 2) = c by omega]
  · rw [if_neg h]
    by_cases h2 : 952 + 9 * N 1 + 2 ≤ x ∧ x < 952 + 9 * N 1 + 2 + c
    · rw [if_pos h2, if_pos (by omega)]
    · rw [if_neg h2, if_neg (by omega)]
theorem ckN_pk {f : Nat → Nat} {t k : Nat} : up (up (up (ckN N f k) (952 + 9 * N 1 + 0) t) (952 + 9 * N 1 + 1) k) 1 (N 1 + 1) = pkN N t k f := by
  funext x
  show (if x = 1 then N 1 + 1 else if x = 952 + 9 * N 1 + 1 then k else if x = 952 + 9 * N 1 + 0 then t else if 952 + 9 * N 1 + 2 ≤ x ∧ x < 952 + 9 * N 1 + 2 + k then f (x - (952 + 9 * N 1 + 2)) else N x) = if x = 1 then N 1 + 1 else if x = 952 + 9 * N 1 + 0 then t else if x = 952 + 9 * N 1 + 1 then k else if 952 + 9 * N 1 + 2 ≤ x ∧ x < 952 + 9 * N 1 + 2 + k then f (x - (952 + 9 * N 1 + 2)) else N x
  by_cases h0 : x = 1
  · rw [if_pos h0, if_pos h0]
  · rw [if_neg h0, if_neg h0]
    by_cases h1 : x = 952 + 9 * N 1 + 1
    · have h2 : ¬ x = 952 + 9 * N 1 + 0 := by omega
      rw [if_pos h1, if_neg h2, if_pos h1]
    · rw [if_neg h1]
      by_cases h2 : x = 952 + 9 * N 1 + 0
      · rw [if_pos h2, if_pos h2]
      · rw [if_neg h2, if_neg h2, if_neg h1]
abbrev LTc (G : ev_G) (q t c : Nat) (M M' : ev_M) : Prop := LT G RX11 mi_X11_readsPancake (tb_X11_readsPancake 0) 40 ([0, 1, 2, 3].zip [.ref 301, .int (nI t), .int (nI q), .int (nI c)]) [] M (.inl (none, M'))
set_option maxHeartbeats 4000000 in
theorem rl_cooks (hok : ev_ok sh_S G) (hR : RB B n μ) (hI : INV N) (h10 : N 1 < 10) {A t : Nat} {f : Nat → Nat} (hf : ∀ k, f k = pv B n N (A + k)) (ht4 : t < 10) : ∀ d c v, c + d = 4 → 0 < d → (c = 0 ∨ tkd B n (A + c) = 1) → (∀ k, k < c → f k < N 0) → NV B n (A + c) v → ∃ af vf μ2, LTc G (N 1) t c (re B n (0, -1) (A + c) v (mw μ (ckN N f c))) (re B n (pkE B n N A d c).1 af vf μ2) ∧ Fw μ μ2 ∧ NV B n af vf ∧ ((pkE B n N A d c).1.1 = 0 → af = A + (pkE B n N A d c).2 ∧ MR (pkN N t (pkE B n N A d c).2 f) μ2) := by
  have hh := iv_h hI
  have hf2 : (fun k => pv B n N (A + k)) = f := funext fun k => (hf k).symm
  intro d
  induction d with
  | zero => intro c v _ hd; exact absurd hd (by omega)
  | succ d ih =>
    intro c v hcd _ hct hlt hv
    have hE : pkE B n N A (d + 1) c = if (pkS B n N A c).1 = 0 then pkE B n N A d (c + 1) else (pkS B n N A c, c) := by
      show (if 0 < c ∧ tkd B n (A + c) ≠ 1 then ((0, -1), c) else if (pkS B n N A c).1 = 0 then pkE B n N A d (c + 1) else (pkS B n N A c, c)) = _
      rw [if_neg (fun q => hct.elim (fun h => by omega) (fun h => q.2 h))]
    have hS : pkS B n N A c = er (er (rP B n N (0, -1) (A + c)) (fx f (f c) c < c) 3 (A + c) B n) (c = 3) 4 (A + c) B n := by
      unfold pkS
      rw [hf2, ← hf c]
    rw [hE]
    have hR2 : RB B n (mw μ (ckN N f c)) := RB_mw hR
    have hph := m_personHereG (μ := mw μ (ckN N f c)) (v := v) hok hR2 (N' := ckN N f c) mw_R (fun x hx => ckN_n (by omega)) hI (show ((0, -1) : Nat × Int32).1 < 5 by decide) (a := A + c)
    obtain ⟨e1, f1⟩ : ∃ e, rP B n N (0, -1) (A + c) = e := ⟨_, rfl⟩
    have c1 : e1.1 < 5 := by rw [← f1]; exact rP_c (by decide)
    rw [f1] at hS hph
    by_cases z1 : ¬ e1.1 = 0
    · have y : (e1.1 = 0) = False := eq_false z1
      rw [hS, er_n z1, er_n z1, if_neg z1]
      refine ⟨A + c, v, mw μ (ckN N f c), ?_, Fw_mw, hv, fun q => absurd q z1⟩
      refine LT_go (n := 400) (okM_X11_readsPancake 0) ?_
      rw [at_X11_readsPancake_40]
      repeat' (first
        | (with_reducible refine ev_rid ?_; simp (disch := first | omega | assumption) only [ev_run_c, ev_run_n, ev_fj, ev_stp, ev_lk, ev_fv, ev_as, ev_sz, ev_st1, ev_st2, ev_rm, ev_pk, ev_Jof, ev_go, lv_args, List.map_cons, List.map_nil, List.zip_cons_cons, List.zip_nil_left, List.zip_nil_right, List.nil_append, List.cons_append, ↓reduceIte, reduceCtorEq, Int.reduceToNat, Nat.reduceEqDiff, Nat.reduceAdd, Nat.reduceLT, Nat.reduceLeDiff, Nat.reduceMul, Nat.reduceSub, Value.category, false_implies, true_and, and_true, Bool.false_eq_true, Option.some.injEq, exists_eq_left', Option.toList_some, Option.toList_none, ev_km, ev_k2, ev_k3, ev_k4, ev_k5, ev_l0, ev_l1, sh_1, sh_2, sh_3, sh_4, sh_5, at_X11_readsPancake_16, at_X11_readsPancake_17, at_X11_readsPancake_40, at_X11_readsPancake_69, at_X11_readsPancake_70, at_X11_readsPancake_83, at_X11_readsPancake_84, at_X11_readsPancake_95, ca_X11_101, ca_X11_118, ca_X11_133, ca_X11_137, ca_X11_146, ca_X11_153, ca_X11_156, ca_X11_159, cd_X11_readsPancake_0, cd_X11_readsPancake_16, cd_X11_readsPancake_17, cd_X11_readsPancake_40, cd_X11_readsPancake_69, cd_X11_readsPancake_70, cd_X11_readsPancake_83, cd_X11_readsPancake_84, cd_X11_readsPancake_95, fl_X11_62, fl_X11_9, ev_b_10, no_0, no_1, no_lt, no_le, no_eq, no_lt0, no_ge0, no_gt0, no_le0, no_eq0, no_0eq, no_eqm, no_meq, no_m0, no_mlt, no_mge, no_mgt, no_mm, no_i01, no_i10, no_in, no_or, no_ifm, no_mul, nI_add, no_sub, pk_div, iI_if, nI_clamp, oI_n, oI_s, not_true_eq_false, not_false_eq_true, forall_const, true_implies, false_and, and_false, or_false, false_or, Classical.not_not, true_or, or_true, no_b, no_eq1, eq_self, and_self, sk_301, sk_302, sl_302, sp_301, re_10, re_n, y, er_n z1])
        | (with_reducible refine ev_gid ?_; simp (disch := first | omega | assumption) only [ev_run_c, ev_run_n, ev_fj, ev_stp, ev_lk, ev_fv, ev_as, ev_sz, ev_st1, ev_st2, ev_rm, ev_pk, ev_Jof, ev_go, lv_args, List.map_cons, List.map_nil, List.zip_cons_cons, List.zip_nil_left, List.zip_nil_right, List.nil_append, List.cons_append, ↓reduceIte, reduceCtorEq, Int.reduceToNat, Nat.reduceEqDiff, Nat.reduceAdd, Nat.reduceLT, Nat.reduceLeDiff, Nat.reduceMul, Nat.reduceSub, Value.category, false_implies, true_and, and_true, Bool.false_eq_true, Option.some.injEq, exists_eq_left', Option.toList_some, Option.toList_none, ev_km, ev_k2, ev_k3, ev_k4, ev_k5, ev_l0, ev_l1, sh_1, sh_2, sh_3, sh_4, sh_5, at_X11_readsPancake_16, at_X11_readsPancake_17, at_X11_readsPancake_40, at_X11_readsPancake_69, at_X11_readsPancake_70, at_X11_readsPancake_83, at_X11_readsPancake_84, at_X11_readsPancake_95, ca_X11_101, ca_X11_118, ca_X11_133, ca_X11_137, ca_X11_146, ca_X11_153, ca_X11_156, ca_X11_159, cd_X11_readsPancake_0, cd_X11_readsPancake_16, cd_X11_readsPancake_17, cd_X11_readsPancake_40, cd_X11_readsPancake_69, cd_X11_readsPancake_70, cd_X11_readsPancake_83, cd_X11_readsPancake_84, cd_X11_readsPancake_95, fl_X11_62, fl_X11_9, ev_b_10, no_0, no_1, no_lt, no_le, no_eq, no_lt0, no_ge0, no_gt0, no_le0, no_eq0, no_0eq, no_eqm, no_meq, no_m0, no_mlt, no_mge, no_mgt, no_mm, no_i01, no_i10, no_in, no_or, no_ifm, no_mul, nI_add, no_sub, pk_div, iI_if, nI_clamp, oI_n, oI_s, not_true_eq_false, not_false_eq_true, forall_const, true_implies, false_and, and_false, or_false, false_or, Classical.not_not, true_or, or_true, no_b, no_eq1, eq_self, and_self, sk_301, sk_302, sl_302, sp_301, re_10, re_n, y, er_n z1])
        | (with_reducible refine And.intro (fun q => ?_) (fun q => ?_) <;> (try simp (disch := first | omega | assumption) only [no_0, no_1, no_lt, no_le, no_eq, no_lt0, no_ge0, no_gt0, no_le0, no_eq0, no_0eq, no_eqm, no_meq, no_m0, no_mlt, no_mge, no_mgt, no_mm, no_i01, no_i10, no_in, no_or, no_ifm, no_mul, nI_add, no_sub, pk_div, iI_if, nI_clamp, oI_n, oI_s, not_true_eq_false, not_false_eq_true, forall_const, true_implies, false_and, and_false, or_false, false_or, Classical.not_not, true_or, or_true, no_b, no_eq1, eq_self, and_self, sk_301, sk_302, sl_302, sp_301, re_10, re_n, y, er_n z1] at q))
        | (with_reducible refine ev_ci hph ?_)
        | with_reducible refine ev_ci (m_limits1 hok ?_) ?_
        | with_reducible refine ev_ci (m_limits0 hok ?_) ?_
        | with_reducible refine ev_ci (m_go hok (by first | with_reducible assumption | exact RB_mw (by with_reducible assumption)) ?_) ?_
        | with_reducible refine ev_ci (m_readNumber hok (by with_reducible assumption) ?_ (by with_reducible assumption) ?_ ?_) ?_
        | with_reducible refine ev_ci (m_personHere hok (by with_reducible assumption) (by with_reducible assumption) (by with_reducible assumption) ?_) ?_
        | with_reducible refine ev_ci (m_X11_cooks hok (by assumption) ?_ ?_ ?_ ?_) ?_
        | with_reducible refine ev_ci (m_refuses1 hok ?_) ?_
        | with_reducible refine ev_ci (m_refuses0 hok ?_) ?_
        | with_reducible refine ev_ci (m_X11_putsCake hok (by first | exact MR_re (by with_reducible assumption) | exact MR_re mw_R) ?_ ?_) ?_
        | with_reducible refine ev_ci (m_is hok ?_ ?_) ?_
        | omega
        | with_reducible assumption
        | with_reducible rfl
        | with_reducible refine lp_nx ?_ ?_ ?_ ?_
        | with_reducible refine lp_st ?_ ?_ ?_
        | with_reducible refine ls_c ?_ ?_
        | with_reducible refine vi_c ?_
        | with_reducible refine re_c ?_
        | with_reducible refine vz_c ?_
        | with_reducible refine rz_c ?_
        | exact trivial
        | with_reducible refine And.intro ?_ ?_
        | simp (disch := first | omega | assumption) only [ev_run_c, ev_run_n, ev_fj, ev_stp, ev_lk, ev_fv, ev_as, ev_sz, ev_st1, ev_st2, ev_rm, ev_pk, ev_Jof, ev_go, lv_args, List.map_cons, List.map_nil, List.zip_cons_cons, List.zip_nil_left, List.zip_nil_right, List.nil_append, List.cons_append, ↓reduceIte, reduceCtorEq, Int.reduceToNat, Nat.reduceEqDiff, Nat.reduceAdd, Nat.reduceLT, Nat.reduceLeDiff, Nat.reduceMul, Nat.reduceSub, Value.category, false_implies, true_and, and_true, Bool.false_eq_true, Option.some.injEq, exists_eq_left', Option.toList_some, Option.toList_none, ev_km, ev_k2, ev_k3, ev_k4, ev_k5, ev_l0, ev_l1, sh_1, sh_2, sh_3, sh_4, sh_5, at_X11_readsPancake_16, at_X11_readsPancake_17, at_X11_readsPancake_40, at_X11_readsPancake_69, at_X11_readsPancake_70, at_X11_readsPancake_83, at_X11_readsPancake_84, at_X11_readsPancake_95, ca_X11_101, ca_X11_118, ca_X11_133, ca_X11_137, ca_X11_146, ca_X11_153, ca_X11_156, ca_X11_159, cd_X11_readsPancake_0, cd_X11_readsPancake_16, cd_X11_readsPancake_17, cd_X11_readsPancake_40, cd_X11_readsPancake_69, cd_X11_readsPancake_70, cd_X11_readsPancake_83, cd_X11_readsPancake_84, cd_X11_readsPancake_95, fl_X11_62, fl_X11_9, ev_b_10, no_0, no_1, no_lt, no_le, no_eq, no_lt0, no_ge0, no_gt0, no_le0, no_eq0, no_0eq, no_eqm, no_meq, no_m0, no_mlt, no_mge, no_mgt, no_mm, no_i01, no_i10, no_in, no_or, no_ifm, no_mul, nI_add, no_sub, pk_div, iI_if, nI_clamp, oI_n, oI_s, not_true_eq_false, not_false_eq_true, forall_const, true_implies, false_and, and_false, or_false, false_or, Classical.not_not, true_or, or_true, no_b, no_eq1, eq_self, and_self, sk_301, sk_302, sl_302, sp_301, re_10, re_n, y, er_n z1]
        | exact rfl
        | (split <;> omega))
    · have z1 : e1.1 = 0 := Classical.byContradiction z1
      have g1 := z1
      rw [← f1] at g1
      have s1 := rP_0 g1
      have p1 := pz_0 g1
      rw [← hf c] at s1 p1
      rw [p1] at hph
      have hck := m_X11_cooks (μ := re B n e1 (A + c) v (mw μ (ckN N f c))) hok (MR_re (N := ckN N f c) mw_R) (i := f c) (q := N 1) (n := c) (by omega) h10 (by omega) (fun k hk => by rw [ckN_y hk]; have := hlt k hk; omega)
      have hcP : cP (ckN N f c) (N 1) (f c) c = fx f (f c) c := fx_ext (fun k hk => ckN_y hk)
      rw [hcP] at hck
      by_cases hd : fx f (f c) c < c
      · rw [if_pos hd] at hck
        obtain ⟨e9, f9⟩ : ∃ e, er e1 True 3 (A + c) B n = e := ⟨_, rfl⟩
        have c9 : e9.1 < 5 := by rw [← f9]; exact er_c c1 (by decide)
        have z9 : ¬ e9.1 = 0 := by rw [← f9, er_T z1]; exact Nat.succ_ne_zero _
        have y : (e9.1 = 0) = False := eq_false z9
        rw [hS, er_True hd, f9, er_n z9, if_neg z9]
        refine ⟨A + c, v, mw μ (ckN N f c), ?_, Fw_mw, hv, fun q => absurd q z9⟩
        refine LT_go (n := 400) (okM_X11_readsPancake 0) ?_
        rw [at_X11_readsPancake_40]
        repeat' (first
          | (with_reducible refine ev_rid ?_; simp (disch := first | omega | assumption) only [ev_run_c, ev_run_n, ev_fj, ev_stp, ev_lk, ev_fv, ev_as, ev_sz, ev_st1, ev_st2, ev_rm, ev_pk, ev_Jof, ev_go, lv_args, List.map_cons, List.map_nil, List.zip_cons_cons, List.zip_nil_left, List.zip_nil_right, List.nil_append, List.cons_append, ↓reduceIte, reduceCtorEq, Int.reduceToNat, Nat.reduceEqDiff, Nat.reduceAdd, Nat.reduceLT, Nat.reduceLeDiff, Nat.reduceMul, Nat.reduceSub, Value.category, false_implies, true_and, and_true, Bool.false_eq_true, Option.some.injEq, exists_eq_left', Option.toList_some, Option.toList_none, ev_km, ev_k2, ev_k3, ev_k4, ev_k5, ev_l0, ev_l1, sh_1, sh_2, sh_3, sh_4, sh_5, at_X11_readsPancake_16, at_X11_readsPancake_17, at_X11_readsPancake_40, at_X11_readsPancake_69, at_X11_readsPancake_70, at_X11_readsPancake_83, at_X11_readsPancake_84, at_X11_readsPancake_95, ca_X11_101, ca_X11_118, ca_X11_133, ca_X11_137, ca_X11_146, ca_X11_153, ca_X11_156, ca_X11_159, cd_X11_readsPancake_0, cd_X11_readsPancake_16, cd_X11_readsPancake_17, cd_X11_readsPancake_40, cd_X11_readsPancake_69, cd_X11_readsPancake_70, cd_X11_readsPancake_83, cd_X11_readsPancake_84, cd_X11_readsPancake_95, fl_X11_62, fl_X11_9, ev_b_10, no_0, no_1, no_lt, no_le, no_eq, no_lt0, no_ge0, no_gt0, no_le0, no_eq0, no_0eq, no_eqm, no_meq, no_m0, no_mlt, no_mge, no_mgt, no_mm, no_i01, no_i10, no_in, no_or, no_ifm, no_mul, nI_add, no_sub, pk_div, iI_if, nI_clamp, oI_n, oI_s, not_true_eq_false, not_false_eq_true, forall_const, true_implies, false_and, and_false, or_false, false_or, Classical.not_not, true_or, or_true, no_b, no_eq1, eq_self, and_self, sk_301, sk_302, sl_302, sp_301, re_10, re_n, z1, f9, y, er_n z9])
          | (with_reducible refine ev_gid ?_; simp (disch := first | omega | assumption) only [ev_run_c, ev_run_n, ev_fj, ev_stp, ev_lk, ev_fv, ev_as, ev_sz, ev_st1, ev_st2, ev_rm, ev_pk, ev_Jof, ev_go, lv_args, List.map_cons, List.map_nil, List.zip_cons_cons, List.zip_nil_left, List.zip_nil_right, List.nil_append, List.cons_append, ↓reduceIte, reduceCtorEq, Int.reduceToNat, Nat.reduceEqDiff, Nat.reduceAdd, Nat.reduceLT, Nat.reduceLeDiff, Nat.reduceMul, Nat.reduceSub, Value.category, false_implies, true_and, and_true, Bool.false_eq_true, Option.some.injEq, exists_eq_left', Option.toList_some, Option.toList_none, ev_km, ev_k2, ev_k3, ev_k4, ev_k5, ev_l0, ev_l1, sh_1, sh_2, sh_3, sh_4, sh_5, at_X11_readsPancake_16, at_X11_readsPancake_17, at_X11_readsPancake_40, at_X11_readsPancake_69, at_X11_readsPancake_70, at_X11_readsPancake_83, at_X11_readsPancake_84, at_X11_readsPancake_95, ca_X11_101, ca_X11_118, ca_X11_133, ca_X11_137, ca_X11_146, ca_X11_153, ca_X11_156, ca_X11_159, cd_X11_readsPancake_0, cd_X11_readsPancake_16, cd_X11_readsPancake_17, cd_X11_readsPancake_40, cd_X11_readsPancake_69, cd_X11_readsPancake_70, cd_X11_readsPancake_83, cd_X11_readsPancake_84, cd_X11_readsPancake_95, fl_X11_62, fl_X11_9, ev_b_10, no_0, no_1, no_lt, no_le, no_eq, no_lt0, no_ge0, no_gt0, no_le0, no_eq0, no_0eq, no_eqm, no_meq, no_m0, no_mlt, no_mge, no_mgt, no_mm, no_i01, no_i10, no_in, no_or, no_ifm, no_mul, nI_add, no_sub, pk_div, iI_if, nI_clamp, oI_n, oI_s, not_true_eq_false, not_false_eq_true, forall_const, true_implies, false_and, and_false, or_false, false_or, Classical.not_not, true_or, or_true, no_b, no_eq1, eq_self, and_self, sk_301, sk_302, sl_302, sp_301, re_10, re_n, z1, f9, y, er_n z9])
          | (with_reducible refine And.intro (fun q => ?_) (fun q => ?_) <;> (try simp (disch := first | omega | assumption) only [no_0, no_1, no_lt, no_le, no_eq, no_lt0, no_ge0, no_gt0, no_le0, no_eq0, no_0eq, no_eqm, no_meq, no_m0, no_mlt, no_mge, no_mgt, no_mm, no_i01, no_i10, no_in, no_or, no_ifm, no_mul, nI_add, no_sub, pk_div, iI_if, nI_clamp, oI_n, oI_s, not_true_eq_false, not_false_eq_true, forall_const, true_implies, false_and, and_false, or_false, false_or, Classical.not_not, true_or, or_true, no_b, no_eq1, eq_self, and_self, sk_301, sk_302, sl_302, sp_301, re_10, re_n, z1, f9, y, er_n z9] at q))
          | (with_reducible refine ev_ci hph ?_)
          | (with_reducible refine ev_ci hck ?_)
          | with_reducible refine ev_ci (m_limits1 hok ?_) ?_
          | with_reducible refine ev_ci (m_limits0 hok ?_) ?_
          | with_reducible refine ev_ci (m_go hok (by first | with_reducible assumption | exact RB_mw (by with_reducible assumption)) ?_) ?_
          | with_reducible refine ev_ci (m_readNumber hok (by with_reducible assumption) ?_ (by with_reducible assumption) ?_ ?_) ?_
          | with_reducible refine ev_ci (m_personHere hok (by with_reducible assumption) (by with_reducible assumption) (by with_reducible assumption) ?_) ?_
          | with_reducible refine ev_ci (m_X11_cooks hok (by assumption) ?_ ?_ ?_ ?_) ?_
          | with_reducible refine ev_ci (m_refuses1 hok ?_) ?_
          | with_reducible refine ev_ci (m_refuses0 hok ?_) ?_
          | with_reducible refine ev_ci (m_X11_putsCake hok (by first | exact MR_re (by with_reducible assumption) | exact MR_re mw_R) ?_ ?_) ?_
          | with_reducible refine ev_ci (m_is hok ?_ ?_) ?_
          | omega
          | with_reducible assumption
          | with_reducible rfl
          | with_reducible refine lp_nx ?_ ?_ ?_ ?_
          | with_reducible refine lp_st ?_ ?_ ?_
          | with_reducible refine ls_c ?_ ?_
          | with_reducible refine vi_c ?_
          | with_reducible refine re_c ?_
          | with_reducible refine vz_c ?_
          | with_reducible refine rz_c ?_
          | exact trivial
          | with_reducible refine And.intro ?_ ?_
          | simp (disch := first | omega | assumption) only [ev_run_c, ev_run_n, ev_fj, ev_stp, ev_lk, ev_fv, ev_as, ev_sz, ev_st1, ev_st2, ev_rm, ev_pk, ev_Jof, ev_go, lv_args, List.map_cons, List.map_nil, List.zip_cons_cons, List.zip_nil_left, List.zip_nil_right, List.nil_append, List.cons_append, ↓reduceIte, reduceCtorEq, Int.reduceToNat, Nat.reduceEqDiff, Nat.reduceAdd, Nat.reduceLT, Nat.reduceLeDiff, Nat.reduceMul, Nat.reduceSub, Value.category, false_implies, true_and, and_true, Bool.false_eq_true, Option.some.injEq, exists_eq_left', Option.toList_some, Option.toList_none, ev_km, ev_k2, ev_k3, ev_k4, ev_k5, ev_l0, ev_l1, sh_1, sh_2, sh_3, sh_4, sh_5, at_X11_readsPancake_16, at_X11_readsPancake_17, at_X11_readsPancake_40, at_X11_readsPancake_69, at_X11_readsPancake_70, at_X11_readsPancake_83, at_X11_readsPancake_84, at_X11_readsPancake_95, ca_X11_101, ca_X11_118, ca_X11_133, ca_X11_137, ca_X11_146, ca_X11_153, ca_X11_156, ca_X11_159, cd_X11_readsPancake_0, cd_X11_readsPancake_16, cd_X11_readsPancake_17, cd_X11_readsPancake_40, cd_X11_readsPancake_69, cd_X11_readsPancake_70, cd_X11_readsPancake_83, cd_X11_readsPancake_84, cd_X11_readsPancake_95, fl_X11_62, fl_X11_9, ev_b_10, no_0, no_1, no_lt, no_le, no_eq, no_lt0, no_ge0, no_gt0, no_le0, no_eq0, no_0eq, no_eqm, no_meq, no_m0, no_mlt, no_mge, no_mgt, no_mm, no_i01, no_i10, no_in, no_or, no_ifm, no_mul, nI_add, no_sub, pk_div, iI_if, nI_clamp, oI_n, oI_s, not_true_eq_false, not_false_eq_true, forall_const, true_implies, false_and, and_false, or_false, false_or, Classical.not_not, true_or, or_true, no_b, no_eq1, eq_self, and_self, sk_301, sk_302, sl_302, sp_301, re_10, re_n, z1, f9, y, er_n z9]
          | exact rfl
          | (split <;> omega))
      · rw [if_neg hd] at hck
        by_cases h3 : c = 3
        · obtain ⟨e9, f9⟩ : ∃ e, er e1 True 4 (A + c) B n = e := ⟨_, rfl⟩
          have c9 : e9.1 < 5 := by rw [← f9]; exact er_c c1 (by decide)
          have z9 : ¬ e9.1 = 0 := by rw [← f9, er_T z1]; exact Nat.succ_ne_zero _
          have y : (e9.1 = 0) = False := eq_false z9
          rw [hS, er_f hd, er_True h3, f9, if_neg z9]
          refine ⟨A + c, v, mw μ (ckN N f c), ?_, Fw_mw, hv, fun q => absurd q z9⟩
          refine LT_go (n := 400) (okM_X11_readsPancake 0) ?_
          rw [at_X11_readsPancake_40]
          repeat' (first
            | (with_reducible refine ev_rid ?_; simp (disch := first | omega | assumption) only [ev_run_c, ev_run_n, ev_fj, ev_stp, ev_lk, ev_fv, ev_as, ev_sz, ev_st1, ev_st2, ev_rm, ev_pk, ev_Jof, ev_go, lv_args, List.map_cons, List.map_nil, List.zip_cons_cons, List.zip_nil_left, List.zip_nil_right, List.nil_append, List.cons_append, ↓reduceIte, reduceCtorEq, Int.reduceToNat, Nat.reduceEqDiff, Nat.reduceAdd, Nat.reduceLT, Nat.reduceLeDiff, Nat.reduceMul, Nat.reduceSub, Value.category, false_implies, true_and, and_true, Bool.false_eq_true, Option.some.injEq, exists_eq_left', Option.toList_some, Option.toList_none, ev_km, ev_k2, ev_k3, ev_k4, ev_k5, ev_l0, ev_l1, sh_1, sh_2, sh_3, sh_4, sh_5, at_X11_readsPancake_16, at_X11_readsPancake_17, at_X11_readsPancake_40, at_X11_readsPancake_69, at_X11_readsPancake_70, at_X11_readsPancake_83, at_X11_readsPancake_84, at_X11_readsPancake_95, ca_X11_101, ca_X11_118, ca_X11_133, ca_X11_137, ca_X11_146, ca_X11_153, ca_X11_156, ca_X11_159, cd_X11_readsPancake_0, cd_X11_readsPancake_16, cd_X11_readsPancake_17, cd_X11_readsPancake_40, cd_X11_readsPancake_69, cd_X11_readsPancake_70, cd_X11_readsPancake_83, cd_X11_readsPancake_84, cd_X11_readsPancake_95, fl_X11_62, fl_X11_9, ev_b_10, no_0, no_1, no_lt, no_le, no_eq, no_lt0, no_ge0, no_gt0, no_le0, no_eq0, no_0eq, no_eqm, no_meq, no_m0, no_mlt, no_mge, no_mgt, no_mm, no_i01, no_i10, no_in, no_or, no_ifm, no_mul, nI_add, no_sub, pk_div, iI_if, nI_clamp, oI_n, oI_s, not_true_eq_false, not_false_eq_true, forall_const, true_implies, false_and, and_false, or_false, false_or, Classical.not_not, true_or, or_true, no_b, no_eq1, eq_self, and_self, sk_301, sk_302, sl_302, sp_301, re_10, re_n, z1, f9, y, er_n z9])
            | (with_reducible refine ev_gid ?_; simp (disch := first | omega | assumption) only [ev_run_c, ev_run_n, ev_fj, ev_stp, ev_lk, ev_fv, ev_as, ev_sz, ev_st1, ev_st2, ev_rm, ev_pk, ev_Jof, ev_go, lv_args, List.map_cons, List.map_nil, List.zip_cons_cons, List.zip_nil_left, List.zip_nil_right, List.nil_append, List.cons_append, ↓reduceIte, reduceCtorEq, Int.reduceToNat, Nat.reduceEqDiff, Nat.reduceAdd, Nat.reduceLT, Nat.reduceLeDiff, Nat.reduceMul, Nat.reduceSub, Value.category, false_implies, true_and, and_true, Bool.false_eq_true, Option.some.injEq, exists_eq_left', Option.toList_some, Option.toList_none, ev_km, ev_k2, ev_k3, ev_k4, ev_k5, ev_l0, ev_l1, sh_1, sh_2, sh_3, sh_4, sh_5, at_X11_readsPancake_16, at_X11_readsPancake_17, at_X11_readsPancake_40, at_X11_readsPancake_69, at_X11_readsPancake_70, at_X11_readsPancake_83, at_X11_readsPancake_84, at_X11_readsPancake_95, ca_X11_101, ca_X11_118, ca_X11_133, ca_X11_137, ca_X11_146, ca_X11_153, ca_X11_156, ca_X11_159, cd_X11_readsPancake_0, cd_X11_readsPancake_16, cd_X11_readsPancake_17, cd_X11_readsPancake_40, cd_X11_readsPancake_69, cd_X11_readsPancake_70, cd_X11_readsPancake_83, cd_X11_readsPancake_84, cd_X11_readsPancake_95, fl_X11_62, fl_X11_9, ev_b_10, no_0, no_1, no_lt, no_le, no_eq, no_lt0, no_ge0, no_gt0, no_le0, no_eq0, no_0eq, no_eqm, no_meq, no_m0, no_mlt, no_mge, no_mgt, no_mm, no_i01, no_i10, no_in, no_or, no_ifm, no_mul, nI_add, no_sub, pk_div, iI_if, nI_clamp, oI_n, oI_s, not_true_eq_false, not_false_eq_true, forall_const, true_implies, false_and, and_false, or_false, false_or, Classical.not_not, true_or, or_true, no_b, no_eq1, eq_self, and_self, sk_301, sk_302, sl_302, sp_301, re_10, re_n, z1, f9, y, er_n z9])
            | (with_reducible refine And.intro (fun q => ?_) (fun q => ?_) <;> (try simp (disch := first | omega | assumption) only [no_0, no_1, no_lt, no_le, no_eq, no_lt0, no_ge0, no_gt0, no_le0, no_eq0, no_0eq, no_eqm, no_meq, no_m0, no_mlt, no_mge, no_mgt, no_mm, no_i01, no_i10, no_in, no_or, no_ifm, no_mul, nI_add, no_sub, pk_div, iI_if, nI_clamp, oI_n, oI_s, not_true_eq_false, not_false_eq_true, forall_const, true_implies, false_and, and_false, or_false, false_or, Classical.not_not, true_or, or_true, no_b, no_eq1, eq_self, and_self, sk_301, sk_302, sl_302, sp_301, re_10, re_n, z1, f9, y, er_n z9] at q))
            | (with_reducible refine ev_ci hph ?_)
            | (with_reducible refine ev_ci hck ?_)
            | with_reducible refine ev_ci (m_limits1 hok ?_) ?_
            | with_reducible refine ev_ci (m_limits0 hok ?_) ?_
            | with_reducible refine ev_ci (m_go hok (by first | with_reducible assumption | exact RB_mw (by with_reducible assumption)) ?_) ?_
            | with_reducible refine ev_ci (m_readNumber hok (by with_reducible assumption) ?_ (by with_reducible assumption) ?_ ?_) ?_
            | with_reducible refine ev_ci (m_personHere hok (by with_reducible assumption) (by with_reducible assumption) (by with_reducible assumption) ?_) ?_
            | with_reducible refine ev_ci (m_X11_cooks hok (by assumption) ?_ ?_ ?_ ?_) ?_
            | with_reducible refine ev_ci (m_refuses1 hok ?_) ?_
            | with_reducible refine ev_ci (m_refuses0 hok ?_) ?_
            | with_reducible refine ev_ci (m_X11_putsCake hok (by first | exact MR_re (by with_reducible assumption) | exact MR_re mw_R) ?_ ?_) ?_
            | with_reducible refine ev_ci (m_is hok ?_ ?_) ?_
            | omega
            | with_reducible assumption
            | with_reducible rfl
            | with_reducible refine lp_nx ?_ ?_ ?_ ?_
            | with_reducible refine lp_st ?_ ?_ ?_
            | with_reducible refine ls_c ?_ ?_
            | with_reducible refine vi_c ?_
            | with_reducible refine re_c ?_
            | with_reducible refine vz_c ?_
            | with_reducible refine rz_c ?_
            | exact trivial
            | with_reducible refine And.intro ?_ ?_
            | simp (disch := first | omega | assumption) only [ev_run_c, ev_run_n, ev_fj, ev_stp, ev_lk, ev_fv, ev_as, ev_sz, ev_st1, ev_st2, ev_rm, ev_pk, ev_Jof, ev_go, lv_args, List.map_cons, List.map_nil, List.zip_cons_cons, List.zip_nil_left, List.zip_nil_right, List.nil_append, List.cons_append, ↓reduceIte, reduceCtorEq, Int.reduceToNat, Nat.reduceEqDiff, Nat.reduceAdd, Nat.reduceLT, Nat.reduceLeDiff, Nat.reduceMul, Nat.reduceSub, Value.category, false_implies, true_and, and_true, Bool.false_eq_true, Option.some.injEq, exists_eq_left', Option.toList_some, Option.toList_none, ev_km, ev_k2, ev_k3, ev_k4, ev_k5, ev_l0, ev_l1, sh_1, sh_2, sh_3, sh_4, sh_5, at_X11_readsPancake_16, at_X11_readsPancake_17, at_X11_readsPancake_40, at_X11_readsPancake_69, at_X11_readsPancake_70, at_X11_readsPancake_83, at_X11_readsPancake_84, at_X11_readsPancake_95, ca_X11_101, ca_X11_118, ca_X11_133, ca_X11_137, ca_X11_146, ca_X11_153, ca_X11_156, ca_X11_159, cd_X11_readsPancake_0, cd_X11_readsPancake_16, cd_X11_readsPancake_17, cd_X11_readsPancake_40, cd_X11_readsPancake_69, cd_X11_readsPancake_70, cd_X11_readsPancake_83, cd_X11_readsPancake_84, cd_X11_readsPancake_95, fl_X11_62, fl_X11_9, ev_b_10, no_0, no_1, no_lt, no_le, no_eq, no_lt0, no_ge0, no_gt0, no_le0, no_eq0, no_0eq, no_eqm, no_meq, no_m0, no_mlt, no_mge, no_mgt, no_mm, no_i01, no_i10, no_in, no_or, no_ifm, no_mul, nI_add, no_sub, pk_div, iI_if, nI_clamp, oI_n, oI_s, not_true_eq_false, not_false_eq_true, forall_const, true_implies, false_and, and_false, or_false, false_or, Classical.not_not, true_or, or_true, no_b, no_eq1, eq_self, and_self, sk_301, sk_302, sl_302, sp_301, re_10, re_n, z1, f9, y, er_n z9]
            | exact rfl
            | (split <;> omega))
        · rw [hS, er_f hd, er_f h3, if_pos z1]
          have e0 : e1 = (0, -1) := by rw [← f1]; exact s1.2.2.2.2
          subst e0
          have hpt := m_X11_putsCake (μ := re B n (0, -1) (A + c) v (mw μ (ckN N f c))) (v := f c) hok (MR_re (N := ckN N f c) mw_R) (i := N 1) (w := 2 + c) h10 (by omega)
          rw [ckN_s, mw_re, mw_mw] at hpt
          have hgo := m_go (μ := mw μ (ckN N f (c + 1))) (B := B) (n := n) (e := (0, -1)) (a := A + c) (v := v) hok (RB_mw hR) (by decide)
          have nn : nx (0, -1) (A + c) = A + (c + 1) := rfl
          have hv2 := NV_nx (B := B) (n := n) (e := (0, -1)) (a := A + c) hv
          rw [nn] at hgo hv2
          generalize w9 : nW B n (0, -1) (A + c) v = v2 at hgo hv2
          have his := m_is (μ := mw μ (ckN N f (c + 1))) (B := B) (n := n) (e := (0, -1)) (a := A + (c + 1)) (v := v2) hok (by decide) (j := 2) (by omega)
          have k3 : (rcd (tkd B n (A + (c + 1))) = 2) = (tkd B n (A + (c + 1)) = 1) := rcd_eq (tkd_le B n _) (by omega)
          by_cases ht : tkd B n (A + (c + 1)) = 1
          · obtain ⟨af, vf, μ2, r1, r2, r3, r4⟩ := ih (c + 1) v2 (by omega) (by omega) (Or.inr ht) (fun k hk => by
              by_cases ck : k = c
              · rw [ck]; exact s1.2.2.2.1
              · exact hlt k (by omega)) hv2
            refine ⟨af, vf, μ2, ?_, r2, r3, r4⟩
            rw [if_pos ⟨rfl, by rw [k3]; exact ht⟩] at his
            refine LT_go1 (n := 400) (okM_X11_readsPancake 0) r1 ?_
            rw [at_X11_readsPancake_40]
            repeat' (first
              | (with_reducible refine ev_rid ?_; simp (disch := first | omega | assumption) only [ev_run_c, ev_run_n, ev_fj, ev_stp, ev_lk, ev_fv, ev_as, ev_sz, ev_st1, ev_st2, ev_rm, ev_pk, ev_Jof, ev_go, lv_args, List.map_cons, List.map_nil, List.zip_cons_cons, List.zip_nil_left, List.zip_nil_right, List.nil_append, List.cons_append, ↓reduceIte, reduceCtorEq, Int.reduceToNat, Nat.reduceEqDiff, Nat.reduceAdd, Nat.reduceLT, Nat.reduceLeDiff, Nat.reduceMul, Nat.reduceSub, Value.category, false_implies, true_and, and_true, Bool.false_eq_true, Option.some.injEq, exists_eq_left', Option.toList_some, Option.toList_none, ev_km, ev_k2, ev_k3, ev_k4, ev_k5, ev_l0, ev_l1, sh_1, sh_2, sh_3, sh_4, sh_5, at_X11_readsPancake_16, at_X11_readsPancake_17, at_X11_readsPancake_40, at_X11_readsPancake_69, at_X11_readsPancake_70, at_X11_readsPancake_83, at_X11_readsPancake_84, at_X11_readsPancake_95, ca_X11_101, ca_X11_118, ca_X11_133, ca_X11_137, ca_X11_146, ca_X11_153, ca_X11_156, ca_X11_159, cd_X11_readsPancake_0, cd_X11_readsPancake_16, cd_X11_readsPancake_17, cd_X11_readsPancake_40, cd_X11_readsPancake_69, cd_X11_readsPancake_70, cd_X11_readsPancake_83, cd_X11_readsPancake_84, cd_X11_readsPancake_95, fl_X11_62, fl_X11_9, ev_b_10, no_0, no_1, no_lt, no_le, no_eq, no_lt0, no_ge0, no_gt0, no_le0, no_eq0, no_0eq, no_eqm, no_meq, no_m0, no_mlt, no_mge, no_mgt, no_mm, no_i01, no_i10, no_in, no_or, no_ifm, no_mul, nI_add, no_sub, pk_div, iI_if, nI_clamp, oI_n, oI_s, not_true_eq_false, not_false_eq_true, forall_const, true_implies, false_and, and_false, or_false, false_or, Classical.not_not, true_or, or_true, no_b, no_eq1, eq_self, and_self, sk_301, sk_302, sl_302, sp_301, re_10, re_n])
              | (with_reducible refine ev_gid ?_; simp (disch := first | omega | assumption) only [ev_run_c, ev_run_n, ev_fj, ev_stp, ev_lk, ev_fv, ev_as, ev_sz, ev_st1, ev_st2, ev_rm, ev_pk, ev_Jof, ev_go, lv_args, List.map_cons, List.map_nil, List.zip_cons_cons, List.zip_nil_left, List.zip_nil_right, List.nil_append, List.cons_append, ↓reduceIte, reduceCtorEq, Int.reduceToNat, Nat.reduceEqDiff, Nat.reduceAdd, Nat.reduceLT, Nat.reduceLeDiff, Nat.reduceMul, Nat.reduceSub, Value.category, false_implies, true_and, and_true, Bool.false_eq_true, Option.some.injEq, exists_eq_left', Option.toList_some, Option.toList_none, ev_km, ev_k2, ev_k3, ev_k4, ev_k5, ev_l0, ev_l1, sh_1, sh_2, sh_3, sh_4, sh_5, at_X11_readsPancake_16, at_X11_readsPancake_17, at_X11_readsPancake_40, at_X11_readsPancake_69, at_X11_readsPancake_70, at_X11_readsPancake_83, at_X11_readsPancake_84, at_X11_readsPancake_95, ca_X11_101, ca_X11_118, ca_X11_133, ca_X11_137, ca_X11_146, ca_X11_153, ca_X11_156, ca_X11_159, cd_X11_readsPancake_0, cd_X11_readsPancake_16, cd_X11_readsPancake_17, cd_X11_readsPancake_40, cd_X11_readsPancake_69, cd_X11_readsPancake_70, cd_X11_readsPancake_83, cd_X11_readsPancake_84, cd_X11_readsPancake_95, fl_X11_62, fl_X11_9, ev_b_10, no_0, no_1, no_lt, no_le, no_eq, no_lt0, no_ge0, no_gt0, no_le0, no_eq0, no_0eq, no_eqm, no_meq, no_m0, no_mlt, no_mge, no_mgt, no_mm, no_i01, no_i10, no_in, no_or, no_ifm, no_mul, nI_add, no_sub, pk_div, iI_if, nI_clamp, oI_n, oI_s, not_true_eq_false, not_false_eq_true, forall_const, true_implies, false_and, and_false, or_false, false_or, Classical.not_not, true_or, or_true, no_b, no_eq1, eq_self, and_self, sk_301, sk_302, sl_302, sp_301, re_10, re_n])
              | (with_reducible refine And.intro (fun q => ?_) (fun q => ?_) <;> (try simp (disch := first | omega | assumption) only [no_0, no_1, no_lt, no_le, no_eq, no_lt0, no_ge0, no_gt0, no_le0, no_eq0, no_0eq, no_eqm, no_meq, no_m0, no_mlt, no_mge, no_mgt, no_mm, no_i01, no_i10, no_in, no_or, no_ifm, no_mul, nI_add, no_sub, pk_div, iI_if, nI_clamp, oI_n, oI_s, not_true_eq_false, not_false_eq_true, forall_const, true_implies, false_and, and_false, or_false, false_or, Classical.not_not, true_or, or_true, no_b, no_eq1, eq_self, and_self, sk_301, sk_302, sl_302, sp_301, re_10, re_n] at q))
              | (with_reducible refine ev_ci hph ?_)
              | (with_reducible refine ev_ci hck ?_)
              | (with_reducible refine ev_ci hpt ?_)
              | (with_reducible refine ev_ci hgo ?_)
              | (with_reducible refine ev_ci his ?_)
              | with_reducible refine ev_ci (m_limits1 hok ?_) ?_
              | with_reducible refine ev_ci (m_limits0 hok ?_) ?_
              | with_reducible refine ev_ci (m_go hok (by first | with_reducible assumption | exact RB_mw (by with_reducible assumption)) ?_) ?_
              | with_reducible refine ev_ci (m_readNumber hok (by with_reducible assumption) ?_ (by with_reducible assumption) ?_ ?_) ?_
              | with_reducible refine ev_ci (m_personHere hok (by with_reducible assumption) (by with_reducible assumption) (by with_reducible assumption) ?_) ?_
              | with_reducible refine ev_ci (m_X11_cooks hok (by assumption) ?_ ?_ ?_ ?_) ?_
              | with_reducible refine ev_ci (m_refuses1 hok ?_) ?_
              | with_reducible refine ev_ci (m_refuses0 hok ?_) ?_
              | with_reducible refine ev_ci (m_X11_putsCake hok (by first | exact MR_re (by with_reducible assumption) | exact MR_re mw_R) ?_ ?_) ?_
              | with_reducible refine ev_ci (m_is hok ?_ ?_) ?_
              | omega
              | with_reducible assumption
              | with_reducible rfl
              | with_reducible refine lp_nx ?_ ?_ ?_ ?_
              | with_reducible refine lp_st ?_ ?_ ?_
              | with_reducible refine ls_c ?_ ?_
              | with_reducible refine vi_c ?_
              | with_reducible refine re_c ?_
              | with_reducible refine vz_c ?_
              | with_reducible refine rz_c ?_
              | exact trivial
              | with_reducible refine And.intro ?_ ?_
              | simp (disch := first | omega | assumption) only [ev_run_c, ev_run_n, ev_fj, ev_stp, ev_lk, ev_fv, ev_as, ev_sz, ev_st1, ev_st2, ev_rm, ev_pk, ev_Jof, ev_go, lv_args, List.map_cons, List.map_nil, List.zip_cons_cons, List.zip_nil_left, List.zip_nil_right, List.nil_append, List.cons_append, ↓reduceIte, reduceCtorEq, Int.reduceToNat, Nat.reduceEqDiff, Nat.reduceAdd, Nat.reduceLT, Nat.reduceLeDiff, Nat.reduceMul, Nat.reduceSub, Value.category, false_implies, true_and, and_true, Bool.false_eq_true, Option.some.injEq, exists_eq_left', Option.toList_some, Option.toList_none, ev_km, ev_k2, ev_k3, ev_k4, ev_k5, ev_l0, ev_l1, sh_1, sh_2, sh_3, sh_4, sh_5, at_X11_readsPancake_16, at_X11_readsPancake_17, at_X11_readsPancake_40, at_X11_readsPancake_69, at_X11_readsPancake_70, at_X11_readsPancake_83, at_X11_readsPancake_84, at_X11_readsPancake_95, ca_X11_101, ca_X11_118, ca_X11_133, ca_X11_137, ca_X11_146, ca_X11_153, ca_X11_156, ca_X11_159, cd_X11_readsPancake_0, cd_X11_readsPancake_16, cd_X11_readsPancake_17, cd_X11_readsPancake_40, cd_X11_readsPancake_69, cd_X11_readsPancake_70, cd_X11_readsPancake_83, cd_X11_readsPancake_84, cd_X11_readsPancake_95, fl_X11_62, fl_X11_9, ev_b_10, no_0, no_1, no_lt, no_le, no_eq, no_lt0, no_ge0, no_gt0, no_le0, no_eq0, no_0eq, no_eqm, no_meq, no_m0, no_mlt, no_mge, no_mgt, no_mm, no_i01, no_i10, no_in, no_or, no_ifm, no_mul, nI_add, no_sub, pk_div, iI_if, nI_clamp, oI_n, oI_s, not_true_eq_false, not_false_eq_true, forall_const, true_implies, false_and, and_false, or_false, false_or, Classical.not_not, true_or, or_true, no_b, no_eq1, eq_self, and_self, sk_301, sk_302, sl_302, sp_301, re_10, re_n]
              | exact rfl
              | (split <;> omega))
          · rw [if_neg (fun q => ht (by rw [← k3]; exact q.2))] at his
            obtain ⟨d2, rfl⟩ : ∃ d2, d = d2 + 1 := ⟨d - 1, by omega⟩
            have hE2 : pkE B n N A (d2 + 1) (c + 1) = ((0, -1), c + 1) := if_pos ⟨Nat.succ_pos c, ht⟩
            rw [hE2]
            refine ⟨A + (c + 1), v2, mw μ (pkN N t (c + 1) f), ?_, Fw_mw, hv2, fun _ => ⟨rfl, mw_R⟩⟩
            have hp0 := m_X11_putsCake (μ := re B n (0, -1) (A + (c + 1)) v2 (mw μ (ckN N f (c + 1)))) (v := t) hok (MR_re (N := ckN N f (c + 1)) mw_R) (i := N 1) (w := 0) h10 (by omega)
            rw [mw_re, mw_mw] at hp0
            have hp1 := m_X11_putsCake (μ := re B n (0, -1) (A + (c + 1)) v2 (mw μ (up (ckN N f (c + 1)) (952 + 9 * N 1 + 0) t))) (v := c + 1) hok (MR_re (N := up (ckN N f (c + 1)) (952 + 9 * N 1 + 0) t) mw_R) (i := N 1) (w := 1) h10 (by omega)
            rw [mw_re, mw_mw] at hp1
            have e9 : (mw μ (up (up (ckN N f (c + 1)) (952 + 9 * N 1 + 0) t) (952 + 9 * N 1 + 1) (c + 1))).1 302 1 = nI (N 1) := by
              rw [mw_302 (by omega), up_ne (by omega), up_ne (by omega), ckN_n (by omega)]
            have e8 : w1 (re B n (0, -1) (A + (c + 1)) v2 (mw μ (up (up (ckN N f (c + 1)) (952 + 9 * N 1 + 0) t) (952 + 9 * N 1 + 1) (c + 1)))) 302 1 (nI (N 1 + 1)) = re B n (0, -1) (A + (c + 1)) v2 (mw μ (pkN N t (c + 1) f)) := by
              rw [re_w302 (by omega), ckN_pk]
            refine LT_go (n := 400) (okM_X11_readsPancake 0) ?_
            rw [at_X11_readsPancake_40]
            repeat' (first
              | (with_reducible refine ev_rid ?_; simp (disch := first | omega | assumption) only [ev_run_c, ev_run_n, ev_fj, ev_stp, ev_lk, ev_fv, ev_as, ev_sz, ev_st1, ev_st2, ev_rm, ev_pk, ev_Jof, ev_go, lv_args, List.map_cons, List.map_nil, List.zip_cons_cons, List.zip_nil_left, List.zip_nil_right, List.nil_append, List.cons_append, ↓reduceIte, reduceCtorEq, Int.reduceToNat, Nat.reduceEqDiff, Nat.reduceAdd, Nat.reduceLT, Nat.reduceLeDiff, Nat.reduceMul, Nat.reduceSub, Value.category, false_implies, true_and, and_true, Bool.false_eq_true, Option.some.injEq, exists_eq_left', Option.toList_some, Option.toList_none, ev_km, ev_k2, ev_k3, ev_k4, ev_k5, ev_l0, ev_l1, sh_1, sh_2, sh_3, sh_4, sh_5, at_X11_readsPancake_16, at_X11_readsPancake_17, at_X11_readsPancake_40, at_X11_readsPancake_69, at_X11_readsPancake_70, at_X11_readsPancake_83, at_X11_readsPancake_84, at_X11_readsPancake_95, ca_X11_101, ca_X11_118, ca_X11_133, ca_X11_137, ca_X11_146, ca_X11_153, ca_X11_156, ca_X11_159, cd_X11_readsPancake_0, cd_X11_readsPancake_16, cd_X11_readsPancake_17, cd_X11_readsPancake_40, cd_X11_readsPancake_69, cd_X11_readsPancake_70, cd_X11_readsPancake_83, cd_X11_readsPancake_84, cd_X11_readsPancake_95, fl_X11_62, fl_X11_9, ev_b_10, no_0, no_1, no_lt, no_le, no_eq, no_lt0, no_ge0, no_gt0, no_le0, no_eq0, no_0eq, no_eqm, no_meq, no_m0, no_mlt, no_mge, no_mgt, no_mm, no_i01, no_i10, no_in, no_or, no_ifm, no_mul, nI_add, no_sub, pk_div, iI_if, nI_clamp, oI_n, oI_s, not_true_eq_false, not_false_eq_true, forall_const, true_implies, false_and, and_false, or_false, false_or, Classical.not_not, true_or, or_true, no_b, no_eq1, eq_self, and_self, sk_301, sk_302, sl_302, sp_301, re_10, re_n, e9, e8, w1_d])
              | (with_reducible refine ev_gid ?_; simp (disch := first | omega | assumption) only [ev_run_c, ev_run_n, ev_fj, ev_stp, ev_lk, ev_fv, ev_as, ev_sz, ev_st1, ev_st2, ev_rm, ev_pk, ev_Jof, ev_go, lv_args, List.map_cons, List.map_nil, List.zip_cons_cons, List.zip_nil_left, List.zip_nil_right, List.nil_append, List.cons_append, ↓reduceIte, reduceCtorEq, Int.reduceToNat, Nat.reduceEqDiff, Nat.reduceAdd, Nat.reduceLT, Nat.reduceLeDiff, Nat.reduceMul, Nat.reduceSub, Value.category, false_implies, true_and, and_true, Bool.false_eq_true, Option.some.injEq, exists_eq_left', Option.toList_some, Option.toList_none, ev_km, ev_k2, ev_k3, ev_k4, ev_k5, ev_l0, ev_l1, sh_1, sh_2, sh_3, sh_4, sh_5, at_X11_readsPancake_16, at_X11_readsPancake_17, at_X11_readsPancake_40, at_X11_readsPancake_69, at_X11_readsPancake_70, at_X11_readsPancake_83, at_X11_readsPancake_84, at_X11_readsPancake_95, ca_X11_101, ca_X11_118, ca_X11_133, ca_X11_137, ca_X11_146, ca_X11_153, ca_X11_156, ca_X11_159, cd_X11_readsPancake_0, cd_X11_readsPancake_16, cd_X11_readsPancake_17, cd_X11_readsPancake_40, cd_X11_readsPancake_69, cd_X11_readsPancake_70, cd_X11_readsPancake_83, cd_X11_readsPancake_84, cd_X11_readsPancake_95, fl_X11_62, fl_X11_9, ev_b_10, no_0, no_1, no_lt, no_le, no_eq, no_lt0, no_ge0, no_gt0, no_le0, no_eq0, no_0eq, no_eqm, no_meq, no_m0, no_mlt, no_mge, no_mgt, no_mm, no_i01, no_i10, no_in, no_or, no_ifm, no_mul, nI_add, no_sub, pk_div, iI_if, nI_clamp, oI_n, oI_s, not_true_eq_false, not_false_eq_true, forall_const, true_implies, false_and, and_false, or_false, false_or, Classical.not_not, true_or, or_true, no_b, no_eq1, eq_self, and_self, sk_301, sk_302, sl_302, sp_301, re_10, re_n, e9, e8, w1_d])
              | (with_reducible refine And.intro (fun q => ?_) (fun q => ?_) <;> (try simp (disch := first | omega | assumption) only [no_0, no_1, no_lt, no_le, no_eq, no_lt0, no_ge0, no_gt0, no_le0, no_eq0, no_0eq, no_eqm, no_meq, no_m0, no_mlt, no_mge, no_mgt, no_mm, no_i01, no_i10, no_in, no_or, no_ifm, no_mul, nI_add, no_sub, pk_div, iI_if, nI_clamp, oI_n, oI_s, not_true_eq_false, not_false_eq_true, forall_const, true_implies, false_and, and_false, or_false, false_or, Classical.not_not, true_or, or_true, no_b, no_eq1, eq_self, and_self, sk_301, sk_302, sl_302, sp_301, re_10, re_n, e9, e8, w1_d] at q))
              | (with_reducible refine ev_ci hph ?_)
              | (with_reducible refine ev_ci hck ?_)
              | (with_reducible refine ev_ci hpt ?_)
              | (with_reducible refine ev_ci hgo ?_)
              | (with_reducible refine ev_ci his ?_)
              | (with_reducible refine ev_ci hp0 ?_)
              | (with_reducible refine ev_ci hp1 ?_)
              | with_reducible refine ev_ci (m_limits1 hok ?_) ?_
              | with_reducible refine ev_ci (m_limits0 hok ?_) ?_
              | with_reducible refine ev_ci (m_go hok (by first | with_reducible assumption | exact RB_mw (by with_reducible assumption)) ?_) ?_
              | with_reducible refine ev_ci (m_readNumber hok (by with_reducible assumption) ?_ (by with_reducible assumption) ?_ ?_) ?_
              | with_reducible refine ev_ci (m_personHere hok (by with_reducible assumption) (by with_reducible assumption) (by with_reducible assumption) ?_) ?_
              | with_reducible refine ev_ci (m_X11_cooks hok (by assumption) ?_ ?_ ?_ ?_) ?_
              | with_reducible refine ev_ci (m_refuses1 hok ?_) ?_
              | with_reducible refine ev_ci (m_refuses0 hok ?_) ?_
              | with_reducible refine ev_ci (m_X11_putsCake hok (by first | exact MR_re (by with_reducible assumption) | exact MR_re mw_R) ?_ ?_) ?_
              | with_reducible refine ev_ci (m_is hok ?_ ?_) ?_
              | omega
              | with_reducible assumption
              | with_reducible rfl
              | with_reducible refine lp_nx ?_ ?_ ?_ ?_
              | with_reducible refine lp_st ?_ ?_ ?_
              | with_reducible refine ls_c ?_ ?_
              | with_reducible refine vi_c ?_
              | with_reducible refine re_c ?_
              | with_reducible refine vz_c ?_
              | with_reducible refine rz_c ?_
              | exact trivial
              | with_reducible refine And.intro ?_ ?_
              | simp (disch := first | omega | assumption) only [ev_run_c, ev_run_n, ev_fj, ev_stp, ev_lk, ev_fv, ev_as, ev_sz, ev_st1, ev_st2, ev_rm, ev_pk, ev_Jof, ev_go, lv_args, List.map_cons, List.map_nil, List.zip_cons_cons, List.zip_nil_left, List.zip_nil_right, List.nil_append, List.cons_append, ↓reduceIte, reduceCtorEq, Int.reduceToNat, Nat.reduceEqDiff, Nat.reduceAdd, Nat.reduceLT, Nat.reduceLeDiff, Nat.reduceMul, Nat.reduceSub, Value.category, false_implies, true_and, and_true, Bool.false_eq_true, Option.some.injEq, exists_eq_left', Option.toList_some, Option.toList_none, ev_km, ev_k2, ev_k3, ev_k4, ev_k5, ev_l0, ev_l1, sh_1, sh_2, sh_3, sh_4, sh_5, at_X11_readsPancake_16, at_X11_readsPancake_17, at_X11_readsPancake_40, at_X11_readsPancake_69, at_X11_readsPancake_70, at_X11_readsPancake_83, at_X11_readsPancake_84, at_X11_readsPancake_95, ca_X11_101, ca_X11_118, ca_X11_133, ca_X11_137, ca_X11_146, ca_X11_153, ca_X11_156, ca_X11_159, cd_X11_readsPancake_0, cd_X11_readsPancake_16, cd_X11_readsPancake_17, cd_X11_readsPancake_40, cd_X11_readsPancake_69, cd_X11_readsPancake_70, cd_X11_readsPancake_83, cd_X11_readsPancake_84, cd_X11_readsPancake_95, fl_X11_62, fl_X11_9, ev_b_10, no_0, no_1, no_lt, no_le, no_eq, no_lt0, no_ge0, no_gt0, no_le0, no_eq0, no_0eq, no_eqm, no_meq, no_m0, no_mlt, no_mge, no_mgt, no_mm, no_i01, no_i10, no_in, no_or, no_ifm, no_mul, nI_add, no_sub, pk_div, iI_if, nI_clamp, oI_n, oI_s, not_true_eq_false, not_false_eq_true, forall_const, true_implies, false_and, and_false, or_false, false_or, Classical.not_not, true_or, or_true, no_b, no_eq1, eq_self, and_self, sk_301, sk_302, sl_302, sp_301, re_10, re_n, e9, e8, w1_d]
              | exact rfl
              | (split <;> omega))
set_option maxHeartbeats 2000000 in
theorem rx_pancake (hok : ev_ok sh_S G) (hR : RB B n μ) (hN : MR N μ) (hI : INV N) (h10 : N 1 < 10) {a : Nat} {v : Int32} (hv : NV B n a v) : RX G B n mi_X11_readsPancake a v μ (q_pancake B n N (a + 1)) (nI9 B n N a 3) (aI9 B n N a 3) := by
  have hh := iv_h hI
  have hN1 : μ.1 302 1 = nI (N 1) := hN 1 (by omega)
  have n0 : nx (0, -1) a = a + 1 := rfl
  have hv1 := NV_nx (B := B) (n := n) (e := (0, -1)) (a := a) hv
  rw [n0] at hv1
  generalize w0 : nW B n (0, -1) a v = v1 at hv1
  obtain ⟨e1, f1⟩ : ∃ e, rN B n (0, -1) (a + 1) 0 4 = e := ⟨_, rfl⟩
  have c1 : e1.1 < 5 := by rw [← f1]; exact rN_c (by decide)
  have hq : q_pancake B n N (a + 1) = if e1.1 = 0 then (pkE B n N (a + 1 + 1) 4 0).1 else e1 := by rw [← f1]; rfl
  rw [hq]
  by_cases z1 : ¬ e1.1 = 0
  · have y : (e1.1 = 0) = False := eq_false z1
    rw [if_neg z1]
    refine ⟨a + 1, v1, μ, ?_, Fw_rf, hv1, fun q => absurd q z1⟩
    refine ev_tri hok (okM_X11_readsPancake 0) (Nat.le_of_ble_eq_true rfl) 400 ?_
    rw [at_X11_readsPancake_0]
    repeat' (first
      | (with_reducible refine ev_rid ?_; simp (disch := first | omega | assumption) only [ev_run_c, ev_run_n, ev_fj, ev_stp, ev_lk, ev_fv, ev_as, ev_sz, ev_st1, ev_st2, ev_rm, ev_pk, ev_Jof, ev_go, lv_args, List.map_cons, List.map_nil, List.zip_cons_cons, List.zip_nil_left, List.zip_nil_right, List.nil_append, List.cons_append, ↓reduceIte, reduceCtorEq, Int.reduceToNat, Nat.reduceEqDiff, Nat.reduceAdd, Nat.reduceLT, Nat.reduceLeDiff, Nat.reduceMul, Nat.reduceSub, Value.category, false_implies, true_and, and_true, Bool.false_eq_true, Option.some.injEq, exists_eq_left', Option.toList_some, Option.toList_none, ev_km, ev_k2, ev_k3, ev_k4, ev_k5, ev_l0, ev_l1, sh_1, sh_2, sh_3, sh_4, sh_5, at_X11_readsPancake_16, at_X11_readsPancake_17, at_X11_readsPancake_40, at_X11_readsPancake_69, at_X11_readsPancake_70, at_X11_readsPancake_83, at_X11_readsPancake_84, at_X11_readsPancake_95, ca_X11_101, ca_X11_118, ca_X11_133, ca_X11_137, ca_X11_146, ca_X11_153, ca_X11_156, ca_X11_159, cd_X11_readsPancake_0, cd_X11_readsPancake_16, cd_X11_readsPancake_17, cd_X11_readsPancake_40, cd_X11_readsPancake_69, cd_X11_readsPancake_70, cd_X11_readsPancake_83, cd_X11_readsPancake_84, cd_X11_readsPancake_95, fl_X11_62, fl_X11_9, ev_b_10, no_0, no_1, no_lt, no_le, no_eq, no_lt0, no_ge0, no_gt0, no_le0, no_eq0, no_0eq, no_eqm, no_meq, no_m0, no_mlt, no_mge, no_mgt, no_mm, no_i01, no_i10, no_in, no_or, no_ifm, no_mul, nI_add, no_sub, pk_div, iI_if, nI_clamp, oI_n, oI_s, not_true_eq_false, not_false_eq_true, forall_const, true_implies, false_and, and_false, or_false, false_or, Classical.not_not, true_or, or_true, no_b, no_eq1, eq_self, and_self, sk_301, sk_302, sl_302, sp_301, n0, w0, re_10, re_n, hN1, f1, y, nx_n z1, nW_n z1, rP_n z1])
      | (with_reducible refine ev_gid ?_; simp (disch := first | omega | assumption) only [ev_run_c, ev_run_n, ev_fj, ev_stp, ev_lk, ev_fv, ev_as, ev_sz, ev_st1, ev_st2, ev_rm, ev_pk, ev_Jof, ev_go, lv_args, List.map_cons, List.map_nil, List.zip_cons_cons, List.zip_nil_left, List.zip_nil_right, List.nil_append, List.cons_append, ↓reduceIte, reduceCtorEq, Int.reduceToNat, Nat.reduceEqDiff, Nat.reduceAdd, Nat.reduceLT, Nat.reduceLeDiff, Nat.reduceMul, Nat.reduceSub, Value.category, false_implies, true_and, and_true, Bool.false_eq_true, Option.some.injEq, exists_eq_left', Option.toList_some, Option.toList_none, ev_km, ev_k2, ev_k3, ev_k4, ev_k5, ev_l0, ev_l1, sh_1, sh_2, sh_3, sh_4, sh_5, at_X11_readsPancake_16, at_X11_readsPancake_17, at_X11_readsPancake_40, at_X11_readsPancake_69, at_X11_readsPancake_70, at_X11_readsPancake_83, at_X11_readsPancake_84, at_X11_readsPancake_95, ca_X11_101, ca_X11_118, ca_X11_133, ca_X11_137, ca_X11_146, ca_X11_153, ca_X11_156, ca_X11_159, cd_X11_readsPancake_0, cd_X11_readsPancake_16, cd_X11_readsPancake_17, cd_X11_readsPancake_40, cd_X11_readsPancake_69, cd_X11_readsPancake_70, cd_X11_readsPancake_83, cd_X11_readsPancake_84, cd_X11_readsPancake_95, fl_X11_62, fl_X11_9, ev_b_10, no_0, no_1, no_lt, no_le, no_eq, no_lt0, no_ge0, no_gt0, no_le0, no_eq0, no_0eq, no_eqm, no_meq, no_m0, no_mlt, no_mge, no_mgt, no_mm, no_i01, no_i10, no_in, no_or, no_ifm, no_mul, nI_add, no_sub, pk_div, iI_if, nI_clamp, oI_n, oI_s, not_true_eq_false, not_false_eq_true, forall_const, true_implies, false_and, and_false, or_false, false_or, Classical.not_not, true_or, or_true, no_b, no_eq1, eq_self, and_self, sk_301, sk_302, sl_302, sp_301, n0, w0, re_10, re_n, hN1, f1, y, nx_n z1, nW_n z1, rP_n z1])
      | (with_reducible refine And.intro (fun q => ?_) (fun q => ?_) <;> (try simp (disch := first | omega | assumption) only [no_0, no_1, no_lt, no_le, no_eq, no_lt0, no_ge0, no_gt0, no_le0, no_eq0, no_0eq, no_eqm, no_meq, no_m0, no_mlt, no_mge, no_mgt, no_mm, no_i01, no_i10, no_in, no_or, no_ifm, no_mul, nI_add, no_sub, pk_div, iI_if, nI_clamp, oI_n, oI_s, not_true_eq_false, not_false_eq_true, forall_const, true_implies, false_and, and_false, or_false, false_or, Classical.not_not, true_or, or_true, no_b, no_eq1, eq_self, and_self, sk_301, sk_302, sl_302, sp_301, n0, w0, re_10, re_n, hN1, f1, y, nx_n z1, nW_n z1, rP_n z1] at q))
      | with_reducible refine ev_ci (m_limits1 hok ?_) ?_
      | with_reducible refine ev_ci (m_limits0 hok ?_) ?_
      | with_reducible refine ev_ci (m_go hok (by first | with_reducible assumption | exact RB_mw (by with_reducible assumption)) ?_) ?_
      | with_reducible refine ev_ci (m_readNumber hok (by with_reducible assumption) ?_ (by with_reducible assumption) ?_ ?_) ?_
      | with_reducible refine ev_ci (m_personHere hok (by with_reducible assumption) (by with_reducible assumption) (by with_reducible assumption) ?_) ?_
      | with_reducible refine ev_ci (m_X11_cooks hok (by assumption) ?_ ?_ ?_ ?_) ?_
      | with_reducible refine ev_ci (m_refuses1 hok ?_) ?_
      | with_reducible refine ev_ci (m_refuses0 hok ?_) ?_
      | with_reducible refine ev_ci (m_X11_putsCake hok (by first | exact MR_re (by with_reducible assumption) | exact MR_re mw_R) ?_ ?_) ?_
      | with_reducible refine ev_ci (m_is hok ?_ ?_) ?_
      | omega
      | with_reducible assumption
      | with_reducible rfl
      | with_reducible refine lp_nx ?_ ?_ ?_ ?_
      | with_reducible refine lp_st ?_ ?_ ?_
      | with_reducible refine ls_c ?_ ?_
      | with_reducible refine vi_c ?_
      | with_reducible refine re_c ?_
      | with_reducible refine vz_c ?_
      | with_reducible refine rz_c ?_
      | exact trivial
      | with_reducible refine And.intro ?_ ?_
      | simp (disch := first | omega | assumption) only [ev_run_c, ev_run_n, ev_fj, ev_stp, ev_lk, ev_fv, ev_as, ev_sz, ev_st1, ev_st2, ev_rm, ev_pk, ev_Jof, ev_go, lv_args, List.map_cons, List.map_nil, List.zip_cons_cons, List.zip_nil_left, List.zip_nil_right, List.nil_append, List.cons_append, ↓reduceIte, reduceCtorEq, Int.reduceToNat, Nat.reduceEqDiff, Nat.reduceAdd, Nat.reduceLT, Nat.reduceLeDiff, Nat.reduceMul, Nat.reduceSub, Value.category, false_implies, true_and, and_true, Bool.false_eq_true, Option.some.injEq, exists_eq_left', Option.toList_some, Option.toList_none, ev_km, ev_k2, ev_k3, ev_k4, ev_k5, ev_l0, ev_l1, sh_1, sh_2, sh_3, sh_4, sh_5, at_X11_readsPancake_16, at_X11_readsPancake_17, at_X11_readsPancake_40, at_X11_readsPancake_69, at_X11_readsPancake_70, at_X11_readsPancake_83, at_X11_readsPancake_84, at_X11_readsPancake_95, ca_X11_101, ca_X11_118, ca_X11_133, ca_X11_137, ca_X11_146, ca_X11_153, ca_X11_156, ca_X11_159, cd_X11_readsPancake_0, cd_X11_readsPancake_16, cd_X11_readsPancake_17, cd_X11_readsPancake_40, cd_X11_readsPancake_69, cd_X11_readsPancake_70, cd_X11_readsPancake_83, cd_X11_readsPancake_84, cd_X11_readsPancake_95, fl_X11_62, fl_X11_9, ev_b_10, no_0, no_1, no_lt, no_le, no_eq, no_lt0, no_ge0, no_gt0, no_le0, no_eq0, no_0eq, no_eqm, no_meq, no_m0, no_mlt, no_mge, no_mgt, no_mm, no_i01, no_i10, no_in, no_or, no_ifm, no_mul, nI_add, no_sub, pk_div, iI_if, nI_clamp, oI_n, oI_s, not_true_eq_false, not_false_eq_true, forall_const, true_implies, false_and, and_false, or_false, false_or, Classical.not_not, true_or, or_true, no_b, no_eq1, eq_self, and_self, sk_301, sk_302, sl_302, sp_301, n0, w0, re_10, re_n, hN1, f1, y, nx_n z1, nW_n z1, rP_n z1]
      | exact rfl
      | (split <;> omega))
  · have z1 : e1.1 = 0 := Classical.byContradiction z1
    have g1 := z1
    rw [← f1] at g1
    have k1 := rN_0 g1
    have s1 := nmc_0 k1.2.1
    have e0 : e1 = (0, -1) := by rw [← f1]; exact k1.2.2
    subst e0
    rw [if_pos rfl]
    have n1 : nx (0, -1) (a + 1) = a + 1 + 1 := rfl
    have hv2 := NV_nx (B := B) (n := n) (e := (0, -1)) (a := a + 1) hv1
    rw [n1] at hv2
    generalize wA : nW B n (0, -1) (a + 1) v1 = v2 at hv2
    obtain ⟨af, vf, μ2, r1, r2, r3, r4⟩ := rl_cooks (μ := μ) (N := N) (A := a + 1 + 1) (t := tvl B n (a + 1)) (f := fun k => pv B n N (a + 1 + 1 + k)) hok hR hI h10 (fun _ => rfl) (by omega) 4 0 v2 (by omega) (by omega) (Or.inl rfl) (fun k hk => absurd hk (Nat.not_lt_zero k)) hv2
    refine ⟨af, vf, μ2, ?_, r2, r3, r4⟩
    have e9 : mw μ (ckN N (fun k => pv B n N (a + 1 + 1 + k)) 0) = μ := by rw [ckN_0]; exact mw_self hN
    rw [e9] at r1
    have r1 : LTc G (N 1) (tvl B n (a + 1)) 0 (re B n (0, -1) (a + 1 + 1) v2 μ) _ := r1
    refine LT_T (own := RX11) (Tb := tb_X11_readsPancake 0) hok (okM_X11_readsPancake 0) (Nat.le_of_ble_eq_true rfl) ?_
    refine LT_go1 (n := 400) (okM_X11_readsPancake 0) r1 ?_
    rw [show ev_at cd_X11_readsPancake 0 = cd_X11_readsPancake_0 from rfl]
    repeat' (first
      | (with_reducible refine ev_rid ?_; simp (disch := first | omega | assumption) only [ev_run_c, ev_run_n, ev_fj, ev_stp, ev_lk, ev_fv, ev_as, ev_sz, ev_st1, ev_st2, ev_rm, ev_pk, ev_Jof, ev_go, lv_args, List.map_cons, List.map_nil, List.zip_cons_cons, List.zip_nil_left, List.zip_nil_right, List.nil_append, List.cons_append, ↓reduceIte, reduceCtorEq, Int.reduceToNat, Nat.reduceEqDiff, Nat.reduceAdd, Nat.reduceLT, Nat.reduceLeDiff, Nat.reduceMul, Nat.reduceSub, Value.category, false_implies, true_and, and_true, Bool.false_eq_true, Option.some.injEq, exists_eq_left', Option.toList_some, Option.toList_none, ev_km, ev_k2, ev_k3, ev_k4, ev_k5, ev_l0, ev_l1, sh_1, sh_2, sh_3, sh_4, sh_5, at_X11_readsPancake_16, at_X11_readsPancake_17, at_X11_readsPancake_40, at_X11_readsPancake_69, at_X11_readsPancake_70, at_X11_readsPancake_83, at_X11_readsPancake_84, at_X11_readsPancake_95, ca_X11_101, ca_X11_118, ca_X11_133, ca_X11_137, ca_X11_146, ca_X11_153, ca_X11_156, ca_X11_159, cd_X11_readsPancake_0, cd_X11_readsPancake_16, cd_X11_readsPancake_17, cd_X11_readsPancake_40, cd_X11_readsPancake_69, cd_X11_readsPancake_70, cd_X11_readsPancake_83, cd_X11_readsPancake_84, cd_X11_readsPancake_95, fl_X11_62, fl_X11_9, ev_b_10, no_0, no_1, no_lt, no_le, no_eq, no_lt0, no_ge0, no_gt0, no_le0, no_eq0, no_0eq, no_eqm, no_meq, no_m0, no_mlt, no_mge, no_mgt, no_mm, no_i01, no_i10, no_in, no_or, no_ifm, no_mul, nI_add, no_sub, pk_div, iI_if, nI_clamp, oI_n, oI_s, not_true_eq_false, not_false_eq_true, forall_const, true_implies, false_and, and_false, or_false, false_or, Classical.not_not, true_or, or_true, no_b, no_eq1, eq_self, and_self, sk_301, sk_302, sl_302, sp_301, n0, w0, re_10, re_n, hN1, f1, n1, wA])
      | (with_reducible refine ev_gid ?_; simp (disch := first | omega | assumption) only [ev_run_c, ev_run_n, ev_fj, ev_stp, ev_lk, ev_fv, ev_as, ev_sz, ev_st1, ev_st2, ev_rm, ev_pk, ev_Jof, ev_go, lv_args, List.map_cons, List.map_nil, List.zip_cons_cons, List.zip_nil_left, List.zip_nil_right, List.nil_append, List.cons_append, ↓reduceIte, reduceCtorEq, Int.reduceToNat, Nat.reduceEqDiff, Nat.reduceAdd, Nat.reduceLT, Nat.reduceLeDiff, Nat.reduceMul, Nat.reduceSub, Value.category, false_implies, true_and, and_true, Bool.false_eq_true, Option.some.injEq, exists_eq_left', Option.toList_some, Option.toList_none, ev_km, ev_k2, ev_k3, ev_k4, ev_k5, ev_l0, ev_l1, sh_1, sh_2, sh_3, sh_4, sh_5, at_X11_readsPancake_16, at_X11_readsPancake_17, at_X11_readsPancake_40, at_X11_readsPancake_69, at_X11_readsPancake_70, at_X11_readsPancake_83, at_X11_readsPancake_84, at_X11_readsPancake_95, ca_X11_101, ca_X11_118, ca_X11_133, ca_X11_137, ca_X11_146, ca_X11_153, ca_X11_156, ca_X11_159, cd_X11_readsPancake_0, cd_X11_readsPancake_16, cd_X11_readsPancake_17, cd_X11_readsPancake_40, cd_X11_readsPancake_69, cd_X11_readsPancake_70, cd_X11_readsPancake_83, cd_X11_readsPancake_84, cd_X11_readsPancake_95, fl_X11_62, fl_X11_9, ev_b_10, no_0, no_1, no_lt, no_le, no_eq, no_lt0, no_ge0, no_gt0, no_le0, no_eq0, no_0eq, no_eqm, no_meq, no_m0, no_mlt, no_mge, no_mgt, no_mm, no_i01, no_i10, no_in, no_or, no_ifm, no_mul, nI_add, no_sub, pk_div, iI_if, nI_clamp, oI_n, oI_s, not_true_eq_false, not_false_eq_true, forall_const, true_implies, false_and, and_false, or_false, false_or, Classical.not_not, true_or, or_true, no_b, no_eq1, eq_self, and_self, sk_301, sk_302, sl_302, sp_301, n0, w0, re_10, re_n, hN1, f1, n1, wA])
      | (with_reducible refine And.intro (fun q => ?_) (fun q => ?_) <;> (try simp (disch := first | omega | assumption) only [no_0, no_1, no_lt, no_le, no_eq, no_lt0, no_ge0, no_gt0, no_le0, no_eq0, no_0eq, no_eqm, no_meq, no_m0, no_mlt, no_mge, no_mgt, no_mm, no_i01, no_i10, no_in, no_or, no_ifm, no_mul, nI_add, no_sub, pk_div, iI_if, nI_clamp, oI_n, oI_s, not_true_eq_false, not_false_eq_true, forall_const, true_implies, false_and, and_false, or_false, false_or, Classical.not_not, true_or, or_true, no_b, no_eq1, eq_self, and_self, sk_301, sk_302, sl_302, sp_301, n0, w0, re_10, re_n, hN1, f1, n1, wA] at q))
      | with_reducible refine ev_ci (m_limits1 hok ?_) ?_
      | with_reducible refine ev_ci (m_limits0 hok ?_) ?_
      | with_reducible refine ev_ci (m_go hok (by first | with_reducible assumption | exact RB_mw (by with_reducible assumption)) ?_) ?_
      | with_reducible refine ev_ci (m_readNumber hok (by with_reducible assumption) ?_ (by with_reducible assumption) ?_ ?_) ?_
      | with_reducible refine ev_ci (m_personHere hok (by with_reducible assumption) (by with_reducible assumption) (by with_reducible assumption) ?_) ?_
      | with_reducible refine ev_ci (m_X11_cooks hok (by assumption) ?_ ?_ ?_ ?_) ?_
      | with_reducible refine ev_ci (m_refuses1 hok ?_) ?_
      | with_reducible refine ev_ci (m_refuses0 hok ?_) ?_
      | with_reducible refine ev_ci (m_X11_putsCake hok (by first | exact MR_re (by with_reducible assumption) | exact MR_re mw_R) ?_ ?_) ?_
      | with_reducible refine ev_ci (m_is hok ?_ ?_) ?_
      | omega
      | with_reducible assumption
      | with_reducible rfl
      | with_reducible refine lp_nx ?_ ?_ ?_ ?_
      | with_reducible refine lp_st ?_ ?_ ?_
      | with_reducible refine ls_c ?_ ?_
      | with_reducible refine vi_c ?_
      | with_reducible refine re_c ?_
      | with_reducible refine vz_c ?_
      | with_reducible refine rz_c ?_
      | exact trivial
      | with_reducible refine And.intro ?_ ?_
      | simp (disch := first | omega | assumption) only [ev_run_c, ev_run_n, ev_fj, ev_stp, ev_lk, ev_fv, ev_as, ev_sz, ev_st1, ev_st2, ev_rm, ev_pk, ev_Jof, ev_go, lv_args, List.map_cons, List.map_nil, List.zip_cons_cons, List.zip_nil_left, List.zip_nil_right, List.nil_append, List.cons_append, ↓reduceIte, reduceCtorEq, Int.reduceToNat, Nat.reduceEqDiff, Nat.reduceAdd, Nat.reduceLT, Nat.reduceLeDiff, Nat.reduceMul, Nat.reduceSub, Value.category, false_implies, true_and, and_true, Bool.false_eq_true, Option.some.injEq, exists_eq_left', Option.toList_some, Option.toList_none, ev_km, ev_k2, ev_k3, ev_k4, ev_k5, ev_l0, ev_l1, sh_1, sh_2, sh_3, sh_4, sh_5, at_X11_readsPancake_16, at_X11_readsPancake_17, at_X11_readsPancake_40, at_X11_readsPancake_69, at_X11_readsPancake_70, at_X11_readsPancake_83, at_X11_readsPancake_84, at_X11_readsPancake_95, ca_X11_101, ca_X11_118, ca_X11_133, ca_X11_137, ca_X11_146, ca_X11_153, ca_X11_156, ca_X11_159, cd_X11_readsPancake_0, cd_X11_readsPancake_16, cd_X11_readsPancake_17, cd_X11_readsPancake_40, cd_X11_readsPancake_69, cd_X11_readsPancake_70, cd_X11_readsPancake_83, cd_X11_readsPancake_84, cd_X11_readsPancake_95, fl_X11_62, fl_X11_9, ev_b_10, no_0, no_1, no_lt, no_le, no_eq, no_lt0, no_ge0, no_gt0, no_le0, no_eq0, no_0eq, no_eqm, no_meq, no_m0, no_mlt, no_mge, no_mgt, no_mm, no_i01, no_i10, no_in, no_or, no_ifm, no_mul, nI_add, no_sub, pk_div, iI_if, nI_clamp, oI_n, oI_s, not_true_eq_false, not_false_eq_true, forall_const, true_implies, false_and, and_false, or_false, false_or, Classical.not_not, true_or, or_true, no_b, no_eq1, eq_self, and_self, sk_301, sk_302, sl_302, sp_301, n0, w0, re_10, re_n, hN1, f1, n1, wA]
      | exact rfl
      | (split <;> omega))
end RItF
