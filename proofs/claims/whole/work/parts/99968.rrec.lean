/-! ===== the reference's parser beside the class's: items, repeats ===== -/
section RRec
variable {G : ev_G} {N : Nat → Nat} {B : Nat → Nat} {n m : Nat} {μ μ' μc : ev_M}
theorem re_w17 {e : Nat × Int32} {a : Nat} {v x : Int32} : w1 (re B n e a v μ) 301 17 x = re B n e a v (w1 μ 301 17 x) := by
  refine Prod.ext (funext fun b => funext fun j => ?_) rfl
  show (if b = 301 ∧ j = 17 then x else (q6 _ _ _ _ _ μ).1 b j) = (q6 _ _ _ _ _ (w1 μ 301 17 x)).1 b j
  rw [q6_at, q6_at]
  show _ = (if b = 301 ∧ j = 10 then nI e.1 else if b = 301 ∧ j = 11 then e.2 else if b = 301 ∧ j = 13 then nI (ps B n (a + 1)) else if b = 301 ∧ j = 14 then nI (tst B n a) else if b = 301 ∧ j = 15 then nI (rcd (tkd B n a)) else if b = 301 ∧ j = 16 then v else if b = 301 ∧ j = 17 then x else μ.1 b j)
  (repeat' split) <;> first | rfl | (exfalso; omega)
theorem re_w13 {e : Nat × Int32} {a : Nat} {v x : Int32} : w1 (re B n e a v μ) 301 13 x = q6 e x (nI (tst B n a)) (nI (rcd (tkd B n a))) v μ := q6_w13
theorem NV_nvA {a : Nat} {v : Int32} : NV B n a (nv B n (ps B n a) v) := by
  intro h2
  obtain ⟨t1, t2, t3, t4, t5, t6, t7, t8⟩ := tkd_2 h2
  have e1 : lxs B n (ps B n a) = tst B n a := rfl
  have e2 : lxD B n (tst B n a) - tst B n a = tln B n a := by unfold tln; rw [t4]
  unfold nv
  rw [e1, if_pos ⟨t1, t3, t2⟩, t8, e2, show min 3 (tln B n a) = tln B n a by omega]
theorem Fw_w17 {x : Int32} (h : Fw μ μ') : Fw (w1 μ 301 17 x) (w1 μ' 301 17 x) := ⟨fun a k h1 h2 => by
  show (if a = 301 ∧ k = 17 then x else μ'.1 a k) = if a = 301 ∧ k = 17 then x else μ.1 a k
  rw [h.1 a k h1 h2], h.2⟩
theorem RB_w17 {x : Int32} (h : RB B n μ) : RB B n (w1 μ 301 17 x) := ⟨h.1, h.2.1, (w1_n (by omega)).trans h.2.2.1, fun j hj => (w1_n (by omega)).trans (h.2.2.2 j hj)⟩
theorem MR_w17 {x : Int32} (h : MR N μ) : MR N (w1 μ 301 17 x) := fun k hk => (w1_n (by omega)).trans (h k hk)
section
variable {a d : Nat} {bd pl : Nat → Nat}
theorem stp_o (h : otm N d (kwi B n a) = 1) : stp B n (N, a, d, bd, pl, 1, (0, -1)) = (N, a, d, bd, pl, 0, er (0, -1) True 4 a B n) := by
  unfold stp
  rw [if_pos rfl, if_pos h]
theorem stp_item (h : otm N d (kwi B n a) = 0) (h18 : kwi B n a ≠ 18) : stp B n (N, a, d, bd, pl, 1, (0, -1)) = (nI9 B n N a (kwi B n a), aI9 B n N a (kwi B n a), d, bd, pl, 0, qI B n N a (kwi B n a)) := by
  have c1 : ¬ otm N d (kwi B n a) = 1 := by omega
  unfold stp
  rw [if_pos rfl, if_neg c1, if_neg h18]
theorem stp_rep (h : otm N d (kwi B n a) = 0) (h18 : kwi B n a = 18) : stp B n (N, a, d, bd, pl, 1, (0, -1)) = (N, a + 1 + 1 + 1, d + 1, u1 bd d (a + 1 + 1 + 1), u1 pl d (tvl B n (a + 1)), 1, q_repeat B n (a + 1)) := by
  have c1 : ¬ otm N d (kwi B n a) = 1 := by omega
  unfold stp
  rw [if_pos rfl, if_neg c1, if_pos h18]
theorem stp_semi (h : tkd B n a = 3) : stp B n (N, a, d, bd, pl, 0, (0, -1)) = (N, a + 1, d, bd, pl, 1, (0, -1)) := by
  have k01 : ¬ ((0 : Nat) = 1) := by decide
  unfold stp
  rw [if_neg k01, if_pos h]
theorem stp_bad (h : tkd B n a ≠ 3) (h5 : ¬ (tkd B n a = 5 ∧ 0 < d)) : stp B n (N, a, d, bd, pl, 0, (0, -1)) = (N, a, d, bd, pl, 0, er (0, -1) True 1 a B n) := by
  have k01 : ¬ ((0 : Nat) = 1) := by decide
  unfold stp
  rw [if_neg k01, if_neg h, if_neg h5]
theorem stp_pass (h5 : tkd B n a = 5) (hp : 2 ≤ pl d) : stp B n (N, a, d + 1, bd, pl, 0, (0, -1)) = (N, bd d, d + 1, bd, u1 pl d (pl d - 1), 1, (0, -1)) := by
  have k01 : ¬ ((0 : Nat) = 1) := by decide
  have k3 : ¬ tkd B n a = 3 := by omega
  unfold stp
  rw [if_neg k01, if_neg k3, if_pos ⟨h5, Nat.succ_pos d⟩]
  exact if_pos hp
theorem stp_end (h5 : tkd B n a = 5) (hp : ¬ 2 ≤ pl d) : stp B n (N, a, d + 1, bd, pl, 0, (0, -1)) = (N, a + 1, d, bd, pl, 0, (0, -1)) := by
  have k01 : ¬ ((0 : Nat) = 1) := by decide
  have k3 : ¬ tkd B n a = 3 := by omega
  unfold stp
  rw [if_neg k01, if_neg k3, if_pos ⟨h5, Nat.succ_pos d⟩]
  exact if_neg hp
theorem nAC_1 {e : Nat × Int32} : ¬ AC B n (N, a, d, bd, pl, 1, e) := fun h => absurd h.1 (show ¬ (1 : Nat) = 0 by decide)
theorem nAC_d {e : Nat × Int32} (h : 0 < d) : ¬ AC B n (N, a, d, bd, pl, 0, e) := fun q => by have : d = 0 := q.2.2; omega
end
theorem tsE_c {e : Nat × Int32} {a : Nat} (h : e.1 < 5) : ∀ k, (tsE B n e a k).1 < 5
  | 0 => h
  | k + 1 => rN_c (tsE_c h k)
theorem pkE_c {A : Nat} : ∀ d c, (pkE B n N A d c).1.1 < 5
  | 0, c => (show (0 : Nat) < 5 by decide)
  | d + 1, c => by
    unfold pkE
    by_cases h1 : 0 < c ∧ tkd B n (A + c) ≠ 1
    · rw [if_pos h1]; exact (show (0 : Nat) < 5 by decide)
    · rw [if_neg h1]
      by_cases h2 : (pkS B n N A c).1 = 0
      · rw [if_pos h2]; exact pkE_c d (c + 1)
      · rw [if_neg h2]; unfold pkS; exact er_c (er_c (rP_c (by decide)) (by decide)) (by decide)
theorem qI_c {a k : Nat} : (qI B n N a k).1 < 5 := by
  unfold qI
  split
  · unfold q_person; exact rN_c (er_c (rC_c (by decide)) (by decide))
  · unfold q_taster; exact tsE_c (rN_c (er_c (rP_c (by decide)) (by decide))) 4
  · unfold q_pancake
    split
    · exact pkE_c 4 0
    · exact rN_c (by decide)
  · unfold q_bid; exact rN_c (rN_c (er_c (rP_c (by decide)) (by decide)))
  · unfold q_together; exact er_c (rP_c (rP_c (by decide))) (by decide)
  · unfold q_conflict; exact er_c (rN_c (rP_c (by decide))) (by decide)
  · unfold q_seat; exact er_c (rN_c (rP_c (by decide))) (by decide)
  · unfold q_leave; exact er_c (rN_c (rP_c (by decide))) (by decide)
  · unfold q_score; exact rN_c (er_c (rN_c (rP_c (by decide))) (by decide))
  · unfold q_talk; exact er_c (rN_c (by decide)) (by decide)
  · unfold q_limit; exact rN_c (er_c (rP_c (by decide)) (by decide))
  · unfold q_kitchen; exact rN_c (rP_c (by decide))
  · unfold q_swap; exact er_c (rN_c (rN_c (by decide))) (by decide)
  · unfold q_clear; exact rN_c (by decide)
  · unfold q_even; exact er_c (rN_c (by decide)) (by decide)
  · unfold q_copy; exact er_c (er_c (rP_c (er_c (rP_c (by decide)) (by decide))) (by decide)) (by decide)
  · decide
  · exact er_c (by decide) (by decide)
/-- where a simple item ends -/
def Sm (B : Nat → Nat) (n : Nat) (a a' : Nat) : Prop := a' = aT B n a (kwi B n a)
theorem Sm_lt {a a' : Nat} (h : Sm B n a a') : a < a' := by unfold Sm at h; rw [h]; exact aT_lt a _
theorem Sm_fn {a a1 a2 : Nat} (h : Sm B n a a1) (h2 : Sm B n a a2) : a1 = a2 := by unfold Sm at h h2; rw [h, h2]
/-- turns at most, where there is an error -/
def EI : Nat → Nat
  | 0 => 1
  | r + 1 => 1 + 9 * (9 ^ r * 2 * 500 + 1) + (9 ^ r * 2 * 501 + EI r + 1)
theorem EI_1 (r : Nat) : 1 ≤ EI r := by cases r <;> unfold EI <;> omega
def OKt (m d : Nat) (bd pl : Nat → Nat) (t : PS) (af : Nat) (μ2 : ev_M) : Prop := t.d = d ∧ t.due = 0 ∧ t.e = (0, -1) ∧ af = t.a ∧ MR t.Q μ2 ∧ INV t.Q ∧ t.a ≤ m ∧ ∀ i, i < d → t.bd i = bd i ∧ t.pl i = pl i
/-- an item, class and reference side by side -/
def CI (G : ev_G) (B : Nat → Nat) (n m r : Nat) (y : ev_Mi) (N : Nat → Nat) (a d : Nat) (bd pl : Nat → Nat) (v : Int32) (μ : ev_M) : Prop := ∃ k t af vf μ2, Run B n k (N, a, d, bd, pl, 1, (0, -1)) t ∧ ev_T sh_S G y [.ref 301] (re B n (0, -1) a v μ) (.inl (none, re B n t.e af vf μ2)) ∧ Fw μ μ2 ∧ NV B n af vf ∧ t.e.1 < 5 ∧ (t.e.1 = 0 → OKt m d bd pl t af μ2 ∧ It B n (Sm B n) r a t.a k) ∧ (t.e.1 ≠ 0 → k ≤ EI r)
def RIs (G : ev_G) (B : Nat → Nat) (n m r : Nat) : Prop := ∀ (N : Nat → Nat) (a d : Nat) (bd pl : Nat → Nat) (v : Int32) (μ : ev_M), RB B n μ → MR N μ → INV N → NV B n a v → a ≤ m → μ.1 301 17 = nI d → d + r = 2 → CI G B n m r (mi_X11_readsItem r) N a d bd pl v μ
def RRs (G : ev_G) (B : Nat → Nat) (n m r : Nat) : Prop := ∀ (N : Nat → Nat) (a d : Nat) (bd pl : Nat → Nat) (v : Int32) (μ : ev_M), RB B n μ → MR N μ → INV N → NV B n a v → a ≤ m → μ.1 301 17 = nI d → d + r = 2 → kwi B n a = 18 → otm N d 18 = 0 → CI G B n m r (mi_X11_readsRepeat r) N a d bd pl v μ
def RSs (G : ev_G) (B : Nat → Nat) (n m r : Nat) : Prop := ∀ (N : Nat → Nat) (A d : Nat) (bd pl : Nat → Nat) (s t v : Int32) (μ : ev_M), RB B n μ → MR N μ → INV N → A ≤ m → μ.1 301 17 = nI d → 0 < d → d + r = 2 → ∃ k t' af vf μ2, Run B n k (N, A, d, bd, pl, 1, (0, -1)) t' ∧ ev_T sh_S G (mi_X11_readsItems r) [.ref 301] (q6 (0, -1) (nI (ps B n A)) s t v μ) (.inl (none, re B n t'.e af vf μ2)) ∧ Fw μ μ2 ∧ NV B n af vf ∧ t'.e.1 < 5 ∧ (t'.e.1 = 0 → OKt m d bd pl t' af μ2 ∧ tkd B n t'.a = 5 ∧ Sh B n (It B n (Sm B n) r) A t'.a k) ∧ (t'.e.1 ≠ 0 → k ≤ 9 ^ r * 2 * 501 + EI r + 1)
set_option maxHeartbeats 1000000 in
theorem rxo_person (hok : ev_ok sh_S G) (hR : RB B n μ) (hN : MR N μ) (h : N 0 = 16) {a : Nat} {v : Int32} : ev_T sh_S G mi_X11_readsPerson [.ref 301] (re B n (0, -1) a v μ) (.inl (none, re B n (er (0, -1) True 4 a B n) a v μ)) := by
  have e2 : μ.1 302 0 = nI 16 := by rw [hN 0 (by omega), h]
  obtain ⟨e9, f9⟩ : ∃ e, er (0, -1) True 4 a B n = e := ⟨_, rfl⟩
  have c9 : e9.1 < 5 := by rw [← f9]; exact er_c (by decide) (by decide)
  have z9 : ¬ e9.1 = 0 := by rw [← f9, er_T rfl]; exact Nat.succ_ne_zero _
  have y : (e9.1 = 0) = False := eq_false z9
  rw [f9]
  refine ev_tri hok (okM_X11_readsPerson 0) (Nat.le_of_ble_eq_true rfl) 400 ?_
  rw [at_X11_readsPerson_0]
  repeat' (first
    | (with_reducible refine ev_rid ?_; simp (disch := first | omega | assumption) only [ev_run_c, ev_run_n, ev_fj, ev_stp, ev_lk, ev_fv, ev_as, ev_sz, ev_st1, ev_st2, ev_rm, ev_pk, ev_Jof, ev_go, lv_args, List.map_cons, List.map_nil, List.zip_cons_cons, List.zip_nil_left, List.zip_nil_right, List.nil_append, List.cons_append, ↓reduceIte, reduceCtorEq, Int.reduceToNat, Nat.reduceEqDiff, Nat.reduceAdd, Nat.reduceLT, Nat.reduceLeDiff, Nat.reduceMul, Nat.reduceSub, Value.category, false_implies, true_and, and_true, Bool.false_eq_true, Option.some.injEq, exists_eq_left', Option.toList_some, Option.toList_none, ev_km, ev_k2, ev_k3, ev_k4, ev_k5, ev_l0, ev_l1, sh_1, sh_2, sh_3, sh_4, sh_5, at_X11_readsPerson_124, at_X11_readsPerson_16, at_X11_readsPerson_17, at_X11_readsPerson_48, at_X11_readsPerson_49, at_X11_readsPerson_60, at_X11_readsPerson_85, ca_X11_118, ca_X11_127, ca_X11_130, ca_X11_133, ca_X11_146, ca_X11_149, ca_X11_153, cd_X11_readsPerson_0, cd_X11_readsPerson_124, cd_X11_readsPerson_16, cd_X11_readsPerson_17, cd_X11_readsPerson_48, cd_X11_readsPerson_49, cd_X11_readsPerson_60, cd_X11_readsPerson_85, fl_X11_26, fl_X11_62, fl_X11_76, fl_X11_79, fl_X11_9, ev_b_16, ev_b_6, ev_b_7, ev_b_9, no_0, no_1, no_lt, no_le, no_eq, no_lt0, no_ge0, no_gt0, no_le0, no_eq0, no_0eq, no_eqm, no_meq, no_m0, no_mlt, no_mge, no_mgt, no_mm, no_i01, no_i10, no_in, no_or, no_ifm, no_mul, nI_add, no_sub, pk_div, iI_if, nI_clamp, oI_n, oI_s, not_true_eq_false, not_false_eq_true, forall_const, true_implies, false_and, and_false, or_false, false_or, Classical.not_not, true_or, or_true, no_b, no_eq1, eq_self, and_self, sk_301, sk_302, sl_302, sp_301, re_10, re_n, e2, f9, y, nx_n z9, nW_n z9, rC_n z9])
    | (with_reducible refine ev_gid ?_; simp (disch := first | omega | assumption) only [ev_run_c, ev_run_n, ev_fj, ev_stp, ev_lk, ev_fv, ev_as, ev_sz, ev_st1, ev_st2, ev_rm, ev_pk, ev_Jof, ev_go, lv_args, List.map_cons, List.map_nil, List.zip_cons_cons, List.zip_nil_left, List.zip_nil_right, List.nil_append, List.cons_append, ↓reduceIte, reduceCtorEq, Int.reduceToNat, Nat.reduceEqDiff, Nat.reduceAdd, Nat.reduceLT, Nat.reduceLeDiff, Nat.reduceMul, Nat.reduceSub, Value.category, false_implies, true_and, and_true, Bool.false_eq_true, Option.some.injEq, exists_eq_left', Option.toList_some, Option.toList_none, ev_km, ev_k2, ev_k3, ev_k4, ev_k5, ev_l0, ev_l1, sh_1, sh_2, sh_3, sh_4, sh_5, at_X11_readsPerson_124, at_X11_readsPerson_16, at_X11_readsPerson_17, at_X11_readsPerson_48, at_X11_readsPerson_49, at_X11_readsPerson_60, at_X11_readsPerson_85, ca_X11_118, ca_X11_127, ca_X11_130, ca_X11_133, ca_X11_146, ca_X11_149, ca_X11_153, cd_X11_readsPerson_0, cd_X11_readsPerson_124, cd_X11_readsPerson_16, cd_X11_readsPerson_17, cd_X11_readsPerson_48, cd_X11_readsPerson_49, cd_X11_readsPerson_60, cd_X11_readsPerson_85, fl_X11_26, fl_X11_62, fl_X11_76, fl_X11_79, fl_X11_9, ev_b_16, ev_b_6, ev_b_7, ev_b_9, no_0, no_1, no_lt, no_le, no_eq, no_lt0, no_ge0, no_gt0, no_le0, no_eq0, no_0eq, no_eqm, no_meq, no_m0, no_mlt, no_mge, no_mgt, no_mm, no_i01, no_i10, no_in, no_or, no_ifm, no_mul, nI_add, no_sub, pk_div, iI_if, nI_clamp, oI_n, oI_s, not_true_eq_false, not_false_eq_true, forall_const, true_implies, false_and, and_false, or_false, false_or, Classical.not_not, true_or, or_true, no_b, no_eq1, eq_self, and_self, sk_301, sk_302, sl_302, sp_301, re_10, re_n, e2, f9, y, nx_n z9, nW_n z9, rC_n z9])
    | (with_reducible refine And.intro (fun q => ?_) (fun q => ?_) <;> (try simp (disch := first | omega | assumption) only [no_0, no_1, no_lt, no_le, no_eq, no_lt0, no_ge0, no_gt0, no_le0, no_eq0, no_0eq, no_eqm, no_meq, no_m0, no_mlt, no_mge, no_mgt, no_mm, no_i01, no_i10, no_in, no_or, no_ifm, no_mul, nI_add, no_sub, pk_div, iI_if, nI_clamp, oI_n, oI_s, not_true_eq_false, not_false_eq_true, forall_const, true_implies, false_and, and_false, or_false, false_or, Classical.not_not, true_or, or_true, no_b, no_eq1, eq_self, and_self, sk_301, sk_302, sl_302, sp_301, re_10, re_n, e2, f9, y, nx_n z9, nW_n z9, rC_n z9] at q))
    | with_reducible refine ev_ci (m_limits1 hok ?_) ?_
    | with_reducible refine ev_ci (m_limits0 hok ?_) ?_
    | with_reducible refine ev_ci (m_go hok (by first | with_reducible assumption | exact RB_mw (by with_reducible assumption)) ?_) ?_
    | with_reducible refine ev_ci (m_wantsName hok (by first | with_reducible assumption | exact RB_mw (by with_reducible assumption)) ?_) ?_
    | with_reducible refine ev_ci (m_refuses1 hok ?_) ?_
    | with_reducible refine ev_ci (m_refuses0 hok ?_) ?_
    | with_reducible refine ev_ci (m_X11_puts hok (by first | exact MR_re (by with_reducible assumption) | exact MR_re mw_R) ?_ ?_) ?_
    | with_reducible refine ev_ci (m_readNumber hok (by with_reducible assumption) ?_ (by with_reducible assumption) ?_ ?_) ?_
    | omega
    | with_reducible assumption
    | with_reducible rfl
    | with_reducible refine lp_nx ?_ ?_ ?_ ?_
    | with_reducible refine lp_st ?_ ?_ ?_
    | with_reducible refine ls_c ?_ ?_
    | with_reducible refine vi_c ?_
    | with_reducible refine re_c ?_
    | with_reducible refine vz_c ?_
    | with_reducible refine rz_c ?_
    | exact trivial
    | with_reducible refine And.intro ?_ ?_
    | simp (disch := first | omega | assumption) only [ev_run_c, ev_run_n, ev_fj, ev_stp, ev_lk, ev_fv, ev_as, ev_sz, ev_st1, ev_st2, ev_rm, ev_pk, ev_Jof, ev_go, lv_args, List.map_cons, List.map_nil, List.zip_cons_cons, List.zip_nil_left, List.zip_nil_right, List.nil_append, List.cons_append, ↓reduceIte, reduceCtorEq, Int.reduceToNat, Nat.reduceEqDiff, Nat.reduceAdd, Nat.reduceLT, Nat.reduceLeDiff, Nat.reduceMul, Nat.reduceSub, Value.category, false_implies, true_and, and_true, Bool.false_eq_true, Option.some.injEq, exists_eq_left', Option.toList_some, Option.toList_none, ev_km, ev_k2, ev_k3, ev_k4, ev_k5, ev_l0, ev_l1, sh_1, sh_2, sh_3, sh_4, sh_5, at_X11_readsPerson_124, at_X11_readsPerson_16, at_X11_readsPerson_17, at_X11_readsPerson_48, at_X11_readsPerson_49, at_X11_readsPerson_60, at_X11_readsPerson_85, ca_X11_118, ca_X11_127, ca_X11_130, ca_X11_133, ca_X11_146, ca_X11_149, ca_X11_153, cd_X11_readsPerson_0, cd_X11_readsPerson_124, cd_X11_readsPerson_16, cd_X11_readsPerson_17, cd_X11_readsPerson_48, cd_X11_readsPerson_49, cd_X11_readsPerson_60, cd_X11_readsPerson_85, fl_X11_26, fl_X11_62, fl_X11_76, fl_X11_79, fl_X11_9, ev_b_16, ev_b_6, ev_b_7, ev_b_9, no_0, no_1, no_lt, no_le, no_eq, no_lt0, no_ge0, no_gt0, no_le0, no_eq0, no_0eq, no_eqm, no_meq, no_m0, no_mlt, no_mge, no_mgt, no_mm, no_i01, no_i10, no_in, no_or, no_ifm, no_mul, nI_add, no_sub, pk_div, iI_if, nI_clamp, oI_n, oI_s, not_true_eq_false, not_false_eq_true, forall_const, true_implies, false_and, and_false, or_false, false_or, Classical.not_not, true_or, or_true, no_b, no_eq1, eq_self, and_self, sk_301, sk_302, sl_302, sp_301, re_10, re_n, e2, f9, y, nx_n z9, nW_n z9, rC_n z9]
    | exact rfl
    | (split <;> omega))
set_option maxHeartbeats 1000000 in
theorem rxo_pancake (hok : ev_ok sh_S G) (hR : RB B n μ) (hN : MR N μ) (hI : INV N) (h : N 1 = 10) {a : Nat} {v : Int32} (hv : NV B n a v) : ev_T sh_S G mi_X11_readsPancake [.ref 301] (re B n (0, -1) a v μ) (.inl (none, re B n (er (0, -1) True 4 a B n) a v μ)) := by
  have e2 : μ.1 302 1 = nI 10 := by rw [hN 1 (by omega), h]
  obtain ⟨e9, f9⟩ : ∃ e, er (0, -1) True 4 a B n = e := ⟨_, rfl⟩
  have c9 : e9.1 < 5 := by rw [← f9]; exact er_c (by decide) (by decide)
  have z9 : ¬ e9.1 = 0 := by rw [← f9, er_T rfl]; exact Nat.succ_ne_zero _
  have y : (e9.1 = 0) = False := eq_false z9
  rw [f9]
  refine ev_tri hok (okM_X11_readsPancake 0) (Nat.le_of_ble_eq_true rfl) 400 ?_
  rw [at_X11_readsPancake_0]
  repeat' (first
    | (with_reducible refine ev_rid ?_; simp (disch := first | omega | assumption) only [ev_run_c, ev_run_n, ev_fj, ev_stp, ev_lk, ev_fv, ev_as, ev_sz, ev_st1, ev_st2, ev_rm, ev_pk, ev_Jof, ev_go, lv_args, List.map_cons, List.map_nil, List.zip_cons_cons, List.zip_nil_left, List.zip_nil_right, List.nil_append, List.cons_append, ↓reduceIte, reduceCtorEq, Int.reduceToNat, Nat.reduceEqDiff, Nat.reduceAdd, Nat.reduceLT, Nat.reduceLeDiff, Nat.reduceMul, Nat.reduceSub, Value.category, false_implies, true_and, and_true, Bool.false_eq_true, Option.some.injEq, exists_eq_left', Option.toList_some, Option.toList_none, ev_km, ev_k2, ev_k3, ev_k4, ev_k5, ev_l0, ev_l1, sh_1, sh_2, sh_3, sh_4, sh_5, at_X11_readsPancake_16, at_X11_readsPancake_17, at_X11_readsPancake_40, at_X11_readsPancake_69, at_X11_readsPancake_70, at_X11_readsPancake_83, at_X11_readsPancake_84, at_X11_readsPancake_95, ca_X11_101, ca_X11_118, ca_X11_133, ca_X11_137, ca_X11_146, ca_X11_153, ca_X11_156, ca_X11_159, cd_X11_readsPancake_0, cd_X11_readsPancake_16, cd_X11_readsPancake_17, cd_X11_readsPancake_40, cd_X11_readsPancake_69, cd_X11_readsPancake_70, cd_X11_readsPancake_83, cd_X11_readsPancake_84, cd_X11_readsPancake_95, fl_X11_62, fl_X11_9, ev_b_10, no_0, no_1, no_lt, no_le, no_eq, no_lt0, no_ge0, no_gt0, no_le0, no_eq0, no_0eq, no_eqm, no_meq, no_m0, no_mlt, no_mge, no_mgt, no_mm, no_i01, no_i10, no_in, no_or, no_ifm, no_mul, nI_add, no_sub, pk_div, iI_if, nI_clamp, oI_n, oI_s, not_true_eq_false, not_false_eq_true, forall_const, true_implies, false_and, and_false, or_false, false_or, Classical.not_not, true_or, or_true, no_b, no_eq1, eq_self, and_self, sk_301, sk_302, sl_302, sp_301, re_10, re_n, e2, f9, y, nx_n z9, nW_n z9, rN_n z9, rP_n z9])
    | (with_reducible refine ev_gid ?_; simp (disch := first | omega | assumption) only [ev_run_c, ev_run_n, ev_fj, ev_stp, ev_lk, ev_fv, ev_as, ev_sz, ev_st1, ev_st2, ev_rm, ev_pk, ev_Jof, ev_go, lv_args, List.map_cons, List.map_nil, List.zip_cons_cons, List.zip_nil_left, List.zip_nil_right, List.nil_append, List.cons_append, ↓reduceIte, reduceCtorEq, Int.reduceToNat, Nat.reduceEqDiff, Nat.reduceAdd, Nat.reduceLT, Nat.reduceLeDiff, Nat.reduceMul, Nat.reduceSub, Value.category, false_implies, true_and, and_true, Bool.false_eq_true, Option.some.injEq, exists_eq_left', Option.toList_some, Option.toList_none, ev_km, ev_k2, ev_k3, ev_k4, ev_k5, ev_l0, ev_l1, sh_1, sh_2, sh_3, sh_4, sh_5, at_X11_readsPancake_16, at_X11_readsPancake_17, at_X11_readsPancake_40, at_X11_readsPancake_69, at_X11_readsPancake_70, at_X11_readsPancake_83, at_X11_readsPancake_84, at_X11_readsPancake_95, ca_X11_101, ca_X11_118, ca_X11_133, ca_X11_137, ca_X11_146, ca_X11_153, ca_X11_156, ca_X11_159, cd_X11_readsPancake_0, cd_X11_readsPancake_16, cd_X11_readsPancake_17, cd_X11_readsPancake_40, cd_X11_readsPancake_69, cd_X11_readsPancake_70, cd_X11_readsPancake_83, cd_X11_readsPancake_84, cd_X11_readsPancake_95, fl_X11_62, fl_X11_9, ev_b_10, no_0, no_1, no_lt, no_le, no_eq, no_lt0, no_ge0, no_gt0, no_le0, no_eq0, no_0eq, no_eqm, no_meq, no_m0, no_mlt, no_mge, no_mgt, no_mm, no_i01, no_i10, no_in, no_or, no_ifm, no_mul, nI_add, no_sub, pk_div, iI_if, nI_clamp, oI_n, oI_s, not_true_eq_false, not_false_eq_true, forall_const, true_implies, false_and, and_false, or_false, false_or, Classical.not_not, true_or, or_true, no_b, no_eq1, eq_self, and_self, sk_301, sk_302, sl_302, sp_301, re_10, re_n, e2, f9, y, nx_n z9, nW_n z9, rN_n z9, rP_n z9])
    | (with_reducible refine And.intro (fun q => ?_) (fun q => ?_) <;> (try simp (disch := first | omega | assumption) only [no_0, no_1, no_lt, no_le, no_eq, no_lt0, no_ge0, no_gt0, no_le0, no_eq0, no_0eq, no_eqm, no_meq, no_m0, no_mlt, no_mge, no_mgt, no_mm, no_i01, no_i10, no_in, no_or, no_ifm, no_mul, nI_add, no_sub, pk_div, iI_if, nI_clamp, oI_n, oI_s, not_true_eq_false, not_false_eq_true, forall_const, true_implies, false_and, and_false, or_false, false_or, Classical.not_not, true_or, or_true, no_b, no_eq1, eq_self, and_self, sk_301, sk_302, sl_302, sp_301, re_10, re_n, e2, f9, y, nx_n z9, nW_n z9, rN_n z9, rP_n z9] at q))
    | with_reducible refine ev_ci (m_limits1 hok ?_) ?_
    | with_reducible refine ev_ci (m_limits0 hok ?_) ?_
    | with_reducible refine ev_ci (m_go hok (by first | with_reducible assumption | exact RB_mw (by with_reducible assumption)) ?_) ?_
    | with_reducible refine ev_ci (m_readNumber hok (by with_reducible assumption) ?_ (by with_reducible assumption) ?_ ?_) ?_
    | with_reducible refine ev_ci (m_personHere hok (by with_reducible assumption) (by with_reducible assumption) (by with_reducible assumption) ?_) ?_
    | with_reducible refine ev_ci (m_X11_cooks hok (by assumption) ?_ ?_ ?_ ?_) ?_
    | with_reducible refine ev_ci (m_refuses1 hok ?_) ?_
    | with_reducible refine ev_ci (m_refuses0 hok ?_) ?_
    | with_reducible refine ev_ci (m_X11_putsCake hok (by first | exact MR_re (by with_reducible assumption) | exact MR_re mw_R) ?_ ?_) ?_
    | with_reducible refine ev_ci (m_is hok ?_ ?_) ?_
    | omega
    | with_reducible assumption
    | with_reducible rfl
    | with_reducible refine lp_nx ?_ ?_ ?_ ?_
    | with_reducible refine lp_st ?_ ?_ ?_
    | with_reducible refine ls_c ?_ ?_
    | with_reducible refine vi_c ?_
    | with_reducible refine re_c ?_
    | with_reducible refine vz_c ?_
    | with_reducible refine rz_c ?_
    | exact trivial
    | with_reducible refine And.intro ?_ ?_
    | simp (disch := first | omega | assumption) only [ev_run_c, ev_run_n, ev_fj, ev_stp, ev_lk, ev_fv, ev_as, ev_sz, ev_st1, ev_st2, ev_rm, ev_pk, ev_Jof, ev_go, lv_args, List.map_cons, List.map_nil, List.zip_cons_cons, List.zip_nil_left, List.zip_nil_right, List.nil_append, List.cons_append, ↓reduceIte, reduceCtorEq, Int.reduceToNat, Nat.reduceEqDiff, Nat.reduceAdd, Nat.reduceLT, Nat.reduceLeDiff, Nat.reduceMul, Nat.reduceSub, Value.category, false_implies, true_and, and_true, Bool.false_eq_true, Option.some.injEq, exists_eq_left', Option.toList_some, Option.toList_none, ev_km, ev_k2, ev_k3, ev_k4, ev_k5, ev_l0, ev_l1, sh_1, sh_2, sh_3, sh_4, sh_5, at_X11_readsPancake_16, at_X11_readsPancake_17, at_X11_readsPancake_40, at_X11_readsPancake_69, at_X11_readsPancake_70, at_X11_readsPancake_83, at_X11_readsPancake_84, at_X11_readsPancake_95, ca_X11_101, ca_X11_118, ca_X11_133, ca_X11_137, ca_X11_146, ca_X11_153, ca_X11_156, ca_X11_159, cd_X11_readsPancake_0, cd_X11_readsPancake_16, cd_X11_readsPancake_17, cd_X11_readsPancake_40, cd_X11_readsPancake_69, cd_X11_readsPancake_70, cd_X11_readsPancake_83, cd_X11_readsPancake_84, cd_X11_readsPancake_95, fl_X11_62, fl_X11_9, ev_b_10, no_0, no_1, no_lt, no_le, no_eq, no_lt0, no_ge0, no_gt0, no_le0, no_eq0, no_0eq, no_eqm, no_meq, no_m0, no_mlt, no_mge, no_mgt, no_mm, no_i01, no_i10, no_in, no_or, no_ifm, no_mul, nI_add, no_sub, pk_div, iI_if, nI_clamp, oI_n, oI_s, not_true_eq_false, not_false_eq_true, forall_const, true_implies, false_and, and_false, or_false, false_or, Classical.not_not, true_or, or_true, no_b, no_eq1, eq_self, and_self, sk_301, sk_302, sl_302, sp_301, re_10, re_n, e2, f9, y, nx_n z9, nW_n z9, rN_n z9, rP_n z9]
    | exact rfl
    | (split <;> omega))
set_option maxHeartbeats 1000000 in
theorem rxo_repeat (hok : ev_ok sh_S G) (hR : RB B n μ) (r : Nat) (h17 : μ.1 301 17 = nI 2) {a : Nat} {v : Int32} (hv : NV B n a v) : ev_T sh_S G (mi_X11_readsRepeat r) [.ref 301] (re B n (0, -1) a v μ) (.inl (none, re B n (er (0, -1) True 4 a B n) a v μ)) := by
  obtain ⟨e9, f9⟩ : ∃ e, er (0, -1) True 4 a B n = e := ⟨_, rfl⟩
  have c9 : e9.1 < 5 := by rw [← f9]; exact er_c (by decide) (by decide)
  have z9 : ¬ e9.1 = 0 := by rw [← f9, er_T rfl]; exact Nat.succ_ne_zero _
  have y : (e9.1 = 0) = False := eq_false z9
  rw [f9]
  have hR3 : RB B n (w1 μ 301 17 (nI 2)) := RB_w17 hR
  have e3 : w1 μ 301 17 (nI 2) = μ := w1_e h17
  have e4 : ∀ x : Int32, (w1 μ 301 17 x).1 301 17 = x := fun x => w1_s
  refine LT_T (own := RX11) (Tb := tb_X11_readsRepeat r) hok (okM_X11_readsRepeat r) (Nat.le_of_ble_eq_true rfl) ?_
  refine LT_run0 (n := 400) (okM_X11_readsRepeat r) ?_
  rw [show ev_at cd_X11_readsRepeat 0 = cd_X11_readsRepeat_0 from rfl]
  repeat' (first
    | (with_reducible refine ev_rid ?_; simp (disch := first | omega | assumption) only [ev_run_c, ev_run_n, ev_fj, ev_stp, ev_lk, ev_fv, ev_as, ev_sz, ev_st1, ev_st2, ev_rm, ev_pk, ev_Jof, ev_go, lv_args, List.map_cons, List.map_nil, List.zip_cons_cons, List.zip_nil_left, List.zip_nil_right, List.nil_append, List.cons_append, ↓reduceIte, reduceCtorEq, Int.reduceToNat, Nat.reduceEqDiff, Nat.reduceAdd, Nat.reduceLT, Nat.reduceLeDiff, Nat.reduceMul, Nat.reduceSub, Value.category, false_implies, true_and, and_true, Bool.false_eq_true, Option.some.injEq, exists_eq_left', Option.toList_some, Option.toList_none, ev_km, ev_k2, ev_k3, ev_k4, ev_k5, ev_l0, ev_l1, sh_1, sh_2, sh_3, sh_4, sh_5, at_X11_readsRepeat_13, at_X11_readsRepeat_14, at_X11_readsRepeat_42, at_X11_readsRepeat_59, at_X11_readsRepeat_86, ca_X11_101, ca_X11_118, ca_X11_146, ca_X11_153, ca_X11_211, ca_X11_98, cd_X11_readsRepeat_0, cd_X11_readsRepeat_13, cd_X11_readsRepeat_14, cd_X11_readsRepeat_42, cd_X11_readsRepeat_59, cd_X11_readsRepeat_86, fl_X11_208, fl_X11_62, fl_X11_76, ev_b_9, no_0, no_1, no_lt, no_le, no_eq, no_lt0, no_ge0, no_gt0, no_le0, no_eq0, no_0eq, no_eqm, no_meq, no_m0, no_mlt, no_mge, no_mgt, no_mm, no_i01, no_i10, no_in, no_or, no_ifm, no_mul, nI_add, no_sub, pk_div, iI_if, nI_clamp, oI_n, oI_s, not_true_eq_false, not_false_eq_true, forall_const, true_implies, false_and, and_false, or_false, false_or, Classical.not_not, true_or, or_true, no_b, no_eq1, eq_self, and_self, sk_301, sk_302, sl_302, sp_301, re_10, re_13, re_17, re_n, h17, f9, y, nx_n z9, nW_n z9, rN_n z9, er_n z9, w1_d, re_w17, e3, e4, w1_w])
    | (with_reducible refine ev_gid ?_; simp (disch := first | omega | assumption) only [ev_run_c, ev_run_n, ev_fj, ev_stp, ev_lk, ev_fv, ev_as, ev_sz, ev_st1, ev_st2, ev_rm, ev_pk, ev_Jof, ev_go, lv_args, List.map_cons, List.map_nil, List.zip_cons_cons, List.zip_nil_left, List.zip_nil_right, List.nil_append, List.cons_append, ↓reduceIte, reduceCtorEq, Int.reduceToNat, Nat.reduceEqDiff, Nat.reduceAdd, Nat.reduceLT, Nat.reduceLeDiff, Nat.reduceMul, Nat.reduceSub, Value.category, false_implies, true_and, and_true, Bool.false_eq_true, Option.some.injEq, exists_eq_left', Option.toList_some, Option.toList_none, ev_km, ev_k2, ev_k3, ev_k4, ev_k5, ev_l0, ev_l1, sh_1, sh_2, sh_3, sh_4, sh_5, at_X11_readsRepeat_13, at_X11_readsRepeat_14, at_X11_readsRepeat_42, at_X11_readsRepeat_59, at_X11_readsRepeat_86, ca_X11_101, ca_X11_118, ca_X11_146, ca_X11_153, ca_X11_211, ca_X11_98, cd_X11_readsRepeat_0, cd_X11_readsRepeat_13, cd_X11_readsRepeat_14, cd_X11_readsRepeat_42, cd_X11_readsRepeat_59, cd_X11_readsRepeat_86, fl_X11_208, fl_X11_62, fl_X11_76, ev_b_9, no_0, no_1, no_lt, no_le, no_eq, no_lt0, no_ge0, no_gt0, no_le0, no_eq0, no_0eq, no_eqm, no_meq, no_m0, no_mlt, no_mge, no_mgt, no_mm, no_i01, no_i10, no_in, no_or, no_ifm, no_mul, nI_add, no_sub, pk_div, iI_if, nI_clamp, oI_n, oI_s, not_true_eq_false, not_false_eq_true, forall_const, true_implies, false_and, and_false, or_false, false_or, Classical.not_not, true_or, or_true, no_b, no_eq1, eq_self, and_self, sk_301, sk_302, sl_302, sp_301, re_10, re_13, re_17, re_n, h17, f9, y, nx_n z9, nW_n z9, rN_n z9, er_n z9, w1_d, re_w17, e3, e4, w1_w])
    | (with_reducible refine And.intro (fun q => ?_) (fun q => ?_) <;> (try simp (disch := first | omega | assumption) only [no_0, no_1, no_lt, no_le, no_eq, no_lt0, no_ge0, no_gt0, no_le0, no_eq0, no_0eq, no_eqm, no_meq, no_m0, no_mlt, no_mge, no_mgt, no_mm, no_i01, no_i10, no_in, no_or, no_ifm, no_mul, nI_add, no_sub, pk_div, iI_if, nI_clamp, oI_n, oI_s, not_true_eq_false, not_false_eq_true, forall_const, true_implies, false_and, and_false, or_false, false_or, Classical.not_not, true_or, or_true, no_b, no_eq1, eq_self, and_self, sk_301, sk_302, sl_302, sp_301, re_10, re_13, re_17, re_n, h17, f9, y, nx_n z9, nW_n z9, rN_n z9, er_n z9, w1_d, re_w17, e3, e4, w1_w] at q))
    | with_reducible refine ev_ci (m_limits1 hok ?_) ?_
    | with_reducible refine ev_ci (m_limits0 hok ?_) ?_
    | with_reducible refine ev_ci (m_go hok (by first | with_reducible assumption | exact RB_mw (by with_reducible assumption)) ?_) ?_
    | with_reducible refine ev_ci (m_readNumber hok (by with_reducible assumption) ?_ (by with_reducible assumption) ?_ ?_) ?_
    | with_reducible refine ev_ci (m_is hok ?_ ?_) ?_
    | with_reducible refine ev_ci (m_faults hok ?_ _) ?_
    | omega
    | with_reducible assumption
    | with_reducible rfl
    | with_reducible refine lp_nx ?_ ?_ ?_ ?_
    | with_reducible refine lp_st ?_ ?_ ?_
    | with_reducible refine ls_c ?_ ?_
    | with_reducible refine vi_c ?_
    | with_reducible refine re_c ?_
    | with_reducible refine vz_c ?_
    | with_reducible refine rz_c ?_
    | exact trivial
    | with_reducible refine And.intro ?_ ?_
    | simp (disch := first | omega | assumption) only [ev_run_c, ev_run_n, ev_fj, ev_stp, ev_lk, ev_fv, ev_as, ev_sz, ev_st1, ev_st2, ev_rm, ev_pk, ev_Jof, ev_go, lv_args, List.map_cons, List.map_nil, List.zip_cons_cons, List.zip_nil_left, List.zip_nil_right, List.nil_append, List.cons_append, ↓reduceIte, reduceCtorEq, Int.reduceToNat, Nat.reduceEqDiff, Nat.reduceAdd, Nat.reduceLT, Nat.reduceLeDiff, Nat.reduceMul, Nat.reduceSub, Value.category, false_implies, true_and, and_true, Bool.false_eq_true, Option.some.injEq, exists_eq_left', Option.toList_some, Option.toList_none, ev_km, ev_k2, ev_k3, ev_k4, ev_k5, ev_l0, ev_l1, sh_1, sh_2, sh_3, sh_4, sh_5, at_X11_readsRepeat_13, at_X11_readsRepeat_14, at_X11_readsRepeat_42, at_X11_readsRepeat_59, at_X11_readsRepeat_86, ca_X11_101, ca_X11_118, ca_X11_146, ca_X11_153, ca_X11_211, ca_X11_98, cd_X11_readsRepeat_0, cd_X11_readsRepeat_13, cd_X11_readsRepeat_14, cd_X11_readsRepeat_42, cd_X11_readsRepeat_59, cd_X11_readsRepeat_86, fl_X11_208, fl_X11_62, fl_X11_76, ev_b_9, no_0, no_1, no_lt, no_le, no_eq, no_lt0, no_ge0, no_gt0, no_le0, no_eq0, no_0eq, no_eqm, no_meq, no_m0, no_mlt, no_mge, no_mgt, no_mm, no_i01, no_i10, no_in, no_or, no_ifm, no_mul, nI_add, no_sub, pk_div, iI_if, nI_clamp, oI_n, oI_s, not_true_eq_false, not_false_eq_true, forall_const, true_implies, false_and, and_false, or_false, false_or, Classical.not_not, true_or, or_true, no_b, no_eq1, eq_self, and_self, sk_301, sk_302, sl_302, sp_301, re_10, re_13, re_17, re_n, h17, f9, y, nx_n z9, nW_n z9, rN_n z9, er_n z9, w1_d, re_w17, e3, e4, w1_w]
    | exact rfl
    | (split <;> omega))
/-- an item -/
theorem ri_of (hok : ev_ok sh_S G) (hks : KS G) (hT : TT B n m μc) {r : Nat} (hrep : RRs G B n m r) : RIs G B n m r := by
  intro N a d bd pl v μ hR hN hI hv ha h17 hdr
  have hh := iv_h hI
  have hk19 := kwi_le B n a
  have ho1 : otm N d (kwi B n a) ≤ 1 := by unfold otm; split <;> omega
  by_cases ho : otm N d (kwi B n a) = 1
  · refine ⟨1, _, a, v, μ, Run_1 rfl nAC_1, ?_, Fw_rf, hv, ?_, ?_, fun _ => EI_1 r⟩
    · rw [stp_o ho]
      show ev_T sh_S G _ _ _ (.inl (none, re B n (er (0, -1) True 4 a B n) a v μ))
      have hcase : (kwi B n a = 1 ∧ 16 ≤ N 0) ∨ (kwi B n a = 3 ∧ 10 ≤ N 1) ∨ (kwi B n a = 18 ∧ 2 ≤ d) := by
        unfold otm at ho
        by_cases c : (kwi B n a = 1 ∧ 16 ≤ N 0) ∨ (kwi B n a = 3 ∧ 10 ≤ N 1) ∨ (kwi B n a = 18 ∧ 2 ≤ d)
        · exact c
        · rw [if_neg c] at ho; cases ho
      rcases hcase with ⟨c1, c2⟩ | ⟨c1, c2⟩ | ⟨c1, c2⟩
      · exact m_item_1 hok hks hR r c1 (rxo_person hok hR hN (by omega))
      · exact m_item_3 hok hks hR r c1 (rxo_pancake hok hR hN hI (by omega) hv)
      · exact m_item_m hok hks hR r (Or.inr (by omega)) (m_more_18 hok hks hR r c1 (rxo_repeat hok hR r (by rw [h17, show d = 2 by omega]) hv))
    · rw [stp_o ho]; exact er_c (by decide) (by decide)
    · intro z
      rw [stp_o ho] at z
      exact absurd (er_yc.symm.trans z) (by decide)
  · have ho0 : otm N d (kwi B n a) = 0 := by omega
    by_cases h18 : kwi B n a = 18
    · obtain ⟨k, t, af, vf, μ2, h1, h2, h3⟩ := hrep N a d bd pl v μ hR hN hI hv ha h17 hdr h18 (by rw [← h18]; exact ho0)
      exact ⟨k, t, af, vf, μ2, h1, m_item_m hok hks hR r (Or.inr (by omega)) (m_more_18 hok hks hR r h18 h2), h3⟩
    · by_cases hbad : kwi B n a = 0 ∨ kwi B n a = 19
      · have hq : qI B n N a (kwi B n a) = er (0, -1) True 1 a B n := by rcases hbad with c | c <;> rw [c] <;> rfl
        refine ⟨1, _, a, v, μ, Run_1 rfl nAC_1, ?_, Fw_rf, hv, ?_, ?_, fun _ => EI_1 r⟩
        · rw [stp_item ho0 h18, hq]
          exact m_item_m hok hks hR r (by omega) (m_more_bad hok hks hR r hbad)
        · rw [stp_item ho0 h18, hq]; exact er_c (by decide) (by decide)
        · intro z
          rw [stp_item ho0 h18, hq] at z
          exact absurd (er_yc.symm.trans z) (by decide)
      · have hk1 : 1 ≤ kwi B n a := by omega
        have hk18 : kwi B n a < 18 := by omega
        obtain ⟨af, vf, μ2, r1, r2, r3, r4⟩ := rx_all hok hR hN hI hv hk18 hk1 ho0
        have ha1 : a + 1 ≤ m := tk_nxt hT ha (fun q => hbad (Or.inr (by unfold kwi; rw [if_neg (by omega)])))
        have hoE := oI9 (N := N) (k := kwi B n a) hT ha1
        refine ⟨1, _, af, vf, μ2, Run_1 rfl nAC_1, ?_, r2, r3, ?_, ?_, fun _ => EI_1 r⟩
        · rw [stp_item ho0 h18]
          exact m_item_s9 hok hks hR r hk18 hk1 rfl r1
        · rw [stp_item ho0 h18]
          exact qI_c
        · intro z
          rw [stp_item ho0 h18] at z ⊢
          have z : (qI B n N a (kwi B n a)).1 = 0 := z
          obtain ⟨g1, g2⟩ := hoE z
          obtain ⟨g3, g4⟩ := r4 z
          refine ⟨⟨rfl, rfl, g1, g3, g4, INI_k hI hk19 ho0 z, g2, fun i _ => ⟨rfl, rfl⟩⟩, ?_⟩
          have hS : Sm B n a (aI9 B n N a (kwi B n a)) := aT_ok hk19 z
          cases r with
          | zero => exact ⟨h18, hS, rfl⟩
          | succ r => exact Or.inl ⟨h18, hS, rfl⟩
end RRec
