/-! ===== the class: its face, changes (by program, wip/whole/genxchg.py) ===== -/
section XChg2
variable {G : ev_G} {N : Nat → Nat} {μ μ' : ev_M} {p : Nat} {σ : ev_A}
theorem PR_sbi (hP : PR p N μ) (hlen : ∀ i, i < 16 → N (8 + 59 * i + 6) ≤ 6) {i q v : Nat} (hi : i < 16) (hq : q < 10) (h0 : N 0 ≤ 16) (h1 : N 1 ≤ 10) : PR p (up N (8 + 59 * i + (13 + q)) v) (w1 μ (p + 10) (i * 10 + q) (nI v)) := by
  have e : ∀ k, k ≠ 8 + 59 * i + (13 + q) → up N (8 + 59 * i + (13 + q)) v k = N k := fun k hk => up_ne hk
  have m : ∀ a k, a ≠ p + 10 → (w1 μ (p + 10) (i * 10 + q) (nI v)).1 a k = μ.1 a k := fun a k h => w1_n (fun z => h z.1)
  have hH := pr_h hP
  have hS := pr_sh hP
  have easc : asc (up N (8 + 59 * i + (13 + q)) v) (up N (8 + 59 * i + (13 + q)) v 0) = asc N (N 0) := by
    rw [e 0 (by omega)]
    refine sm_ext (fun i' hi' => ?_)
    rw [e 1 (by omega)]
    refine sm_ext (fun q' hq' => ?_)
    rw [e _ (by omega)]
  have easm : asm (up N (8 + 59 * i + (13 + q)) v) (up N (8 + 59 * i + (13 + q)) v 0) = asm N (N 0) := by
    rw [e 0 (by omega)]
    refine sm_ext (fun i' hi' => ?_)
    rw [e 1 (by omega)]
    refine sm_ext (fun q' hq' => ?_)
    exact e _ (by omega)
  have enm : ∀ j n, n ≤ 6 → nmL (up N (8 + 59 * i + (13 + q)) v) j n = nmL N j n := fun j n => by
    induction n with
    | zero => exact fun _ => rfl
    | succ n ih =>
      intro hn
      show nmL (up N (8 + 59 * i + (13 + q)) v) j n <<< 8 ||| _ = nmL N j n <<< 8 ||| _
      rw [ih (by omega), e _ (by omega)]
  refine ⟨?_, ?_, ?_, ?_, ?_, ?_, ?_, ?_, ?_, ⟨?_, ?_⟩, ⟨?_, ?_⟩, ?_, ?_⟩
  · rw [e 0 (by omega), e 1 (by omega), e 2 (by omega), e 3 (by omega), e 4 (by omega), e 5 (by omega), m _ _ (by omega), m _ _ (by omega), m _ _ (by omega), m _ _ (by omega), m _ _ (by omega), m _ _ (by omega)]
    exact hH
  · intro j hj; rw [w1_2, e _ (by omega), enm _ _ (hlen j hj)]; exact pr_nm hP j hj
  · intro j hj; rw [m _ _ (by omega), e _ (by omega)]; exact pr_ki hP j hj
  · intro j hj; rw [m _ _ (by omega), e _ (by omega)]; exact pr_li hP j hj
  · intro j hj; rw [m _ _ (by omega), e _ (by omega)]; exact pr_to hP j hj
  · intro j t hj ht; rw [m _ _ (by omega), e _ (by omega)]; exact pr_ta hP j t hj ht
  · intro j t hj ht; rw [m _ _ (by omega), e _ (by omega)]; exact pr_tg hP j t hj ht
  · intro j t hj ht
    by_cases h : j = i ∧ t = q
    · rw [h.1, h.2, w1_s, up_eq rfl]
    · rw [w1_n (by omega), e _ (by omega)]; exact pr_bi hP j t hj ht
  · intro j t hj ht; rw [m _ _ (by omega), e _ (by omega)]; exact pr_de hP j t hj ht
  · intro j hj; rw [m _ _ (by omega), e _ (by omega)]; exact pr_cn hP j hj
  · intro j k hj hk; rw [e _ (by omega)] at hk; rw [m _ _ (by omega), e _ (by omega)]; exact pr_cm hP j k hj hk
  · intro j hj; rw [m _ _ (by omega), e _ (by omega)]; exact pr_sn hP j hj
  · intro j k hj hk; rw [e _ (by omega)] at hk; rw [m _ _ (by omega), e _ (by omega)]; exact pr_sm hP j k hj hk
  · rw [easc, easm, e 6 (by omega), e 7 (by omega), m _ _ (by omega), m _ _ (by omega), m _ _ (by omega), m _ _ (by omega)]
    exact hS
  · intro j t hj ht; rw [m _ _ (by omega), e _ (by omega)]; exact pr_sc hP j t hj ht
theorem PR_sde (hP : PR p N μ) (hlen : ∀ i, i < 16 → N (8 + 59 * i + 6) ≤ 6) {i q v : Nat} (hi : i < 16) (hq : q < 10) (h0 : N 0 ≤ 16) (h1 : N 1 ≤ 10) : PR p (up N (8 + 59 * i + (33 + q)) v) (w1 μ (p + 12) (i * 10 + q) (nI v)) := by
  have e : ∀ k, k ≠ 8 + 59 * i + (33 + q) → up N (8 + 59 * i + (33 + q)) v k = N k := fun k hk => up_ne hk
  have m : ∀ a k, a ≠ p + 12 → (w1 μ (p + 12) (i * 10 + q) (nI v)).1 a k = μ.1 a k := fun a k h => w1_n (fun z => h z.1)
  have hH := pr_h hP
  have hS := pr_sh hP
  have easc : asc (up N (8 + 59 * i + (33 + q)) v) (up N (8 + 59 * i + (33 + q)) v 0) = asc N (N 0) := by
    rw [e 0 (by omega)]
    refine sm_ext (fun i' hi' => ?_)
    rw [e 1 (by omega)]
    refine sm_ext (fun q' hq' => ?_)
    rw [e _ (by omega)]
  have easm : asm (up N (8 + 59 * i + (33 + q)) v) (up N (8 + 59 * i + (33 + q)) v 0) = asm N (N 0) := by
    rw [e 0 (by omega)]
    refine sm_ext (fun i' hi' => ?_)
    rw [e 1 (by omega)]
    refine sm_ext (fun q' hq' => ?_)
    exact e _ (by omega)
  have enm : ∀ j n, n ≤ 6 → nmL (up N (8 + 59 * i + (33 + q)) v) j n = nmL N j n := fun j n => by
    induction n with
    | zero => exact fun _ => rfl
    | succ n ih =>
      intro hn
      show nmL (up N (8 + 59 * i + (33 + q)) v) j n <<< 8 ||| _ = nmL N j n <<< 8 ||| _
      rw [ih (by omega), e _ (by omega)]
  refine ⟨?_, ?_, ?_, ?_, ?_, ?_, ?_, ?_, ?_, ⟨?_, ?_⟩, ⟨?_, ?_⟩, ?_, ?_⟩
  · rw [e 0 (by omega), e 1 (by omega), e 2 (by omega), e 3 (by omega), e 4 (by omega), e 5 (by omega), m _ _ (by omega), m _ _ (by omega), m _ _ (by omega), m _ _ (by omega), m _ _ (by omega), m _ _ (by omega)]
    exact hH
  · intro j hj; rw [w1_2, e _ (by omega), enm _ _ (hlen j hj)]; exact pr_nm hP j hj
  · intro j hj; rw [m _ _ (by omega), e _ (by omega)]; exact pr_ki hP j hj
  · intro j hj; rw [m _ _ (by omega), e _ (by omega)]; exact pr_li hP j hj
  · intro j hj; rw [m _ _ (by omega), e _ (by omega)]; exact pr_to hP j hj
  · intro j t hj ht; rw [m _ _ (by omega), e _ (by omega)]; exact pr_ta hP j t hj ht
  · intro j t hj ht; rw [m _ _ (by omega), e _ (by omega)]; exact pr_tg hP j t hj ht
  · intro j t hj ht; rw [m _ _ (by omega), e _ (by omega)]; exact pr_bi hP j t hj ht
  · intro j t hj ht
    by_cases h : j = i ∧ t = q
    · rw [h.1, h.2, w1_s, up_eq rfl]
    · rw [w1_n (by omega), e _ (by omega)]; exact pr_de hP j t hj ht
  · intro j hj; rw [m _ _ (by omega), e _ (by omega)]; exact pr_cn hP j hj
  · intro j k hj hk; rw [e _ (by omega)] at hk; rw [m _ _ (by omega), e _ (by omega)]; exact pr_cm hP j k hj hk
  · intro j hj; rw [m _ _ (by omega), e _ (by omega)]; exact pr_sn hP j hj
  · intro j k hj hk; rw [e _ (by omega)] at hk; rw [m _ _ (by omega), e _ (by omega)]; exact pr_sm hP j k hj hk
  · rw [easc, easm, e 6 (by omega), e 7 (by omega), m _ _ (by omega), m _ _ (by omega), m _ _ (by omega), m _ _ (by omega)]
    exact hS
  · intro j t hj ht; rw [m _ _ (by omega), e _ (by omega)]; exact pr_sc hP j t hj ht
theorem hq_3 : sh_pt 0 3 = 34 := by decide +kernel
theorem hq_5 : sh_pt 0 5 = 78 := by decide +kernel
/-- the reference's side is as it was -/
def Fc (μ μ' : ev_M) : Prop := ∀ a k, 301 ≤ a → μ'.1 a k = μ.1 a k ∧ μ'.2.1 a k = μ.2.1 a k ∧ μ'.2.2 a k = μ.2.2 a k
theorem Fc_rf : Fc μ μ := fun _ _ _ => ⟨rfl, rfl, rfl⟩
theorem Fc_tr {μ'' : ev_M} (h : Fc μ μ') (h2 : Fc μ' μ'') : Fc μ μ'' := fun a k h3 => ⟨(h2 a k h3).1.trans (h a k h3).1, (h2 a k h3).2.1.trans (h a k h3).2.1, (h2 a k h3).2.2.trans (h a k h3).2.2⟩
theorem Fc_x (h : Fx μ μ') : Fc μ μ' := fun a k h3 => ⟨(h.1 a k (by omega)).1, (h.1 a k (by omega)).2, by rw [h.2]⟩
theorem Fc_rem {n : Nat} (hH : HR μ) : Fc μ (x_rem p n μ) := fun a k h3 => by
  have g := hH.1 7 (by omega)
  exact ⟨rem_n (by omega) (by omega), rem_l (by omega), by rw [rem_2, rmA_n (by omega)]⟩
def x_res (y : ev_Mi) (args : List Value) (μ : ev_M) (G : ev_G) (r : Nat × Int32 × ev_A) : Prop := ∃ μ', ev_T sh_S G y args μ (xR r.1 r.2.1 μ') ∧ XS r.2.2 μ' ∧ Fc μ μ'
theorem x_fail {y : ev_Mi} {args : List Value} (h : XS σ μ) (t : Nat) (ht : ev_T sh_S G y args μ (xR t (nI 0) μ)) : x_res y args μ G (t, nI 0, σ) := ⟨μ, ht, h, Fc_rf⟩
/-- the panel, remembered: what is called, and what then holds -/
theorem x_rmd (hok : ev_ok sh_S G) (h : XS σ μ) (hA : OKA σ) (he : aE σ = 1) : ∃ p, p = 34 ∧ p ∈ sh_B ∧ sh_pt 0 3 = p ∧ PR p (aN σ) μ ∧ μ.1 p 0 = nI 1 ∧ ev_T sh_S G mi_X2_remember [.ref 78, .ref p] μ (.inl (none, x_rem p (aK σ) μ)) ∧ XS (chS σ (aN σ)) (x_rem p (aK σ) μ) ∧ PR p (aN σ) (x_rem p (aK σ) μ) ∧ Fc μ (x_rem p (aK σ) μ) := by
  have h1 := XS_rem h hA he
  obtain ⟨⟨hP, h2⟩, hX, -⟩ := h
  rw [he] at h2
  exact ⟨34, rfl, sh_34, hq_3, hP, h2, m_X2_remember hok hX.1 sh_34 (by omega) (Or.inr h2) hA.2.2.1 hX.2.1, h1, h1.1.1, Fc_rem hX.1⟩
theorem XS_0 (h : XS σ μ) (he : aE σ = 0) : ∃ p, p = 34 ∧ p ∈ sh_B ∧ sh_pt 0 3 = p ∧ μ.1 p 0 = nI 0 := ⟨34, rfl, sh_34, hq_3, by rw [h.1.2, he]⟩
theorem XS_new {N' : Nat → Nat} {μ'' : ev_M} (h : XS (chS σ (aN σ)) μ') (hf : Fx μ' μ'') (hP : PR 34 N' μ'') (he : μ''.1 34 0 = μ'.1 34 0) : XS (chS σ N') μ'' := XS_pan h (Nat.min_le_right _ _) hf hP he

set_option maxHeartbeats 2000000 in
theorem x_X10_bid (hok : ev_ok sh_S G) (h : XS σ μ) (hA : OKA σ) (x y z : Int32) : x_res mi_X10_bid [.ref 0, .int x, .int y, .int z] μ G (s_bid σ x y z) := by
  have he2 : aE σ < 2 := hA.2.1
  have hI : INV (aN σ) := hA.1
  have hh := iv_h hI
  unfold s_bid
  rcases (show aE σ = 0 ∨ aE σ = 1 by omega) with e0 | e1
  · rw [if_pos e0]
    obtain ⟨p, hpe, hp, hpp, he⟩ := XS_0 h e0
    have hlt := xp_lt hp
    refine x_fail h 1 ?_
    rw [xR_1]
    refine ev_tri hok okM_X10_bid (Nat.le_of_ble_eq_true rfl) 400 ?_
    rw [at_X10_bid_0]
    repeat' (first
      | (with_reducible refine ev_rid ?_; simp (disch := first | omega | assumption) only [ev_run_c, ev_run_n, ev_fj, ev_stp, ev_lk, ev_fv, ev_as, ev_sz, ev_st1, ev_st2, ev_rm, ev_pk, ev_Jof, ev_go, lv_args, List.map_cons, List.map_nil, List.zip_cons_cons, List.zip_nil_left, List.zip_nil_right, List.nil_append, List.cons_append, ↓reduceIte, reduceCtorEq, Int.reduceToNat, Nat.reduceEqDiff, Nat.reduceAdd, Nat.reduceLT, Nat.reduceLeDiff, Nat.reduceMul, Nat.reduceSub, Value.category, false_implies, true_and, and_true, Bool.false_eq_true, Option.some.injEq, exists_eq_left', Option.toList_some, Option.toList_none, ev_km, ev_k2, ev_k3, ev_k4, ev_k5, ev_l0, ev_l1, sh_1, sh_2, sh_3, sh_4, sh_5, at_X10_bid_26, at_X10_bid_37, ca_X10_146, ca_X10_159, ca_X10_164, ca_X10_312, ca_X10_315, cd_X10_bid_0, cd_X10_bid_26, cd_X10_bid_37, fl_X10_168, fl_X10_31, fl_X10_41, th_X10_70, no_0, no_1, no_lt, no_le, no_eq, no_lt0, no_ge0, no_gt0, no_le0, no_eq0, no_0eq, no_eqm, no_meq, no_m0, no_mlt, no_mge, no_mgt, no_mm, no_i01, no_i10, no_in, no_or, no_ifm, no_mul, nI_add, no_sub, pk_div, iI_if, nI_clamp, oI_n, oI_s, not_true_eq_false, not_false_eq_true, forall_const, true_implies, false_and, and_false, or_false, false_or, Classical.not_not, true_or, or_true, no_b, no_eq1, eq_self, and_self, xk_0 hp, xk_1 hp, xk_2 hp, xk_3 hp, xk_4 hp, xk_5 hp, xk_6 hp, xk_7 hp, xk_8 hp, xk_9 hp, xk_10 hp, xk_11 hp, xk_12 hp, xk_13 hp, xk_14 hp, xk_15 hp, xk_16 hp, xk_17 hp, xk_18 hp, xk_19 hp, xk_20 hp, xk_21 hp, xl_1 hp, xl_2 hp, xl_3 hp, xl_4 hp, xl_6 hp, xl_8 hp, xl_10 hp, xl_12 hp, xl_14 hp, xl_15 hp, xl_17 hp, xl_18 hp, xl_21 hp, xp_7 hp, xp_8 hp, xp_9 hp, xp_10 hp, xp_11 hp, xp_12 hp, xp_13 hp, xp_14 hp, xp_15 hp, xp_16 hp, xp_17 hp, xp_t5 hp, xp_t7 hp, xp_t9 hp, xp_t11 hp, xp_t20 hp, xp_s19 hp, xp_a13 hp, xp_b13 hp, xp_a16 hp, xp_b16 hp, xc_r5 hp, xc_c5 hp, xc_r7 hp, xc_c7 hp, xc_r9 hp, xc_c9 hp, xc_r11 hp, xc_c11 hp, xc_r20 hp, xc_c20 hp, no_on, sk_0, hpp])
      | (with_reducible refine ev_gid ?_; simp (disch := first | omega | assumption) only [ev_run_c, ev_run_n, ev_fj, ev_stp, ev_lk, ev_fv, ev_as, ev_sz, ev_st1, ev_st2, ev_rm, ev_pk, ev_Jof, ev_go, lv_args, List.map_cons, List.map_nil, List.zip_cons_cons, List.zip_nil_left, List.zip_nil_right, List.nil_append, List.cons_append, ↓reduceIte, reduceCtorEq, Int.reduceToNat, Nat.reduceEqDiff, Nat.reduceAdd, Nat.reduceLT, Nat.reduceLeDiff, Nat.reduceMul, Nat.reduceSub, Value.category, false_implies, true_and, and_true, Bool.false_eq_true, Option.some.injEq, exists_eq_left', Option.toList_some, Option.toList_none, ev_km, ev_k2, ev_k3, ev_k4, ev_k5, ev_l0, ev_l1, sh_1, sh_2, sh_3, sh_4, sh_5, at_X10_bid_26, at_X10_bid_37, ca_X10_146, ca_X10_159, ca_X10_164, ca_X10_312, ca_X10_315, cd_X10_bid_0, cd_X10_bid_26, cd_X10_bid_37, fl_X10_168, fl_X10_31, fl_X10_41, th_X10_70, no_0, no_1, no_lt, no_le, no_eq, no_lt0, no_ge0, no_gt0, no_le0, no_eq0, no_0eq, no_eqm, no_meq, no_m0, no_mlt, no_mge, no_mgt, no_mm, no_i01, no_i10, no_in, no_or, no_ifm, no_mul, nI_add, no_sub, pk_div, iI_if, nI_clamp, oI_n, oI_s, not_true_eq_false, not_false_eq_true, forall_const, true_implies, false_and, and_false, or_false, false_or, Classical.not_not, true_or, or_true, no_b, no_eq1, eq_self, and_self, xk_0 hp, xk_1 hp, xk_2 hp, xk_3 hp, xk_4 hp, xk_5 hp, xk_6 hp, xk_7 hp, xk_8 hp, xk_9 hp, xk_10 hp, xk_11 hp, xk_12 hp, xk_13 hp, xk_14 hp, xk_15 hp, xk_16 hp, xk_17 hp, xk_18 hp, xk_19 hp, xk_20 hp, xk_21 hp, xl_1 hp, xl_2 hp, xl_3 hp, xl_4 hp, xl_6 hp, xl_8 hp, xl_10 hp, xl_12 hp, xl_14 hp, xl_15 hp, xl_17 hp, xl_18 hp, xl_21 hp, xp_7 hp, xp_8 hp, xp_9 hp, xp_10 hp, xp_11 hp, xp_12 hp, xp_13 hp, xp_14 hp, xp_15 hp, xp_16 hp, xp_17 hp, xp_t5 hp, xp_t7 hp, xp_t9 hp, xp_t11 hp, xp_t20 hp, xp_s19 hp, xp_a13 hp, xp_b13 hp, xp_a16 hp, xp_b16 hp, xc_r5 hp, xc_c5 hp, xc_r7 hp, xc_c7 hp, xc_r9 hp, xc_c9 hp, xc_r11 hp, xc_c11 hp, xc_r20 hp, xc_c20 hp, no_on, sk_0, hpp])
      | (with_reducible refine And.intro (fun q => ?_) (fun q => ?_) <;> (try simp (disch := first | omega | assumption) only [no_0, no_1, no_lt, no_le, no_eq, no_lt0, no_ge0, no_gt0, no_le0, no_eq0, no_0eq, no_eqm, no_meq, no_m0, no_mlt, no_mge, no_mgt, no_mm, no_i01, no_i10, no_in, no_or, no_ifm, no_mul, nI_add, no_sub, pk_div, iI_if, nI_clamp, oI_n, oI_s, not_true_eq_false, not_false_eq_true, forall_const, true_implies, false_and, and_false, or_false, false_or, Classical.not_not, true_or, or_true, no_b, no_eq1, eq_self, and_self, xk_0 hp, xk_1 hp, xk_2 hp, xk_3 hp, xk_4 hp, xk_5 hp, xk_6 hp, xk_7 hp, xk_8 hp, xk_9 hp, xk_10 hp, xk_11 hp, xk_12 hp, xk_13 hp, xk_14 hp, xk_15 hp, xk_16 hp, xk_17 hp, xk_18 hp, xk_19 hp, xk_20 hp, xk_21 hp, xl_1 hp, xl_2 hp, xl_3 hp, xl_4 hp, xl_6 hp, xl_8 hp, xl_10 hp, xl_12 hp, xl_14 hp, xl_15 hp, xl_17 hp, xl_18 hp, xl_21 hp, xp_7 hp, xp_8 hp, xp_9 hp, xp_10 hp, xp_11 hp, xp_12 hp, xp_13 hp, xp_14 hp, xp_15 hp, xp_16 hp, xp_17 hp, xp_t5 hp, xp_t7 hp, xp_t9 hp, xp_t11 hp, xp_t20 hp, xp_s19 hp, xp_a13 hp, xp_b13 hp, xp_a16 hp, xp_b16 hp, xc_r5 hp, xc_c5 hp, xc_r7 hp, xc_c7 hp, xc_r9 hp, xc_c9 hp, xc_r11 hp, xc_c11 hp, xc_r20 hp, xc_c20 hp, no_on, sk_0, hpp] at q))
      | with_reducible refine ev_cx (m_X10_requirePair_0 hok hp hpp (by with_reducible assumption) _ _) ?_
      | with_reducible refine ev_cx (m_X10_requirePair_n hok hp hpp (by with_reducible assumption) (by with_reducible assumption) (by with_reducible assumption)) ?_
      | with_reducible refine ev_cx (m_X10_requirePair_m hok hp hpp (by with_reducible assumption) (by with_reducible assumption) ?_ ?_ (by with_reducible assumption)) ?_
      | with_reducible refine ev_ci (m_X10_requirePair_s hok hp hpp (by with_reducible assumption) (by with_reducible assumption) ?_ ?_ ?_ ?_) ?_
      | with_reducible refine ev_ci (m_X4_isOneOfTasters hok hp (by with_reducible assumption) (by with_reducible assumption) ?_) ?_
      | with_reducible refine ev_ci (m_get_sc hok hp (by with_reducible assumption) ?_ ?_) ?_
      | with_reducible refine ev_ci (m_get_de hok hp (by with_reducible assumption) ?_ ?_) ?_
      | with_reducible refine ev_ci (m_get_bi hok hp (by with_reducible assumption) ?_ ?_) ?_
      | with_reducible refine ev_ci (m_get_tg hok hp (by with_reducible assumption) ?_ ?_) ?_
      | with_reducible refine ev_ci (m_get_ta hok hp (by with_reducible assumption) ?_ ?_) ?_
      | with_reducible refine ev_ci (m_X8_set hok (sh_T20 hp) (xp_t20 hp) ?_ ?_ _) ?_
      | omega
      | with_reducible assumption
      | with_reducible rfl
      | (refine Nat.lt_of_lt_of_le ?_ (Nat.le_refl 312); omega)
      | with_reducible refine lp_nx ?_ ?_ ?_ ?_
      | with_reducible refine lp_st ?_ ?_ ?_
      | with_reducible refine ls_c ?_ ?_
      | with_reducible refine vi_c ?_
      | with_reducible refine re_c ?_
      | with_reducible refine vz_c ?_
      | with_reducible refine rz_c ?_
      | exact trivial
      | with_reducible refine And.intro ?_ ?_
      | simp (disch := first | omega | assumption) only [ev_run_c, ev_run_n, ev_fj, ev_stp, ev_lk, ev_fv, ev_as, ev_sz, ev_st1, ev_st2, ev_rm, ev_pk, ev_Jof, ev_go, lv_args, List.map_cons, List.map_nil, List.zip_cons_cons, List.zip_nil_left, List.zip_nil_right, List.nil_append, List.cons_append, ↓reduceIte, reduceCtorEq, Int.reduceToNat, Nat.reduceEqDiff, Nat.reduceAdd, Nat.reduceLT, Nat.reduceLeDiff, Nat.reduceMul, Nat.reduceSub, Value.category, false_implies, true_and, and_true, Bool.false_eq_true, Option.some.injEq, exists_eq_left', Option.toList_some, Option.toList_none, ev_km, ev_k2, ev_k3, ev_k4, ev_k5, ev_l0, ev_l1, sh_1, sh_2, sh_3, sh_4, sh_5, at_X10_bid_26, at_X10_bid_37, ca_X10_146, ca_X10_159, ca_X10_164, ca_X10_312, ca_X10_315, cd_X10_bid_0, cd_X10_bid_26, cd_X10_bid_37, fl_X10_168, fl_X10_31, fl_X10_41, th_X10_70, no_0, no_1, no_lt, no_le, no_eq, no_lt0, no_ge0, no_gt0, no_le0, no_eq0, no_0eq, no_eqm, no_meq, no_m0, no_mlt, no_mge, no_mgt, no_mm, no_i01, no_i10, no_in, no_or, no_ifm, no_mul, nI_add, no_sub, pk_div, iI_if, nI_clamp, oI_n, oI_s, not_true_eq_false, not_false_eq_true, forall_const, true_implies, false_and, and_false, or_false, false_or, Classical.not_not, true_or, or_true, no_b, no_eq1, eq_self, and_self, xk_0 hp, xk_1 hp, xk_2 hp, xk_3 hp, xk_4 hp, xk_5 hp, xk_6 hp, xk_7 hp, xk_8 hp, xk_9 hp, xk_10 hp, xk_11 hp, xk_12 hp, xk_13 hp, xk_14 hp, xk_15 hp, xk_16 hp, xk_17 hp, xk_18 hp, xk_19 hp, xk_20 hp, xk_21 hp, xl_1 hp, xl_2 hp, xl_3 hp, xl_4 hp, xl_6 hp, xl_8 hp, xl_10 hp, xl_12 hp, xl_14 hp, xl_15 hp, xl_17 hp, xl_18 hp, xl_21 hp, xp_7 hp, xp_8 hp, xp_9 hp, xp_10 hp, xp_11 hp, xp_12 hp, xp_13 hp, xp_14 hp, xp_15 hp, xp_16 hp, xp_17 hp, xp_t5 hp, xp_t7 hp, xp_t9 hp, xp_t11 hp, xp_t20 hp, xp_s19 hp, xp_a13 hp, xp_b13 hp, xp_a16 hp, xp_b16 hp, xc_r5 hp, xc_c5 hp, xc_r7 hp, xc_c7 hp, xc_r9 hp, xc_c9 hp, xc_r11 hp, xc_c11 hp, xc_r20 hp, xc_c20 hp, no_on, sk_0, hpp]
      | exact rfl
      | (split <;> omega))
  · rw [if_neg (by omega)]
    obtain ⟨p, hpe, hp, hpp, hP, he, er, hX1, hP1, hF1⟩ := x_rmd hok h hA e1
    have hlt := xp_lt hp
    have hH := pr_h hP
    have hH1 := pr_h hP1
    cases h1 : rx (aN σ 0) x with
    | none =>
      refine x_fail h 2 ?_
      rw [xR_2]
      refine ev_tri hok okM_X10_bid (Nat.le_of_ble_eq_true rfl) 400 ?_
      rw [at_X10_bid_0]
      repeat' (first
        | (with_reducible refine ev_rid ?_; simp (disch := first | omega | assumption) only [ev_run_c, ev_run_n, ev_fj, ev_stp, ev_lk, ev_fv, ev_as, ev_sz, ev_st1, ev_st2, ev_rm, ev_pk, ev_Jof, ev_go, lv_args, List.map_cons, List.map_nil, List.zip_cons_cons, List.zip_nil_left, List.zip_nil_right, List.nil_append, List.cons_append, ↓reduceIte, reduceCtorEq, Int.reduceToNat, Nat.reduceEqDiff, Nat.reduceAdd, Nat.reduceLT, Nat.reduceLeDiff, Nat.reduceMul, Nat.reduceSub, Value.category, false_implies, true_and, and_true, Bool.false_eq_true, Option.some.injEq, exists_eq_left', Option.toList_some, Option.toList_none, ev_km, ev_k2, ev_k3, ev_k4, ev_k5, ev_l0, ev_l1, sh_1, sh_2, sh_3, sh_4, sh_5, at_X10_bid_26, at_X10_bid_37, ca_X10_146, ca_X10_159, ca_X10_164, ca_X10_312, ca_X10_315, cd_X10_bid_0, cd_X10_bid_26, cd_X10_bid_37, fl_X10_168, fl_X10_31, fl_X10_41, th_X10_70, no_0, no_1, no_lt, no_le, no_eq, no_lt0, no_ge0, no_gt0, no_le0, no_eq0, no_0eq, no_eqm, no_meq, no_m0, no_mlt, no_mge, no_mgt, no_mm, no_i01, no_i10, no_in, no_or, no_ifm, no_mul, nI_add, no_sub, pk_div, iI_if, nI_clamp, oI_n, oI_s, not_true_eq_false, not_false_eq_true, forall_const, true_implies, false_and, and_false, or_false, false_or, Classical.not_not, true_or, or_true, no_b, no_eq1, eq_self, and_self, xk_0 hp, xk_1 hp, xk_2 hp, xk_3 hp, xk_4 hp, xk_5 hp, xk_6 hp, xk_7 hp, xk_8 hp, xk_9 hp, xk_10 hp, xk_11 hp, xk_12 hp, xk_13 hp, xk_14 hp, xk_15 hp, xk_16 hp, xk_17 hp, xk_18 hp, xk_19 hp, xk_20 hp, xk_21 hp, xl_1 hp, xl_2 hp, xl_3 hp, xl_4 hp, xl_6 hp, xl_8 hp, xl_10 hp, xl_12 hp, xl_14 hp, xl_15 hp, xl_17 hp, xl_18 hp, xl_21 hp, xp_7 hp, xp_8 hp, xp_9 hp, xp_10 hp, xp_11 hp, xp_12 hp, xp_13 hp, xp_14 hp, xp_15 hp, xp_16 hp, xp_17 hp, xp_t5 hp, xp_t7 hp, xp_t9 hp, xp_t11 hp, xp_t20 hp, xp_s19 hp, xp_a13 hp, xp_b13 hp, xp_a16 hp, xp_b16 hp, xc_r5 hp, xc_c5 hp, xc_r7 hp, xc_c7 hp, xc_r9 hp, xc_c9 hp, xc_r11 hp, xc_c11 hp, xc_r20 hp, xc_c20 hp, no_on, sk_0, hpp])
        | (with_reducible refine ev_gid ?_; simp (disch := first | omega | assumption) only [ev_run_c, ev_run_n, ev_fj, ev_stp, ev_lk, ev_fv, ev_as, ev_sz, ev_st1, ev_st2, ev_rm, ev_pk, ev_Jof, ev_go, lv_args, List.map_cons, List.map_nil, List.zip_cons_cons, List.zip_nil_left, List.zip_nil_right, List.nil_append, List.cons_append, ↓reduceIte, reduceCtorEq, Int.reduceToNat, Nat.reduceEqDiff, Nat.reduceAdd, Nat.reduceLT, Nat.reduceLeDiff, Nat.reduceMul, Nat.reduceSub, Value.category, false_implies, true_and, and_true, Bool.false_eq_true, Option.some.injEq, exists_eq_left', Option.toList_some, Option.toList_none, ev_km, ev_k2, ev_k3, ev_k4, ev_k5, ev_l0, ev_l1, sh_1, sh_2, sh_3, sh_4, sh_5, at_X10_bid_26, at_X10_bid_37, ca_X10_146, ca_X10_159, ca_X10_164, ca_X10_312, ca_X10_315, cd_X10_bid_0, cd_X10_bid_26, cd_X10_bid_37, fl_X10_168, fl_X10_31, fl_X10_41, th_X10_70, no_0, no_1, no_lt, no_le, no_eq, no_lt0, no_ge0, no_gt0, no_le0, no_eq0, no_0eq, no_eqm, no_meq, no_m0, no_mlt, no_mge, no_mgt, no_mm, no_i01, no_i10, no_in, no_or, no_ifm, no_mul, nI_add, no_sub, pk_div, iI_if, nI_clamp, oI_n, oI_s, not_true_eq_false, not_false_eq_true, forall_const, true_implies, false_and, and_false, or_false, false_or, Classical.not_not, true_or, or_true, no_b, no_eq1, eq_self, and_self, xk_0 hp, xk_1 hp, xk_2 hp, xk_3 hp, xk_4 hp, xk_5 hp, xk_6 hp, xk_7 hp, xk_8 hp, xk_9 hp, xk_10 hp, xk_11 hp, xk_12 hp, xk_13 hp, xk_14 hp, xk_15 hp, xk_16 hp, xk_17 hp, xk_18 hp, xk_19 hp, xk_20 hp, xk_21 hp, xl_1 hp, xl_2 hp, xl_3 hp, xl_4 hp, xl_6 hp, xl_8 hp, xl_10 hp, xl_12 hp, xl_14 hp, xl_15 hp, xl_17 hp, xl_18 hp, xl_21 hp, xp_7 hp, xp_8 hp, xp_9 hp, xp_10 hp, xp_11 hp, xp_12 hp, xp_13 hp, xp_14 hp, xp_15 hp, xp_16 hp, xp_17 hp, xp_t5 hp, xp_t7 hp, xp_t9 hp, xp_t11 hp, xp_t20 hp, xp_s19 hp, xp_a13 hp, xp_b13 hp, xp_a16 hp, xp_b16 hp, xc_r5 hp, xc_c5 hp, xc_r7 hp, xc_c7 hp, xc_r9 hp, xc_c9 hp, xc_r11 hp, xc_c11 hp, xc_r20 hp, xc_c20 hp, no_on, sk_0, hpp])
        | (with_reducible refine And.intro (fun q => ?_) (fun q => ?_) <;> (try simp (disch := first | omega | assumption) only [no_0, no_1, no_lt, no_le, no_eq, no_lt0, no_ge0, no_gt0, no_le0, no_eq0, no_0eq, no_eqm, no_meq, no_m0, no_mlt, no_mge, no_mgt, no_mm, no_i01, no_i10, no_in, no_or, no_ifm, no_mul, nI_add, no_sub, pk_div, iI_if, nI_clamp, oI_n, oI_s, not_true_eq_false, not_false_eq_true, forall_const, true_implies, false_and, and_false, or_false, false_or, Classical.not_not, true_or, or_true, no_b, no_eq1, eq_self, and_self, xk_0 hp, xk_1 hp, xk_2 hp, xk_3 hp, xk_4 hp, xk_5 hp, xk_6 hp, xk_7 hp, xk_8 hp, xk_9 hp, xk_10 hp, xk_11 hp, xk_12 hp, xk_13 hp, xk_14 hp, xk_15 hp, xk_16 hp, xk_17 hp, xk_18 hp, xk_19 hp, xk_20 hp, xk_21 hp, xl_1 hp, xl_2 hp, xl_3 hp, xl_4 hp, xl_6 hp, xl_8 hp, xl_10 hp, xl_12 hp, xl_14 hp, xl_15 hp, xl_17 hp, xl_18 hp, xl_21 hp, xp_7 hp, xp_8 hp, xp_9 hp, xp_10 hp, xp_11 hp, xp_12 hp, xp_13 hp, xp_14 hp, xp_15 hp, xp_16 hp, xp_17 hp, xp_t5 hp, xp_t7 hp, xp_t9 hp, xp_t11 hp, xp_t20 hp, xp_s19 hp, xp_a13 hp, xp_b13 hp, xp_a16 hp, xp_b16 hp, xc_r5 hp, xc_c5 hp, xc_r7 hp, xc_c7 hp, xc_r9 hp, xc_c9 hp, xc_r11 hp, xc_c11 hp, xc_r20 hp, xc_c20 hp, no_on, sk_0, hpp] at q))
        | with_reducible refine ev_cx (m_X10_requirePair_0 hok hp hpp (by with_reducible assumption) _ _) ?_
        | with_reducible refine ev_cx (m_X10_requirePair_n hok hp hpp (by with_reducible assumption) (by with_reducible assumption) (by with_reducible assumption)) ?_
        | with_reducible refine ev_cx (m_X10_requirePair_m hok hp hpp (by with_reducible assumption) (by with_reducible assumption) ?_ ?_ (by with_reducible assumption)) ?_
        | with_reducible refine ev_ci (m_X10_requirePair_s hok hp hpp (by with_reducible assumption) (by with_reducible assumption) ?_ ?_ ?_ ?_) ?_
        | with_reducible refine ev_ci (m_X4_isOneOfTasters hok hp (by with_reducible assumption) (by with_reducible assumption) ?_) ?_
        | with_reducible refine ev_ci (m_get_sc hok hp (by with_reducible assumption) ?_ ?_) ?_
        | with_reducible refine ev_ci (m_get_de hok hp (by with_reducible assumption) ?_ ?_) ?_
        | with_reducible refine ev_ci (m_get_bi hok hp (by with_reducible assumption) ?_ ?_) ?_
        | with_reducible refine ev_ci (m_get_tg hok hp (by with_reducible assumption) ?_ ?_) ?_
        | with_reducible refine ev_ci (m_get_ta hok hp (by with_reducible assumption) ?_ ?_) ?_
        | with_reducible refine ev_ci (m_X8_set hok (sh_T20 hp) (xp_t20 hp) ?_ ?_ _) ?_
        | omega
        | with_reducible assumption
        | with_reducible rfl
        | (refine Nat.lt_of_lt_of_le ?_ (Nat.le_refl 312); omega)
        | with_reducible refine lp_nx ?_ ?_ ?_ ?_
        | with_reducible refine lp_st ?_ ?_ ?_
        | with_reducible refine ls_c ?_ ?_
        | with_reducible refine vi_c ?_
        | with_reducible refine re_c ?_
        | with_reducible refine vz_c ?_
        | with_reducible refine rz_c ?_
        | exact trivial
        | with_reducible refine And.intro ?_ ?_
        | simp (disch := first | omega | assumption) only [ev_run_c, ev_run_n, ev_fj, ev_stp, ev_lk, ev_fv, ev_as, ev_sz, ev_st1, ev_st2, ev_rm, ev_pk, ev_Jof, ev_go, lv_args, List.map_cons, List.map_nil, List.zip_cons_cons, List.zip_nil_left, List.zip_nil_right, List.nil_append, List.cons_append, ↓reduceIte, reduceCtorEq, Int.reduceToNat, Nat.reduceEqDiff, Nat.reduceAdd, Nat.reduceLT, Nat.reduceLeDiff, Nat.reduceMul, Nat.reduceSub, Value.category, false_implies, true_and, and_true, Bool.false_eq_true, Option.some.injEq, exists_eq_left', Option.toList_some, Option.toList_none, ev_km, ev_k2, ev_k3, ev_k4, ev_k5, ev_l0, ev_l1, sh_1, sh_2, sh_3, sh_4, sh_5, at_X10_bid_26, at_X10_bid_37, ca_X10_146, ca_X10_159, ca_X10_164, ca_X10_312, ca_X10_315, cd_X10_bid_0, cd_X10_bid_26, cd_X10_bid_37, fl_X10_168, fl_X10_31, fl_X10_41, th_X10_70, no_0, no_1, no_lt, no_le, no_eq, no_lt0, no_ge0, no_gt0, no_le0, no_eq0, no_0eq, no_eqm, no_meq, no_m0, no_mlt, no_mge, no_mgt, no_mm, no_i01, no_i10, no_in, no_or, no_ifm, no_mul, nI_add, no_sub, pk_div, iI_if, nI_clamp, oI_n, oI_s, not_true_eq_false, not_false_eq_true, forall_const, true_implies, false_and, and_false, or_false, false_or, Classical.not_not, true_or, or_true, no_b, no_eq1, eq_self, and_self, xk_0 hp, xk_1 hp, xk_2 hp, xk_3 hp, xk_4 hp, xk_5 hp, xk_6 hp, xk_7 hp, xk_8 hp, xk_9 hp, xk_10 hp, xk_11 hp, xk_12 hp, xk_13 hp, xk_14 hp, xk_15 hp, xk_16 hp, xk_17 hp, xk_18 hp, xk_19 hp, xk_20 hp, xk_21 hp, xl_1 hp, xl_2 hp, xl_3 hp, xl_4 hp, xl_6 hp, xl_8 hp, xl_10 hp, xl_12 hp, xl_14 hp, xl_15 hp, xl_17 hp, xl_18 hp, xl_21 hp, xp_7 hp, xp_8 hp, xp_9 hp, xp_10 hp, xp_11 hp, xp_12 hp, xp_13 hp, xp_14 hp, xp_15 hp, xp_16 hp, xp_17 hp, xp_t5 hp, xp_t7 hp, xp_t9 hp, xp_t11 hp, xp_t20 hp, xp_s19 hp, xp_a13 hp, xp_b13 hp, xp_a16 hp, xp_b16 hp, xc_r5 hp, xc_c5 hp, xc_r7 hp, xc_c7 hp, xc_r9 hp, xc_c9 hp, xc_r11 hp, xc_c11 hp, xc_r20 hp, xc_c20 hp, no_on, sk_0, hpp]
        | exact rfl
        | (split <;> omega))
    | some i =>
      obtain ⟨hi, e5⟩ := rx_s (by omega) h1
      cases h2 : rx (aN σ 1) y with
      | none =>
        refine x_fail h 2 ?_
        rw [xR_2]
        subst e5
        refine ev_tri hok okM_X10_bid (Nat.le_of_ble_eq_true rfl) 400 ?_
        rw [at_X10_bid_0]
        repeat' (first
          | (with_reducible refine ev_rid ?_; simp (disch := first | omega | assumption) only [ev_run_c, ev_run_n, ev_fj, ev_stp, ev_lk, ev_fv, ev_as, ev_sz, ev_st1, ev_st2, ev_rm, ev_pk, ev_Jof, ev_go, lv_args, List.map_cons, List.map_nil, List.zip_cons_cons, List.zip_nil_left, List.zip_nil_right, List.nil_append, List.cons_append, ↓reduceIte, reduceCtorEq, Int.reduceToNat, Nat.reduceEqDiff, Nat.reduceAdd, Nat.reduceLT, Nat.reduceLeDiff, Nat.reduceMul, Nat.reduceSub, Value.category, false_implies, true_and, and_true, Bool.false_eq_true, Option.some.injEq, exists_eq_left', Option.toList_some, Option.toList_none, ev_km, ev_k2, ev_k3, ev_k4, ev_k5, ev_l0, ev_l1, sh_1, sh_2, sh_3, sh_4, sh_5, at_X10_bid_26, at_X10_bid_37, ca_X10_146, ca_X10_159, ca_X10_164, ca_X10_312, ca_X10_315, cd_X10_bid_0, cd_X10_bid_26, cd_X10_bid_37, fl_X10_168, fl_X10_31, fl_X10_41, th_X10_70, no_0, no_1, no_lt, no_le, no_eq, no_lt0, no_ge0, no_gt0, no_le0, no_eq0, no_0eq, no_eqm, no_meq, no_m0, no_mlt, no_mge, no_mgt, no_mm, no_i01, no_i10, no_in, no_or, no_ifm, no_mul, nI_add, no_sub, pk_div, iI_if, nI_clamp, oI_n, oI_s, not_true_eq_false, not_false_eq_true, forall_const, true_implies, false_and, and_false, or_false, false_or, Classical.not_not, true_or, or_true, no_b, no_eq1, eq_self, and_self, xk_0 hp, xk_1 hp, xk_2 hp, xk_3 hp, xk_4 hp, xk_5 hp, xk_6 hp, xk_7 hp, xk_8 hp, xk_9 hp, xk_10 hp, xk_11 hp, xk_12 hp, xk_13 hp, xk_14 hp, xk_15 hp, xk_16 hp, xk_17 hp, xk_18 hp, xk_19 hp, xk_20 hp, xk_21 hp, xl_1 hp, xl_2 hp, xl_3 hp, xl_4 hp, xl_6 hp, xl_8 hp, xl_10 hp, xl_12 hp, xl_14 hp, xl_15 hp, xl_17 hp, xl_18 hp, xl_21 hp, xp_7 hp, xp_8 hp, xp_9 hp, xp_10 hp, xp_11 hp, xp_12 hp, xp_13 hp, xp_14 hp, xp_15 hp, xp_16 hp, xp_17 hp, xp_t5 hp, xp_t7 hp, xp_t9 hp, xp_t11 hp, xp_t20 hp, xp_s19 hp, xp_a13 hp, xp_b13 hp, xp_a16 hp, xp_b16 hp, xc_r5 hp, xc_c5 hp, xc_r7 hp, xc_c7 hp, xc_r9 hp, xc_c9 hp, xc_r11 hp, xc_c11 hp, xc_r20 hp, xc_c20 hp, no_on, sk_0, hpp])
          | (with_reducible refine ev_gid ?_; simp (disch := first | omega | assumption) only [ev_run_c, ev_run_n, ev_fj, ev_stp, ev_lk, ev_fv, ev_as, ev_sz, ev_st1, ev_st2, ev_rm, ev_pk, ev_Jof, ev_go, lv_args, List.map_cons, List.map_nil, List.zip_cons_cons, List.zip_nil_left, List.zip_nil_right, List.nil_append, List.cons_append, ↓reduceIte, reduceCtorEq, Int.reduceToNat, Nat.reduceEqDiff, Nat.reduceAdd, Nat.reduceLT, Nat.reduceLeDiff, Nat.reduceMul, Nat.reduceSub, Value.category, false_implies, true_and, and_true, Bool.false_eq_true, Option.some.injEq, exists_eq_left', Option.toList_some, Option.toList_none, ev_km, ev_k2, ev_k3, ev_k4, ev_k5, ev_l0, ev_l1, sh_1, sh_2, sh_3, sh_4, sh_5, at_X10_bid_26, at_X10_bid_37, ca_X10_146, ca_X10_159, ca_X10_164, ca_X10_312, ca_X10_315, cd_X10_bid_0, cd_X10_bid_26, cd_X10_bid_37, fl_X10_168, fl_X10_31, fl_X10_41, th_X10_70, no_0, no_1, no_lt, no_le, no_eq, no_lt0, no_ge0, no_gt0, no_le0, no_eq0, no_0eq, no_eqm, no_meq, no_m0, no_mlt, no_mge, no_mgt, no_mm, no_i01, no_i10, no_in, no_or, no_ifm, no_mul, nI_add, no_sub, pk_div, iI_if, nI_clamp, oI_n, oI_s, not_true_eq_false, not_false_eq_true, forall_const, true_implies, false_and, and_false, or_false, false_or, Classical.not_not, true_or, or_true, no_b, no_eq1, eq_self, and_self, xk_0 hp, xk_1 hp, xk_2 hp, xk_3 hp, xk_4 hp, xk_5 hp, xk_6 hp, xk_7 hp, xk_8 hp, xk_9 hp, xk_10 hp, xk_11 hp, xk_12 hp, xk_13 hp, xk_14 hp, xk_15 hp, xk_16 hp, xk_17 hp, xk_18 hp, xk_19 hp, xk_20 hp, xk_21 hp, xl_1 hp, xl_2 hp, xl_3 hp, xl_4 hp, xl_6 hp, xl_8 hp, xl_10 hp, xl_12 hp, xl_14 hp, xl_15 hp, xl_17 hp, xl_18 hp, xl_21 hp, xp_7 hp, xp_8 hp, xp_9 hp, xp_10 hp, xp_11 hp, xp_12 hp, xp_13 hp, xp_14 hp, xp_15 hp, xp_16 hp, xp_17 hp, xp_t5 hp, xp_t7 hp, xp_t9 hp, xp_t11 hp, xp_t20 hp, xp_s19 hp, xp_a13 hp, xp_b13 hp, xp_a16 hp, xp_b16 hp, xc_r5 hp, xc_c5 hp, xc_r7 hp, xc_c7 hp, xc_r9 hp, xc_c9 hp, xc_r11 hp, xc_c11 hp, xc_r20 hp, xc_c20 hp, no_on, sk_0, hpp])
          | (with_reducible refine And.intro (fun q => ?_) (fun q => ?_) <;> (try simp (disch := first | omega | assumption) only [no_0, no_1, no_lt, no_le, no_eq, no_lt0, no_ge0, no_gt0, no_le0, no_eq0, no_0eq, no_eqm, no_meq, no_m0, no_mlt, no_mge, no_mgt, no_mm, no_i01, no_i10, no_in, no_or, no_ifm, no_mul, nI_add, no_sub, pk_div, iI_if, nI_clamp, oI_n, oI_s, not_true_eq_false, not_false_eq_true, forall_const, true_implies, false_and, and_false, or_false, false_or, Classical.not_not, true_or, or_true, no_b, no_eq1, eq_self, and_self, xk_0 hp, xk_1 hp, xk_2 hp, xk_3 hp, xk_4 hp, xk_5 hp, xk_6 hp, xk_7 hp, xk_8 hp, xk_9 hp, xk_10 hp, xk_11 hp, xk_12 hp, xk_13 hp, xk_14 hp, xk_15 hp, xk_16 hp, xk_17 hp, xk_18 hp, xk_19 hp, xk_20 hp, xk_21 hp, xl_1 hp, xl_2 hp, xl_3 hp, xl_4 hp, xl_6 hp, xl_8 hp, xl_10 hp, xl_12 hp, xl_14 hp, xl_15 hp, xl_17 hp, xl_18 hp, xl_21 hp, xp_7 hp, xp_8 hp, xp_9 hp, xp_10 hp, xp_11 hp, xp_12 hp, xp_13 hp, xp_14 hp, xp_15 hp, xp_16 hp, xp_17 hp, xp_t5 hp, xp_t7 hp, xp_t9 hp, xp_t11 hp, xp_t20 hp, xp_s19 hp, xp_a13 hp, xp_b13 hp, xp_a16 hp, xp_b16 hp, xc_r5 hp, xc_c5 hp, xc_r7 hp, xc_c7 hp, xc_r9 hp, xc_c9 hp, xc_r11 hp, xc_c11 hp, xc_r20 hp, xc_c20 hp, no_on, sk_0, hpp] at q))
          | with_reducible refine ev_cx (m_X10_requirePair_0 hok hp hpp (by with_reducible assumption) _ _) ?_
          | with_reducible refine ev_cx (m_X10_requirePair_n hok hp hpp (by with_reducible assumption) (by with_reducible assumption) (by with_reducible assumption)) ?_
          | with_reducible refine ev_cx (m_X10_requirePair_m hok hp hpp (by with_reducible assumption) (by with_reducible assumption) ?_ ?_ (by with_reducible assumption)) ?_
          | with_reducible refine ev_ci (m_X10_requirePair_s hok hp hpp (by with_reducible assumption) (by with_reducible assumption) ?_ ?_ ?_ ?_) ?_
          | with_reducible refine ev_ci (m_X4_isOneOfTasters hok hp (by with_reducible assumption) (by with_reducible assumption) ?_) ?_
          | with_reducible refine ev_ci (m_get_sc hok hp (by with_reducible assumption) ?_ ?_) ?_
          | with_reducible refine ev_ci (m_get_de hok hp (by with_reducible assumption) ?_ ?_) ?_
          | with_reducible refine ev_ci (m_get_bi hok hp (by with_reducible assumption) ?_ ?_) ?_
          | with_reducible refine ev_ci (m_get_tg hok hp (by with_reducible assumption) ?_ ?_) ?_
          | with_reducible refine ev_ci (m_get_ta hok hp (by with_reducible assumption) ?_ ?_) ?_
          | with_reducible refine ev_ci (m_X8_set hok (sh_T20 hp) (xp_t20 hp) ?_ ?_ _) ?_
          | omega
          | with_reducible assumption
          | with_reducible rfl
          | (refine Nat.lt_of_lt_of_le ?_ (Nat.le_refl 312); omega)
          | with_reducible refine lp_nx ?_ ?_ ?_ ?_
          | with_reducible refine lp_st ?_ ?_ ?_
          | with_reducible refine ls_c ?_ ?_
          | with_reducible refine vi_c ?_
          | with_reducible refine re_c ?_
          | with_reducible refine vz_c ?_
          | with_reducible refine rz_c ?_
          | exact trivial
          | with_reducible refine And.intro ?_ ?_
          | simp (disch := first | omega | assumption) only [ev_run_c, ev_run_n, ev_fj, ev_stp, ev_lk, ev_fv, ev_as, ev_sz, ev_st1, ev_st2, ev_rm, ev_pk, ev_Jof, ev_go, lv_args, List.map_cons, List.map_nil, List.zip_cons_cons, List.zip_nil_left, List.zip_nil_right, List.nil_append, List.cons_append, ↓reduceIte, reduceCtorEq, Int.reduceToNat, Nat.reduceEqDiff, Nat.reduceAdd, Nat.reduceLT, Nat.reduceLeDiff, Nat.reduceMul, Nat.reduceSub, Value.category, false_implies, true_and, and_true, Bool.false_eq_true, Option.some.injEq, exists_eq_left', Option.toList_some, Option.toList_none, ev_km, ev_k2, ev_k3, ev_k4, ev_k5, ev_l0, ev_l1, sh_1, sh_2, sh_3, sh_4, sh_5, at_X10_bid_26, at_X10_bid_37, ca_X10_146, ca_X10_159, ca_X10_164, ca_X10_312, ca_X10_315, cd_X10_bid_0, cd_X10_bid_26, cd_X10_bid_37, fl_X10_168, fl_X10_31, fl_X10_41, th_X10_70, no_0, no_1, no_lt, no_le, no_eq, no_lt0, no_ge0, no_gt0, no_le0, no_eq0, no_0eq, no_eqm, no_meq, no_m0, no_mlt, no_mge, no_mgt, no_mm, no_i01, no_i10, no_in, no_or, no_ifm, no_mul, nI_add, no_sub, pk_div, iI_if, nI_clamp, oI_n, oI_s, not_true_eq_false, not_false_eq_true, forall_const, true_implies, false_and, and_false, or_false, false_or, Classical.not_not, true_or, or_true, no_b, no_eq1, eq_self, and_self, xk_0 hp, xk_1 hp, xk_2 hp, xk_3 hp, xk_4 hp, xk_5 hp, xk_6 hp, xk_7 hp, xk_8 hp, xk_9 hp, xk_10 hp, xk_11 hp, xk_12 hp, xk_13 hp, xk_14 hp, xk_15 hp, xk_16 hp, xk_17 hp, xk_18 hp, xk_19 hp, xk_20 hp, xk_21 hp, xl_1 hp, xl_2 hp, xl_3 hp, xl_4 hp, xl_6 hp, xl_8 hp, xl_10 hp, xl_12 hp, xl_14 hp, xl_15 hp, xl_17 hp, xl_18 hp, xl_21 hp, xp_7 hp, xp_8 hp, xp_9 hp, xp_10 hp, xp_11 hp, xp_12 hp, xp_13 hp, xp_14 hp, xp_15 hp, xp_16 hp, xp_17 hp, xp_t5 hp, xp_t7 hp, xp_t9 hp, xp_t11 hp, xp_t20 hp, xp_s19 hp, xp_a13 hp, xp_b13 hp, xp_a16 hp, xp_b16 hp, xc_r5 hp, xc_c5 hp, xc_r7 hp, xc_c7 hp, xc_r9 hp, xc_c9 hp, xc_r11 hp, xc_c11 hp, xc_r20 hp, xc_c20 hp, no_on, sk_0, hpp]
          | exact rfl
          | (split <;> omega))
      | some j =>
        obtain ⟨hj, e6⟩ := rx_s (by omega) h2
        subst e5
        subst e6
        show x_res _ _ _ _ (if aN σ (8 + 59 * i + 1) = 0 then _ else _)
        by_cases h3 : aN σ (8 + 59 * i + 1) = 0
        · rw [if_pos h3]
          refine x_fail h 3 ?_
          rw [xR_3]
          refine ev_tri hok okM_X10_bid (Nat.le_of_ble_eq_true rfl) 400 ?_
          rw [at_X10_bid_0]
          repeat' (first
            | (with_reducible refine ev_rid ?_; simp (disch := first | omega | assumption) only [ev_run_c, ev_run_n, ev_fj, ev_stp, ev_lk, ev_fv, ev_as, ev_sz, ev_st1, ev_st2, ev_rm, ev_pk, ev_Jof, ev_go, lv_args, List.map_cons, List.map_nil, List.zip_cons_cons, List.zip_nil_left, List.zip_nil_right, List.nil_append, List.cons_append, ↓reduceIte, reduceCtorEq, Int.reduceToNat, Nat.reduceEqDiff, Nat.reduceAdd, Nat.reduceLT, Nat.reduceLeDiff, Nat.reduceMul, Nat.reduceSub, Value.category, false_implies, true_and, and_true, Bool.false_eq_true, Option.some.injEq, exists_eq_left', Option.toList_some, Option.toList_none, ev_km, ev_k2, ev_k3, ev_k4, ev_k5, ev_l0, ev_l1, sh_1, sh_2, sh_3, sh_4, sh_5, at_X10_bid_26, at_X10_bid_37, ca_X10_146, ca_X10_159, ca_X10_164, ca_X10_312, ca_X10_315, cd_X10_bid_0, cd_X10_bid_26, cd_X10_bid_37, fl_X10_168, fl_X10_31, fl_X10_41, th_X10_70, no_0, no_1, no_lt, no_le, no_eq, no_lt0, no_ge0, no_gt0, no_le0, no_eq0, no_0eq, no_eqm, no_meq, no_m0, no_mlt, no_mge, no_mgt, no_mm, no_i01, no_i10, no_in, no_or, no_ifm, no_mul, nI_add, no_sub, pk_div, iI_if, nI_clamp, oI_n, oI_s, not_true_eq_false, not_false_eq_true, forall_const, true_implies, false_and, and_false, or_false, false_or, Classical.not_not, true_or, or_true, no_b, no_eq1, eq_self, and_self, xk_0 hp, xk_1 hp, xk_2 hp, xk_3 hp, xk_4 hp, xk_5 hp, xk_6 hp, xk_7 hp, xk_8 hp, xk_9 hp, xk_10 hp, xk_11 hp, xk_12 hp, xk_13 hp, xk_14 hp, xk_15 hp, xk_16 hp, xk_17 hp, xk_18 hp, xk_19 hp, xk_20 hp, xk_21 hp, xl_1 hp, xl_2 hp, xl_3 hp, xl_4 hp, xl_6 hp, xl_8 hp, xl_10 hp, xl_12 hp, xl_14 hp, xl_15 hp, xl_17 hp, xl_18 hp, xl_21 hp, xp_7 hp, xp_8 hp, xp_9 hp, xp_10 hp, xp_11 hp, xp_12 hp, xp_13 hp, xp_14 hp, xp_15 hp, xp_16 hp, xp_17 hp, xp_t5 hp, xp_t7 hp, xp_t9 hp, xp_t11 hp, xp_t20 hp, xp_s19 hp, xp_a13 hp, xp_b13 hp, xp_a16 hp, xp_b16 hp, xc_r5 hp, xc_c5 hp, xc_r7 hp, xc_c7 hp, xc_r9 hp, xc_c9 hp, xc_r11 hp, xc_c11 hp, xc_r20 hp, xc_c20 hp, no_on, sk_0, hpp, hH, h3])
            | (with_reducible refine ev_gid ?_; simp (disch := first | omega | assumption) only [ev_run_c, ev_run_n, ev_fj, ev_stp, ev_lk, ev_fv, ev_as, ev_sz, ev_st1, ev_st2, ev_rm, ev_pk, ev_Jof, ev_go, lv_args, List.map_cons, List.map_nil, List.zip_cons_cons, List.zip_nil_left, List.zip_nil_right, List.nil_append, List.cons_append, ↓reduceIte, reduceCtorEq, Int.reduceToNat, Nat.reduceEqDiff, Nat.reduceAdd, Nat.reduceLT, Nat.reduceLeDiff, Nat.reduceMul, Nat.reduceSub, Value.category, false_implies, true_and, and_true, Bool.false_eq_true, Option.some.injEq, exists_eq_left', Option.toList_some, Option.toList_none, ev_km, ev_k2, ev_k3, ev_k4, ev_k5, ev_l0, ev_l1, sh_1, sh_2, sh_3, sh_4, sh_5, at_X10_bid_26, at_X10_bid_37, ca_X10_146, ca_X10_159, ca_X10_164, ca_X10_312, ca_X10_315, cd_X10_bid_0, cd_X10_bid_26, cd_X10_bid_37, fl_X10_168, fl_X10_31, fl_X10_41, th_X10_70, no_0, no_1, no_lt, no_le, no_eq, no_lt0, no_ge0, no_gt0, no_le0, no_eq0, no_0eq, no_eqm, no_meq, no_m0, no_mlt, no_mge, no_mgt, no_mm, no_i01, no_i10, no_in, no_or, no_ifm, no_mul, nI_add, no_sub, pk_div, iI_if, nI_clamp, oI_n, oI_s, not_true_eq_false, not_false_eq_true, forall_const, true_implies, false_and, and_false, or_false, false_or, Classical.not_not, true_or, or_true, no_b, no_eq1, eq_self, and_self, xk_0 hp, xk_1 hp, xk_2 hp, xk_3 hp, xk_4 hp, xk_5 hp, xk_6 hp, xk_7 hp, xk_8 hp, xk_9 hp, xk_10 hp, xk_11 hp, xk_12 hp, xk_13 hp, xk_14 hp, xk_15 hp, xk_16 hp, xk_17 hp, xk_18 hp, xk_19 hp, xk_20 hp, xk_21 hp, xl_1 hp, xl_2 hp, xl_3 hp, xl_4 hp, xl_6 hp, xl_8 hp, xl_10 hp, xl_12 hp, xl_14 hp, xl_15 hp, xl_17 hp, xl_18 hp, xl_21 hp, xp_7 hp, xp_8 hp, xp_9 hp, xp_10 hp, xp_11 hp, xp_12 hp, xp_13 hp, xp_14 hp, xp_15 hp, xp_16 hp, xp_17 hp, xp_t5 hp, xp_t7 hp, xp_t9 hp, xp_t11 hp, xp_t20 hp, xp_s19 hp, xp_a13 hp, xp_b13 hp, xp_a16 hp, xp_b16 hp, xc_r5 hp, xc_c5 hp, xc_r7 hp, xc_c7 hp, xc_r9 hp, xc_c9 hp, xc_r11 hp, xc_c11 hp, xc_r20 hp, xc_c20 hp, no_on, sk_0, hpp, hH, h3])
            | (with_reducible refine And.intro (fun q => ?_) (fun q => ?_) <;> (try simp (disch := first | omega | assumption) only [no_0, no_1, no_lt, no_le, no_eq, no_lt0, no_ge0, no_gt0, no_le0, no_eq0, no_0eq, no_eqm, no_meq, no_m0, no_mlt, no_mge, no_mgt, no_mm, no_i01, no_i10, no_in, no_or, no_ifm, no_mul, nI_add, no_sub, pk_div, iI_if, nI_clamp, oI_n, oI_s, not_true_eq_false, not_false_eq_true, forall_const, true_implies, false_and, and_false, or_false, false_or, Classical.not_not, true_or, or_true, no_b, no_eq1, eq_self, and_self, xk_0 hp, xk_1 hp, xk_2 hp, xk_3 hp, xk_4 hp, xk_5 hp, xk_6 hp, xk_7 hp, xk_8 hp, xk_9 hp, xk_10 hp, xk_11 hp, xk_12 hp, xk_13 hp, xk_14 hp, xk_15 hp, xk_16 hp, xk_17 hp, xk_18 hp, xk_19 hp, xk_20 hp, xk_21 hp, xl_1 hp, xl_2 hp, xl_3 hp, xl_4 hp, xl_6 hp, xl_8 hp, xl_10 hp, xl_12 hp, xl_14 hp, xl_15 hp, xl_17 hp, xl_18 hp, xl_21 hp, xp_7 hp, xp_8 hp, xp_9 hp, xp_10 hp, xp_11 hp, xp_12 hp, xp_13 hp, xp_14 hp, xp_15 hp, xp_16 hp, xp_17 hp, xp_t5 hp, xp_t7 hp, xp_t9 hp, xp_t11 hp, xp_t20 hp, xp_s19 hp, xp_a13 hp, xp_b13 hp, xp_a16 hp, xp_b16 hp, xc_r5 hp, xc_c5 hp, xc_r7 hp, xc_c7 hp, xc_r9 hp, xc_c9 hp, xc_r11 hp, xc_c11 hp, xc_r20 hp, xc_c20 hp, no_on, sk_0, hpp, hH, h3] at q))
            | with_reducible refine ev_cx (m_X10_requirePair_0 hok hp hpp (by with_reducible assumption) _ _) ?_
            | with_reducible refine ev_cx (m_X10_requirePair_n hok hp hpp (by with_reducible assumption) (by with_reducible assumption) (by with_reducible assumption)) ?_
            | with_reducible refine ev_cx (m_X10_requirePair_m hok hp hpp (by with_reducible assumption) (by with_reducible assumption) ?_ ?_ (by with_reducible assumption)) ?_
            | with_reducible refine ev_ci (m_X10_requirePair_s hok hp hpp (by with_reducible assumption) (by with_reducible assumption) ?_ ?_ ?_ ?_) ?_
            | with_reducible refine ev_ci (m_X4_isOneOfTasters hok hp (by with_reducible assumption) (by with_reducible assumption) ?_) ?_
            | with_reducible refine ev_ci (m_get_sc hok hp (by with_reducible assumption) ?_ ?_) ?_
            | with_reducible refine ev_ci (m_get_de hok hp (by with_reducible assumption) ?_ ?_) ?_
            | with_reducible refine ev_ci (m_get_bi hok hp (by with_reducible assumption) ?_ ?_) ?_
            | with_reducible refine ev_ci (m_get_tg hok hp (by with_reducible assumption) ?_ ?_) ?_
            | with_reducible refine ev_ci (m_get_ta hok hp (by with_reducible assumption) ?_ ?_) ?_
            | with_reducible refine ev_ci (m_X8_set hok (sh_T20 hp) (xp_t20 hp) ?_ ?_ _) ?_
            | omega
            | with_reducible assumption
            | with_reducible rfl
            | (refine Nat.lt_of_lt_of_le ?_ (Nat.le_refl 312); omega)
            | with_reducible refine lp_nx ?_ ?_ ?_ ?_
            | with_reducible refine lp_st ?_ ?_ ?_
            | with_reducible refine ls_c ?_ ?_
            | with_reducible refine vi_c ?_
            | with_reducible refine re_c ?_
            | with_reducible refine vz_c ?_
            | with_reducible refine rz_c ?_
            | exact trivial
            | with_reducible refine And.intro ?_ ?_
            | simp (disch := first | omega | assumption) only [ev_run_c, ev_run_n, ev_fj, ev_stp, ev_lk, ev_fv, ev_as, ev_sz, ev_st1, ev_st2, ev_rm, ev_pk, ev_Jof, ev_go, lv_args, List.map_cons, List.map_nil, List.zip_cons_cons, List.zip_nil_left, List.zip_nil_right, List.nil_append, List.cons_append, ↓reduceIte, reduceCtorEq, Int.reduceToNat, Nat.reduceEqDiff, Nat.reduceAdd, Nat.reduceLT, Nat.reduceLeDiff, Nat.reduceMul, Nat.reduceSub, Value.category, false_implies, true_and, and_true, Bool.false_eq_true, Option.some.injEq, exists_eq_left', Option.toList_some, Option.toList_none, ev_km, ev_k2, ev_k3, ev_k4, ev_k5, ev_l0, ev_l1, sh_1, sh_2, sh_3, sh_4, sh_5, at_X10_bid_26, at_X10_bid_37, ca_X10_146, ca_X10_159, ca_X10_164, ca_X10_312, ca_X10_315, cd_X10_bid_0, cd_X10_bid_26, cd_X10_bid_37, fl_X10_168, fl_X10_31, fl_X10_41, th_X10_70, no_0, no_1, no_lt, no_le, no_eq, no_lt0, no_ge0, no_gt0, no_le0, no_eq0, no_0eq, no_eqm, no_meq, no_m0, no_mlt, no_mge, no_mgt, no_mm, no_i01, no_i10, no_in, no_or, no_ifm, no_mul, nI_add, no_sub, pk_div, iI_if, nI_clamp, oI_n, oI_s, not_true_eq_false, not_false_eq_true, forall_const, true_implies, false_and, and_false, or_false, false_or, Classical.not_not, true_or, or_true, no_b, no_eq1, eq_self, and_self, xk_0 hp, xk_1 hp, xk_2 hp, xk_3 hp, xk_4 hp, xk_5 hp, xk_6 hp, xk_7 hp, xk_8 hp, xk_9 hp, xk_10 hp, xk_11 hp, xk_12 hp, xk_13 hp, xk_14 hp, xk_15 hp, xk_16 hp, xk_17 hp, xk_18 hp, xk_19 hp, xk_20 hp, xk_21 hp, xl_1 hp, xl_2 hp, xl_3 hp, xl_4 hp, xl_6 hp, xl_8 hp, xl_10 hp, xl_12 hp, xl_14 hp, xl_15 hp, xl_17 hp, xl_18 hp, xl_21 hp, xp_7 hp, xp_8 hp, xp_9 hp, xp_10 hp, xp_11 hp, xp_12 hp, xp_13 hp, xp_14 hp, xp_15 hp, xp_16 hp, xp_17 hp, xp_t5 hp, xp_t7 hp, xp_t9 hp, xp_t11 hp, xp_t20 hp, xp_s19 hp, xp_a13 hp, xp_b13 hp, xp_a16 hp, xp_b16 hp, xc_r5 hp, xc_c5 hp, xc_r7 hp, xc_c7 hp, xc_r9 hp, xc_c9 hp, xc_r11 hp, xc_c11 hp, xc_r20 hp, xc_c20 hp, no_on, sk_0, hpp, hH, h3]
            | exact rfl
            | (split <;> omega))
        · rw [if_neg h3]
          cases h4 : rx 4 z with
          | none =>
            refine x_fail h 3 ?_
            rw [xR_3]
            rcases rx_or h4 with g | g
            · refine ev_tri hok okM_X10_bid (Nat.le_of_ble_eq_true rfl) 400 ?_
              rw [at_X10_bid_0]
              repeat' (first
                | (with_reducible refine ev_rid ?_; simp (disch := first | omega | assumption) only [ev_run_c, ev_run_n, ev_fj, ev_stp, ev_lk, ev_fv, ev_as, ev_sz, ev_st1, ev_st2, ev_rm, ev_pk, ev_Jof, ev_go, lv_args, List.map_cons, List.map_nil, List.zip_cons_cons, List.zip_nil_left, List.zip_nil_right, List.nil_append, List.cons_append, ↓reduceIte, reduceCtorEq, Int.reduceToNat, Nat.reduceEqDiff, Nat.reduceAdd, Nat.reduceLT, Nat.reduceLeDiff, Nat.reduceMul, Nat.reduceSub, Value.category, false_implies, true_and, and_true, Bool.false_eq_true, Option.some.injEq, exists_eq_left', Option.toList_some, Option.toList_none, ev_km, ev_k2, ev_k3, ev_k4, ev_k5, ev_l0, ev_l1, sh_1, sh_2, sh_3, sh_4, sh_5, at_X10_bid_26, at_X10_bid_37, ca_X10_146, ca_X10_159, ca_X10_164, ca_X10_312, ca_X10_315, cd_X10_bid_0, cd_X10_bid_26, cd_X10_bid_37, fl_X10_168, fl_X10_31, fl_X10_41, th_X10_70, no_0, no_1, no_lt, no_le, no_eq, no_lt0, no_ge0, no_gt0, no_le0, no_eq0, no_0eq, no_eqm, no_meq, no_m0, no_mlt, no_mge, no_mgt, no_mm, no_i01, no_i10, no_in, no_or, no_ifm, no_mul, nI_add, no_sub, pk_div, iI_if, nI_clamp, oI_n, oI_s, not_true_eq_false, not_false_eq_true, forall_const, true_implies, false_and, and_false, or_false, false_or, Classical.not_not, true_or, or_true, no_b, no_eq1, eq_self, and_self, xk_0 hp, xk_1 hp, xk_2 hp, xk_3 hp, xk_4 hp, xk_5 hp, xk_6 hp, xk_7 hp, xk_8 hp, xk_9 hp, xk_10 hp, xk_11 hp, xk_12 hp, xk_13 hp, xk_14 hp, xk_15 hp, xk_16 hp, xk_17 hp, xk_18 hp, xk_19 hp, xk_20 hp, xk_21 hp, xl_1 hp, xl_2 hp, xl_3 hp, xl_4 hp, xl_6 hp, xl_8 hp, xl_10 hp, xl_12 hp, xl_14 hp, xl_15 hp, xl_17 hp, xl_18 hp, xl_21 hp, xp_7 hp, xp_8 hp, xp_9 hp, xp_10 hp, xp_11 hp, xp_12 hp, xp_13 hp, xp_14 hp, xp_15 hp, xp_16 hp, xp_17 hp, xp_t5 hp, xp_t7 hp, xp_t9 hp, xp_t11 hp, xp_t20 hp, xp_s19 hp, xp_a13 hp, xp_b13 hp, xp_a16 hp, xp_b16 hp, xc_r5 hp, xc_c5 hp, xc_r7 hp, xc_c7 hp, xc_r9 hp, xc_c9 hp, xc_r11 hp, xc_c11 hp, xc_r20 hp, xc_c20 hp, no_on, sk_0, hpp, hH, h3, g])
                | (with_reducible refine ev_gid ?_; simp (disch := first | omega | assumption) only [ev_run_c, ev_run_n, ev_fj, ev_stp, ev_lk, ev_fv, ev_as, ev_sz, ev_st1, ev_st2, ev_rm, ev_pk, ev_Jof, ev_go, lv_args, List.map_cons, List.map_nil, List.zip_cons_cons, List.zip_nil_left, List.zip_nil_right, List.nil_append, List.cons_append, ↓reduceIte, reduceCtorEq, Int.reduceToNat, Nat.reduceEqDiff, Nat.reduceAdd, Nat.reduceLT, Nat.reduceLeDiff, Nat.reduceMul, Nat.reduceSub, Value.category, false_implies, true_and, and_true, Bool.false_eq_true, Option.some.injEq, exists_eq_left', Option.toList_some, Option.toList_none, ev_km, ev_k2, ev_k3, ev_k4, ev_k5, ev_l0, ev_l1, sh_1, sh_2, sh_3, sh_4, sh_5, at_X10_bid_26, at_X10_bid_37, ca_X10_146, ca_X10_159, ca_X10_164, ca_X10_312, ca_X10_315, cd_X10_bid_0, cd_X10_bid_26, cd_X10_bid_37, fl_X10_168, fl_X10_31, fl_X10_41, th_X10_70, no_0, no_1, no_lt, no_le, no_eq, no_lt0, no_ge0, no_gt0, no_le0, no_eq0, no_0eq, no_eqm, no_meq, no_m0, no_mlt, no_mge, no_mgt, no_mm, no_i01, no_i10, no_in, no_or, no_ifm, no_mul, nI_add, no_sub, pk_div, iI_if, nI_clamp, oI_n, oI_s, not_true_eq_false, not_false_eq_true, forall_const, true_implies, false_and, and_false, or_false, false_or, Classical.not_not, true_or, or_true, no_b, no_eq1, eq_self, and_self, xk_0 hp, xk_1 hp, xk_2 hp, xk_3 hp, xk_4 hp, xk_5 hp, xk_6 hp, xk_7 hp, xk_8 hp, xk_9 hp, xk_10 hp, xk_11 hp, xk_12 hp, xk_13 hp, xk_14 hp, xk_15 hp, xk_16 hp, xk_17 hp, xk_18 hp, xk_19 hp, xk_20 hp, xk_21 hp, xl_1 hp, xl_2 hp, xl_3 hp, xl_4 hp, xl_6 hp, xl_8 hp, xl_10 hp, xl_12 hp, xl_14 hp, xl_15 hp, xl_17 hp, xl_18 hp, xl_21 hp, xp_7 hp, xp_8 hp, xp_9 hp, xp_10 hp, xp_11 hp, xp_12 hp, xp_13 hp, xp_14 hp, xp_15 hp, xp_16 hp, xp_17 hp, xp_t5 hp, xp_t7 hp, xp_t9 hp, xp_t11 hp, xp_t20 hp, xp_s19 hp, xp_a13 hp, xp_b13 hp, xp_a16 hp, xp_b16 hp, xc_r5 hp, xc_c5 hp, xc_r7 hp, xc_c7 hp, xc_r9 hp, xc_c9 hp, xc_r11 hp, xc_c11 hp, xc_r20 hp, xc_c20 hp, no_on, sk_0, hpp, hH, h3, g])
                | (with_reducible refine And.intro (fun q => ?_) (fun q => ?_) <;> (try simp (disch := first | omega | assumption) only [no_0, no_1, no_lt, no_le, no_eq, no_lt0, no_ge0, no_gt0, no_le0, no_eq0, no_0eq, no_eqm, no_meq, no_m0, no_mlt, no_mge, no_mgt, no_mm, no_i01, no_i10, no_in, no_or, no_ifm, no_mul, nI_add, no_sub, pk_div, iI_if, nI_clamp, oI_n, oI_s, not_true_eq_false, not_false_eq_true, forall_const, true_implies, false_and, and_false, or_false, false_or, Classical.not_not, true_or, or_true, no_b, no_eq1, eq_self, and_self, xk_0 hp, xk_1 hp, xk_2 hp, xk_3 hp, xk_4 hp, xk_5 hp, xk_6 hp, xk_7 hp, xk_8 hp, xk_9 hp, xk_10 hp, xk_11 hp, xk_12 hp, xk_13 hp, xk_14 hp, xk_15 hp, xk_16 hp, xk_17 hp, xk_18 hp, xk_19 hp, xk_20 hp, xk_21 hp, xl_1 hp, xl_2 hp, xl_3 hp, xl_4 hp, xl_6 hp, xl_8 hp, xl_10 hp, xl_12 hp, xl_14 hp, xl_15 hp, xl_17 hp, xl_18 hp, xl_21 hp, xp_7 hp, xp_8 hp, xp_9 hp, xp_10 hp, xp_11 hp, xp_12 hp, xp_13 hp, xp_14 hp, xp_15 hp, xp_16 hp, xp_17 hp, xp_t5 hp, xp_t7 hp, xp_t9 hp, xp_t11 hp, xp_t20 hp, xp_s19 hp, xp_a13 hp, xp_b13 hp, xp_a16 hp, xp_b16 hp, xc_r5 hp, xc_c5 hp, xc_r7 hp, xc_c7 hp, xc_r9 hp, xc_c9 hp, xc_r11 hp, xc_c11 hp, xc_r20 hp, xc_c20 hp, no_on, sk_0, hpp, hH, h3, g] at q))
                | with_reducible refine ev_cx (m_X10_requirePair_0 hok hp hpp (by with_reducible assumption) _ _) ?_
                | with_reducible refine ev_cx (m_X10_requirePair_n hok hp hpp (by with_reducible assumption) (by with_reducible assumption) (by with_reducible assumption)) ?_
                | with_reducible refine ev_cx (m_X10_requirePair_m hok hp hpp (by with_reducible assumption) (by with_reducible assumption) ?_ ?_ (by with_reducible assumption)) ?_
                | with_reducible refine ev_ci (m_X10_requirePair_s hok hp hpp (by with_reducible assumption) (by with_reducible assumption) ?_ ?_ ?_ ?_) ?_
                | with_reducible refine ev_ci (m_X4_isOneOfTasters hok hp (by with_reducible assumption) (by with_reducible assumption) ?_) ?_
                | with_reducible refine ev_ci (m_get_sc hok hp (by with_reducible assumption) ?_ ?_) ?_
                | with_reducible refine ev_ci (m_get_de hok hp (by with_reducible assumption) ?_ ?_) ?_
                | with_reducible refine ev_ci (m_get_bi hok hp (by with_reducible assumption) ?_ ?_) ?_
                | with_reducible refine ev_ci (m_get_tg hok hp (by with_reducible assumption) ?_ ?_) ?_
                | with_reducible refine ev_ci (m_get_ta hok hp (by with_reducible assumption) ?_ ?_) ?_
                | with_reducible refine ev_ci (m_X8_set hok (sh_T20 hp) (xp_t20 hp) ?_ ?_ _) ?_
                | omega
                | with_reducible assumption
                | with_reducible rfl
                | (refine Nat.lt_of_lt_of_le ?_ (Nat.le_refl 312); omega)
                | with_reducible refine lp_nx ?_ ?_ ?_ ?_
                | with_reducible refine lp_st ?_ ?_ ?_
                | with_reducible refine ls_c ?_ ?_
                | with_reducible refine vi_c ?_
                | with_reducible refine re_c ?_
                | with_reducible refine vz_c ?_
                | with_reducible refine rz_c ?_
                | exact trivial
                | with_reducible refine And.intro ?_ ?_
                | simp (disch := first | omega | assumption) only [ev_run_c, ev_run_n, ev_fj, ev_stp, ev_lk, ev_fv, ev_as, ev_sz, ev_st1, ev_st2, ev_rm, ev_pk, ev_Jof, ev_go, lv_args, List.map_cons, List.map_nil, List.zip_cons_cons, List.zip_nil_left, List.zip_nil_right, List.nil_append, List.cons_append, ↓reduceIte, reduceCtorEq, Int.reduceToNat, Nat.reduceEqDiff, Nat.reduceAdd, Nat.reduceLT, Nat.reduceLeDiff, Nat.reduceMul, Nat.reduceSub, Value.category, false_implies, true_and, and_true, Bool.false_eq_true, Option.some.injEq, exists_eq_left', Option.toList_some, Option.toList_none, ev_km, ev_k2, ev_k3, ev_k4, ev_k5, ev_l0, ev_l1, sh_1, sh_2, sh_3, sh_4, sh_5, at_X10_bid_26, at_X10_bid_37, ca_X10_146, ca_X10_159, ca_X10_164, ca_X10_312, ca_X10_315, cd_X10_bid_0, cd_X10_bid_26, cd_X10_bid_37, fl_X10_168, fl_X10_31, fl_X10_41, th_X10_70, no_0, no_1, no_lt, no_le, no_eq, no_lt0, no_ge0, no_gt0, no_le0, no_eq0, no_0eq, no_eqm, no_meq, no_m0, no_mlt, no_mge, no_mgt, no_mm, no_i01, no_i10, no_in, no_or, no_ifm, no_mul, nI_add, no_sub, pk_div, iI_if, nI_clamp, oI_n, oI_s, not_true_eq_false, not_false_eq_true, forall_const, true_implies, false_and, and_false, or_false, false_or, Classical.not_not, true_or, or_true, no_b, no_eq1, eq_self, and_self, xk_0 hp, xk_1 hp, xk_2 hp, xk_3 hp, xk_4 hp, xk_5 hp, xk_6 hp, xk_7 hp, xk_8 hp, xk_9 hp, xk_10 hp, xk_11 hp, xk_12 hp, xk_13 hp, xk_14 hp, xk_15 hp, xk_16 hp, xk_17 hp, xk_18 hp, xk_19 hp, xk_20 hp, xk_21 hp, xl_1 hp, xl_2 hp, xl_3 hp, xl_4 hp, xl_6 hp, xl_8 hp, xl_10 hp, xl_12 hp, xl_14 hp, xl_15 hp, xl_17 hp, xl_18 hp, xl_21 hp, xp_7 hp, xp_8 hp, xp_9 hp, xp_10 hp, xp_11 hp, xp_12 hp, xp_13 hp, xp_14 hp, xp_15 hp, xp_16 hp, xp_17 hp, xp_t5 hp, xp_t7 hp, xp_t9 hp, xp_t11 hp, xp_t20 hp, xp_s19 hp, xp_a13 hp, xp_b13 hp, xp_a16 hp, xp_b16 hp, xc_r5 hp, xc_c5 hp, xc_r7 hp, xc_c7 hp, xc_r9 hp, xc_c9 hp, xc_r11 hp, xc_c11 hp, xc_r20 hp, xc_c20 hp, no_on, sk_0, hpp, hH, h3, g]
                | exact rfl
                | (split <;> omega))
            · refine ev_tri hok okM_X10_bid (Nat.le_of_ble_eq_true rfl) 400 ?_
              rw [at_X10_bid_0]
              repeat' (first
                | (with_reducible refine ev_rid ?_; simp (disch := first | omega | assumption) only [ev_run_c, ev_run_n, ev_fj, ev_stp, ev_lk, ev_fv, ev_as, ev_sz, ev_st1, ev_st2, ev_rm, ev_pk, ev_Jof, ev_go, lv_args, List.map_cons, List.map_nil, List.zip_cons_cons, List.zip_nil_left, List.zip_nil_right, List.nil_append, List.cons_append, ↓reduceIte, reduceCtorEq, Int.reduceToNat, Nat.reduceEqDiff, Nat.reduceAdd, Nat.reduceLT, Nat.reduceLeDiff, Nat.reduceMul, Nat.reduceSub, Value.category, false_implies, true_and, and_true, Bool.false_eq_true, Option.some.injEq, exists_eq_left', Option.toList_some, Option.toList_none, ev_km, ev_k2, ev_k3, ev_k4, ev_k5, ev_l0, ev_l1, sh_1, sh_2, sh_3, sh_4, sh_5, at_X10_bid_26, at_X10_bid_37, ca_X10_146, ca_X10_159, ca_X10_164, ca_X10_312, ca_X10_315, cd_X10_bid_0, cd_X10_bid_26, cd_X10_bid_37, fl_X10_168, fl_X10_31, fl_X10_41, th_X10_70, no_0, no_1, no_lt, no_le, no_eq, no_lt0, no_ge0, no_gt0, no_le0, no_eq0, no_0eq, no_eqm, no_meq, no_m0, no_mlt, no_mge, no_mgt, no_mm, no_i01, no_i10, no_in, no_or, no_ifm, no_mul, nI_add, no_sub, pk_div, iI_if, nI_clamp, oI_n, oI_s, not_true_eq_false, not_false_eq_true, forall_const, true_implies, false_and, and_false, or_false, false_or, Classical.not_not, true_or, or_true, no_b, no_eq1, eq_self, and_self, xk_0 hp, xk_1 hp, xk_2 hp, xk_3 hp, xk_4 hp, xk_5 hp, xk_6 hp, xk_7 hp, xk_8 hp, xk_9 hp, xk_10 hp, xk_11 hp, xk_12 hp, xk_13 hp, xk_14 hp, xk_15 hp, xk_16 hp, xk_17 hp, xk_18 hp, xk_19 hp, xk_20 hp, xk_21 hp, xl_1 hp, xl_2 hp, xl_3 hp, xl_4 hp, xl_6 hp, xl_8 hp, xl_10 hp, xl_12 hp, xl_14 hp, xl_15 hp, xl_17 hp, xl_18 hp, xl_21 hp, xp_7 hp, xp_8 hp, xp_9 hp, xp_10 hp, xp_11 hp, xp_12 hp, xp_13 hp, xp_14 hp, xp_15 hp, xp_16 hp, xp_17 hp, xp_t5 hp, xp_t7 hp, xp_t9 hp, xp_t11 hp, xp_t20 hp, xp_s19 hp, xp_a13 hp, xp_b13 hp, xp_a16 hp, xp_b16 hp, xc_r5 hp, xc_c5 hp, xc_r7 hp, xc_c7 hp, xc_r9 hp, xc_c9 hp, xc_r11 hp, xc_c11 hp, xc_r20 hp, xc_c20 hp, no_on, sk_0, hpp, hH, h3, g])
                | (with_reducible refine ev_gid ?_; simp (disch := first | omega | assumption) only [ev_run_c, ev_run_n, ev_fj, ev_stp, ev_lk, ev_fv, ev_as, ev_sz, ev_st1, ev_st2, ev_rm, ev_pk, ev_Jof, ev_go, lv_args, List.map_cons, List.map_nil, List.zip_cons_cons, List.zip_nil_left, List.zip_nil_right, List.nil_append, List.cons_append, ↓reduceIte, reduceCtorEq, Int.reduceToNat, Nat.reduceEqDiff, Nat.reduceAdd, Nat.reduceLT, Nat.reduceLeDiff, Nat.reduceMul, Nat.reduceSub, Value.category, false_implies, true_and, and_true, Bool.false_eq_true, Option.some.injEq, exists_eq_left', Option.toList_some, Option.toList_none, ev_km, ev_k2, ev_k3, ev_k4, ev_k5, ev_l0, ev_l1, sh_1, sh_2, sh_3, sh_4, sh_5, at_X10_bid_26, at_X10_bid_37, ca_X10_146, ca_X10_159, ca_X10_164, ca_X10_312, ca_X10_315, cd_X10_bid_0, cd_X10_bid_26, cd_X10_bid_37, fl_X10_168, fl_X10_31, fl_X10_41, th_X10_70, no_0, no_1, no_lt, no_le, no_eq, no_lt0, no_ge0, no_gt0, no_le0, no_eq0, no_0eq, no_eqm, no_meq, no_m0, no_mlt, no_mge, no_mgt, no_mm, no_i01, no_i10, no_in, no_or, no_ifm, no_mul, nI_add, no_sub, pk_div, iI_if, nI_clamp, oI_n, oI_s, not_true_eq_false, not_false_eq_true, forall_const, true_implies, false_and, and_false, or_false, false_or, Classical.not_not, true_or, or_true, no_b, no_eq1, eq_self, and_self, xk_0 hp, xk_1 hp, xk_2 hp, xk_3 hp, xk_4 hp, xk_5 hp, xk_6 hp, xk_7 hp, xk_8 hp, xk_9 hp, xk_10 hp, xk_11 hp, xk_12 hp, xk_13 hp, xk_14 hp, xk_15 hp, xk_16 hp, xk_17 hp, xk_18 hp, xk_19 hp, xk_20 hp, xk_21 hp, xl_1 hp, xl_2 hp, xl_3 hp, xl_4 hp, xl_6 hp, xl_8 hp, xl_10 hp, xl_12 hp, xl_14 hp, xl_15 hp, xl_17 hp, xl_18 hp, xl_21 hp, xp_7 hp, xp_8 hp, xp_9 hp, xp_10 hp, xp_11 hp, xp_12 hp, xp_13 hp, xp_14 hp, xp_15 hp, xp_16 hp, xp_17 hp, xp_t5 hp, xp_t7 hp, xp_t9 hp, xp_t11 hp, xp_t20 hp, xp_s19 hp, xp_a13 hp, xp_b13 hp, xp_a16 hp, xp_b16 hp, xc_r5 hp, xc_c5 hp, xc_r7 hp, xc_c7 hp, xc_r9 hp, xc_c9 hp, xc_r11 hp, xc_c11 hp, xc_r20 hp, xc_c20 hp, no_on, sk_0, hpp, hH, h3, g])
                | (with_reducible refine And.intro (fun q => ?_) (fun q => ?_) <;> (try simp (disch := first | omega | assumption) only [no_0, no_1, no_lt, no_le, no_eq, no_lt0, no_ge0, no_gt0, no_le0, no_eq0, no_0eq, no_eqm, no_meq, no_m0, no_mlt, no_mge, no_mgt, no_mm, no_i01, no_i10, no_in, no_or, no_ifm, no_mul, nI_add, no_sub, pk_div, iI_if, nI_clamp, oI_n, oI_s, not_true_eq_false, not_false_eq_true, forall_const, true_implies, false_and, and_false, or_false, false_or, Classical.not_not, true_or, or_true, no_b, no_eq1, eq_self, and_self, xk_0 hp, xk_1 hp, xk_2 hp, xk_3 hp, xk_4 hp, xk_5 hp, xk_6 hp, xk_7 hp, xk_8 hp, xk_9 hp, xk_10 hp, xk_11 hp, xk_12 hp, xk_13 hp, xk_14 hp, xk_15 hp, xk_16 hp, xk_17 hp, xk_18 hp, xk_19 hp, xk_20 hp, xk_21 hp, xl_1 hp, xl_2 hp, xl_3 hp, xl_4 hp, xl_6 hp, xl_8 hp, xl_10 hp, xl_12 hp, xl_14 hp, xl_15 hp, xl_17 hp, xl_18 hp, xl_21 hp, xp_7 hp, xp_8 hp, xp_9 hp, xp_10 hp, xp_11 hp, xp_12 hp, xp_13 hp, xp_14 hp, xp_15 hp, xp_16 hp, xp_17 hp, xp_t5 hp, xp_t7 hp, xp_t9 hp, xp_t11 hp, xp_t20 hp, xp_s19 hp, xp_a13 hp, xp_b13 hp, xp_a16 hp, xp_b16 hp, xc_r5 hp, xc_c5 hp, xc_r7 hp, xc_c7 hp, xc_r9 hp, xc_c9 hp, xc_r11 hp, xc_c11 hp, xc_r20 hp, xc_c20 hp, no_on, sk_0, hpp, hH, h3, g] at q))
                | with_reducible refine ev_cx (m_X10_requirePair_0 hok hp hpp (by with_reducible assumption) _ _) ?_
                | with_reducible refine ev_cx (m_X10_requirePair_n hok hp hpp (by with_reducible assumption) (by with_reducible assumption) (by with_reducible assumption)) ?_
                | with_reducible refine ev_cx (m_X10_requirePair_m hok hp hpp (by with_reducible assumption) (by with_reducible assumption) ?_ ?_ (by with_reducible assumption)) ?_
                | with_reducible refine ev_ci (m_X10_requirePair_s hok hp hpp (by with_reducible assumption) (by with_reducible assumption) ?_ ?_ ?_ ?_) ?_
                | with_reducible refine ev_ci (m_X4_isOneOfTasters hok hp (by with_reducible assumption) (by with_reducible assumption) ?_) ?_
                | with_reducible refine ev_ci (m_get_sc hok hp (by with_reducible assumption) ?_ ?_) ?_
                | with_reducible refine ev_ci (m_get_de hok hp (by with_reducible assumption) ?_ ?_) ?_
                | with_reducible refine ev_ci (m_get_bi hok hp (by with_reducible assumption) ?_ ?_) ?_
                | with_reducible refine ev_ci (m_get_tg hok hp (by with_reducible assumption) ?_ ?_) ?_
                | with_reducible refine ev_ci (m_get_ta hok hp (by with_reducible assumption) ?_ ?_) ?_
                | with_reducible refine ev_ci (m_X8_set hok (sh_T20 hp) (xp_t20 hp) ?_ ?_ _) ?_
                | omega
                | with_reducible assumption
                | with_reducible rfl
                | (refine Nat.lt_of_lt_of_le ?_ (Nat.le_refl 312); omega)
                | with_reducible refine lp_nx ?_ ?_ ?_ ?_
                | with_reducible refine lp_st ?_ ?_ ?_
                | with_reducible refine ls_c ?_ ?_
                | with_reducible refine vi_c ?_
                | with_reducible refine re_c ?_
                | with_reducible refine vz_c ?_
                | with_reducible refine rz_c ?_
                | exact trivial
                | with_reducible refine And.intro ?_ ?_
                | simp (disch := first | omega | assumption) only [ev_run_c, ev_run_n, ev_fj, ev_stp, ev_lk, ev_fv, ev_as, ev_sz, ev_st1, ev_st2, ev_rm, ev_pk, ev_Jof, ev_go, lv_args, List.map_cons, List.map_nil, List.zip_cons_cons, List.zip_nil_left, List.zip_nil_right, List.nil_append, List.cons_append, ↓reduceIte, reduceCtorEq, Int.reduceToNat, Nat.reduceEqDiff, Nat.reduceAdd, Nat.reduceLT, Nat.reduceLeDiff, Nat.reduceMul, Nat.reduceSub, Value.category, false_implies, true_and, and_true, Bool.false_eq_true, Option.some.injEq, exists_eq_left', Option.toList_some, Option.toList_none, ev_km, ev_k2, ev_k3, ev_k4, ev_k5, ev_l0, ev_l1, sh_1, sh_2, sh_3, sh_4, sh_5, at_X10_bid_26, at_X10_bid_37, ca_X10_146, ca_X10_159, ca_X10_164, ca_X10_312, ca_X10_315, cd_X10_bid_0, cd_X10_bid_26, cd_X10_bid_37, fl_X10_168, fl_X10_31, fl_X10_41, th_X10_70, no_0, no_1, no_lt, no_le, no_eq, no_lt0, no_ge0, no_gt0, no_le0, no_eq0, no_0eq, no_eqm, no_meq, no_m0, no_mlt, no_mge, no_mgt, no_mm, no_i01, no_i10, no_in, no_or, no_ifm, no_mul, nI_add, no_sub, pk_div, iI_if, nI_clamp, oI_n, oI_s, not_true_eq_false, not_false_eq_true, forall_const, true_implies, false_and, and_false, or_false, false_or, Classical.not_not, true_or, or_true, no_b, no_eq1, eq_self, and_self, xk_0 hp, xk_1 hp, xk_2 hp, xk_3 hp, xk_4 hp, xk_5 hp, xk_6 hp, xk_7 hp, xk_8 hp, xk_9 hp, xk_10 hp, xk_11 hp, xk_12 hp, xk_13 hp, xk_14 hp, xk_15 hp, xk_16 hp, xk_17 hp, xk_18 hp, xk_19 hp, xk_20 hp, xk_21 hp, xl_1 hp, xl_2 hp, xl_3 hp, xl_4 hp, xl_6 hp, xl_8 hp, xl_10 hp, xl_12 hp, xl_14 hp, xl_15 hp, xl_17 hp, xl_18 hp, xl_21 hp, xp_7 hp, xp_8 hp, xp_9 hp, xp_10 hp, xp_11 hp, xp_12 hp, xp_13 hp, xp_14 hp, xp_15 hp, xp_16 hp, xp_17 hp, xp_t5 hp, xp_t7 hp, xp_t9 hp, xp_t11 hp, xp_t20 hp, xp_s19 hp, xp_a13 hp, xp_b13 hp, xp_a16 hp, xp_b16 hp, xc_r5 hp, xc_c5 hp, xc_r7 hp, xc_c7 hp, xc_r9 hp, xc_c9 hp, xc_r11 hp, xc_c11 hp, xc_r20 hp, xc_c20 hp, no_on, sk_0, hpp, hH, h3, g]
                | exact rfl
                | (split <;> omega))
          | some b =>
            obtain ⟨hb, e7⟩ := rx_s (by omega) h4
            subst e7
            refine ⟨w1 (x_rem p (aK σ) μ) (p + 10) (i * 10 + j) (nI b), ?_, ?_, ?_⟩
            · rw [xR_0]
              refine ev_tri hok okM_X10_bid (Nat.le_of_ble_eq_true rfl) 400 ?_
              rw [at_X10_bid_0]
              repeat' (first
                | (with_reducible refine ev_rid ?_; simp (disch := first | omega | assumption) only [ev_run_c, ev_run_n, ev_fj, ev_stp, ev_lk, ev_fv, ev_as, ev_sz, ev_st1, ev_st2, ev_rm, ev_pk, ev_Jof, ev_go, lv_args, List.map_cons, List.map_nil, List.zip_cons_cons, List.zip_nil_left, List.zip_nil_right, List.nil_append, List.cons_append, ↓reduceIte, reduceCtorEq, Int.reduceToNat, Nat.reduceEqDiff, Nat.reduceAdd, Nat.reduceLT, Nat.reduceLeDiff, Nat.reduceMul, Nat.reduceSub, Value.category, false_implies, true_and, and_true, Bool.false_eq_true, Option.some.injEq, exists_eq_left', Option.toList_some, Option.toList_none, ev_km, ev_k2, ev_k3, ev_k4, ev_k5, ev_l0, ev_l1, sh_1, sh_2, sh_3, sh_4, sh_5, at_X10_bid_26, at_X10_bid_37, ca_X10_146, ca_X10_159, ca_X10_164, ca_X10_312, ca_X10_315, cd_X10_bid_0, cd_X10_bid_26, cd_X10_bid_37, fl_X10_168, fl_X10_31, fl_X10_41, th_X10_70, no_0, no_1, no_lt, no_le, no_eq, no_lt0, no_ge0, no_gt0, no_le0, no_eq0, no_0eq, no_eqm, no_meq, no_m0, no_mlt, no_mge, no_mgt, no_mm, no_i01, no_i10, no_in, no_or, no_ifm, no_mul, nI_add, no_sub, pk_div, iI_if, nI_clamp, oI_n, oI_s, not_true_eq_false, not_false_eq_true, forall_const, true_implies, false_and, and_false, or_false, false_or, Classical.not_not, true_or, or_true, no_b, no_eq1, eq_self, and_self, xk_0 hp, xk_1 hp, xk_2 hp, xk_3 hp, xk_4 hp, xk_5 hp, xk_6 hp, xk_7 hp, xk_8 hp, xk_9 hp, xk_10 hp, xk_11 hp, xk_12 hp, xk_13 hp, xk_14 hp, xk_15 hp, xk_16 hp, xk_17 hp, xk_18 hp, xk_19 hp, xk_20 hp, xk_21 hp, xl_1 hp, xl_2 hp, xl_3 hp, xl_4 hp, xl_6 hp, xl_8 hp, xl_10 hp, xl_12 hp, xl_14 hp, xl_15 hp, xl_17 hp, xl_18 hp, xl_21 hp, xp_7 hp, xp_8 hp, xp_9 hp, xp_10 hp, xp_11 hp, xp_12 hp, xp_13 hp, xp_14 hp, xp_15 hp, xp_16 hp, xp_17 hp, xp_t5 hp, xp_t7 hp, xp_t9 hp, xp_t11 hp, xp_t20 hp, xp_s19 hp, xp_a13 hp, xp_b13 hp, xp_a16 hp, xp_b16 hp, xc_r5 hp, xc_c5 hp, xc_r7 hp, xc_c7 hp, xc_r9 hp, xc_c9 hp, xc_r11 hp, xc_c11 hp, xc_r20 hp, xc_c20 hp, no_on, sk_0, hpp, hH, h3, hq_5])
                | (with_reducible refine ev_gid ?_; simp (disch := first | omega | assumption) only [ev_run_c, ev_run_n, ev_fj, ev_stp, ev_lk, ev_fv, ev_as, ev_sz, ev_st1, ev_st2, ev_rm, ev_pk, ev_Jof, ev_go, lv_args, List.map_cons, List.map_nil, List.zip_cons_cons, List.zip_nil_left, List.zip_nil_right, List.nil_append, List.cons_append, ↓reduceIte, reduceCtorEq, Int.reduceToNat, Nat.reduceEqDiff, Nat.reduceAdd, Nat.reduceLT, Nat.reduceLeDiff, Nat.reduceMul, Nat.reduceSub, Value.category, false_implies, true_and, and_true, Bool.false_eq_true, Option.some.injEq, exists_eq_left', Option.toList_some, Option.toList_none, ev_km, ev_k2, ev_k3, ev_k4, ev_k5, ev_l0, ev_l1, sh_1, sh_2, sh_3, sh_4, sh_5, at_X10_bid_26, at_X10_bid_37, ca_X10_146, ca_X10_159, ca_X10_164, ca_X10_312, ca_X10_315, cd_X10_bid_0, cd_X10_bid_26, cd_X10_bid_37, fl_X10_168, fl_X10_31, fl_X10_41, th_X10_70, no_0, no_1, no_lt, no_le, no_eq, no_lt0, no_ge0, no_gt0, no_le0, no_eq0, no_0eq, no_eqm, no_meq, no_m0, no_mlt, no_mge, no_mgt, no_mm, no_i01, no_i10, no_in, no_or, no_ifm, no_mul, nI_add, no_sub, pk_div, iI_if, nI_clamp, oI_n, oI_s, not_true_eq_false, not_false_eq_true, forall_const, true_implies, false_and, and_false, or_false, false_or, Classical.not_not, true_or, or_true, no_b, no_eq1, eq_self, and_self, xk_0 hp, xk_1 hp, xk_2 hp, xk_3 hp, xk_4 hp, xk_5 hp, xk_6 hp, xk_7 hp, xk_8 hp, xk_9 hp, xk_10 hp, xk_11 hp, xk_12 hp, xk_13 hp, xk_14 hp, xk_15 hp, xk_16 hp, xk_17 hp, xk_18 hp, xk_19 hp, xk_20 hp, xk_21 hp, xl_1 hp, xl_2 hp, xl_3 hp, xl_4 hp, xl_6 hp, xl_8 hp, xl_10 hp, xl_12 hp, xl_14 hp, xl_15 hp, xl_17 hp, xl_18 hp, xl_21 hp, xp_7 hp, xp_8 hp, xp_9 hp, xp_10 hp, xp_11 hp, xp_12 hp, xp_13 hp, xp_14 hp, xp_15 hp, xp_16 hp, xp_17 hp, xp_t5 hp, xp_t7 hp, xp_t9 hp, xp_t11 hp, xp_t20 hp, xp_s19 hp, xp_a13 hp, xp_b13 hp, xp_a16 hp, xp_b16 hp, xc_r5 hp, xc_c5 hp, xc_r7 hp, xc_c7 hp, xc_r9 hp, xc_c9 hp, xc_r11 hp, xc_c11 hp, xc_r20 hp, xc_c20 hp, no_on, sk_0, hpp, hH, h3, hq_5])
                | (with_reducible refine And.intro (fun q => ?_) (fun q => ?_) <;> (try simp (disch := first | omega | assumption) only [no_0, no_1, no_lt, no_le, no_eq, no_lt0, no_ge0, no_gt0, no_le0, no_eq0, no_0eq, no_eqm, no_meq, no_m0, no_mlt, no_mge, no_mgt, no_mm, no_i01, no_i10, no_in, no_or, no_ifm, no_mul, nI_add, no_sub, pk_div, iI_if, nI_clamp, oI_n, oI_s, not_true_eq_false, not_false_eq_true, forall_const, true_implies, false_and, and_false, or_false, false_or, Classical.not_not, true_or, or_true, no_b, no_eq1, eq_self, and_self, xk_0 hp, xk_1 hp, xk_2 hp, xk_3 hp, xk_4 hp, xk_5 hp, xk_6 hp, xk_7 hp, xk_8 hp, xk_9 hp, xk_10 hp, xk_11 hp, xk_12 hp, xk_13 hp, xk_14 hp, xk_15 hp, xk_16 hp, xk_17 hp, xk_18 hp, xk_19 hp, xk_20 hp, xk_21 hp, xl_1 hp, xl_2 hp, xl_3 hp, xl_4 hp, xl_6 hp, xl_8 hp, xl_10 hp, xl_12 hp, xl_14 hp, xl_15 hp, xl_17 hp, xl_18 hp, xl_21 hp, xp_7 hp, xp_8 hp, xp_9 hp, xp_10 hp, xp_11 hp, xp_12 hp, xp_13 hp, xp_14 hp, xp_15 hp, xp_16 hp, xp_17 hp, xp_t5 hp, xp_t7 hp, xp_t9 hp, xp_t11 hp, xp_t20 hp, xp_s19 hp, xp_a13 hp, xp_b13 hp, xp_a16 hp, xp_b16 hp, xc_r5 hp, xc_c5 hp, xc_r7 hp, xc_c7 hp, xc_r9 hp, xc_c9 hp, xc_r11 hp, xc_c11 hp, xc_r20 hp, xc_c20 hp, no_on, sk_0, hpp, hH, h3, hq_5] at q))
                | (with_reducible refine ev_ci er ?_)
                | (with_reducible refine ev_ci (m_X8_set hok (sh_T9 hp) (xp_t9 hp) ?_ ?_ _) ?_)
                | with_reducible refine ev_cx (m_X10_requirePair_0 hok hp hpp (by with_reducible assumption) _ _) ?_
                | with_reducible refine ev_cx (m_X10_requirePair_n hok hp hpp (by with_reducible assumption) (by with_reducible assumption) (by with_reducible assumption)) ?_
                | with_reducible refine ev_cx (m_X10_requirePair_m hok hp hpp (by with_reducible assumption) (by with_reducible assumption) ?_ ?_ (by with_reducible assumption)) ?_
                | with_reducible refine ev_ci (m_X10_requirePair_s hok hp hpp (by with_reducible assumption) (by with_reducible assumption) ?_ ?_ ?_ ?_) ?_
                | with_reducible refine ev_ci (m_X4_isOneOfTasters hok hp (by with_reducible assumption) (by with_reducible assumption) ?_) ?_
                | with_reducible refine ev_ci (m_get_sc hok hp (by with_reducible assumption) ?_ ?_) ?_
                | with_reducible refine ev_ci (m_get_de hok hp (by with_reducible assumption) ?_ ?_) ?_
                | with_reducible refine ev_ci (m_get_bi hok hp (by with_reducible assumption) ?_ ?_) ?_
                | with_reducible refine ev_ci (m_get_tg hok hp (by with_reducible assumption) ?_ ?_) ?_
                | with_reducible refine ev_ci (m_get_ta hok hp (by with_reducible assumption) ?_ ?_) ?_
                | with_reducible refine ev_ci (m_X8_set hok (sh_T20 hp) (xp_t20 hp) ?_ ?_ _) ?_
                | omega
                | with_reducible assumption
                | with_reducible rfl
                | (refine Nat.lt_of_lt_of_le ?_ (Nat.le_refl 312); omega)
                | with_reducible refine lp_nx ?_ ?_ ?_ ?_
                | with_reducible refine lp_st ?_ ?_ ?_
                | with_reducible refine ls_c ?_ ?_
                | with_reducible refine vi_c ?_
                | with_reducible refine re_c ?_
                | with_reducible refine vz_c ?_
                | with_reducible refine rz_c ?_
                | exact trivial
                | with_reducible refine And.intro ?_ ?_
                | simp (disch := first | omega | assumption) only [ev_run_c, ev_run_n, ev_fj, ev_stp, ev_lk, ev_fv, ev_as, ev_sz, ev_st1, ev_st2, ev_rm, ev_pk, ev_Jof, ev_go, lv_args, List.map_cons, List.map_nil, List.zip_cons_cons, List.zip_nil_left, List.zip_nil_right, List.nil_append, List.cons_append, ↓reduceIte, reduceCtorEq, Int.reduceToNat, Nat.reduceEqDiff, Nat.reduceAdd, Nat.reduceLT, Nat.reduceLeDiff, Nat.reduceMul, Nat.reduceSub, Value.category, false_implies, true_and, and_true, Bool.false_eq_true, Option.some.injEq, exists_eq_left', Option.toList_some, Option.toList_none, ev_km, ev_k2, ev_k3, ev_k4, ev_k5, ev_l0, ev_l1, sh_1, sh_2, sh_3, sh_4, sh_5, at_X10_bid_26, at_X10_bid_37, ca_X10_146, ca_X10_159, ca_X10_164, ca_X10_312, ca_X10_315, cd_X10_bid_0, cd_X10_bid_26, cd_X10_bid_37, fl_X10_168, fl_X10_31, fl_X10_41, th_X10_70, no_0, no_1, no_lt, no_le, no_eq, no_lt0, no_ge0, no_gt0, no_le0, no_eq0, no_0eq, no_eqm, no_meq, no_m0, no_mlt, no_mge, no_mgt, no_mm, no_i01, no_i10, no_in, no_or, no_ifm, no_mul, nI_add, no_sub, pk_div, iI_if, nI_clamp, oI_n, oI_s, not_true_eq_false, not_false_eq_true, forall_const, true_implies, false_and, and_false, or_false, false_or, Classical.not_not, true_or, or_true, no_b, no_eq1, eq_self, and_self, xk_0 hp, xk_1 hp, xk_2 hp, xk_3 hp, xk_4 hp, xk_5 hp, xk_6 hp, xk_7 hp, xk_8 hp, xk_9 hp, xk_10 hp, xk_11 hp, xk_12 hp, xk_13 hp, xk_14 hp, xk_15 hp, xk_16 hp, xk_17 hp, xk_18 hp, xk_19 hp, xk_20 hp, xk_21 hp, xl_1 hp, xl_2 hp, xl_3 hp, xl_4 hp, xl_6 hp, xl_8 hp, xl_10 hp, xl_12 hp, xl_14 hp, xl_15 hp, xl_17 hp, xl_18 hp, xl_21 hp, xp_7 hp, xp_8 hp, xp_9 hp, xp_10 hp, xp_11 hp, xp_12 hp, xp_13 hp, xp_14 hp, xp_15 hp, xp_16 hp, xp_17 hp, xp_t5 hp, xp_t7 hp, xp_t9 hp, xp_t11 hp, xp_t20 hp, xp_s19 hp, xp_a13 hp, xp_b13 hp, xp_a16 hp, xp_b16 hp, xc_r5 hp, xc_c5 hp, xc_r7 hp, xc_c7 hp, xc_r9 hp, xc_c9 hp, xc_r11 hp, xc_c11 hp, xc_r20 hp, xc_c20 hp, no_on, sk_0, hpp, hH, h3, hq_5]
                | exact rfl
                | (split <;> omega))
            · subst hpe
              exact XS_new hX1 (Fx_w1 Fx_rf (by omega)) (PR_sbi hP1 (fun i hi => (iv_p hI i hi).2) (by omega) (by omega) (by omega) (by omega)) (w1_n (by omega))
            · refine Fc_tr hF1 (Fc_x (Fx_w1 Fx_rf (by omega)))
end XChg2
