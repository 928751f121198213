/-! ===== the class: seats cleared ===== -/
section XClr
variable {G : ev_G} {N N' : Nat → Nat} {μ μ' : ev_M} {p : Nat}
/-- what no one sees of a row: the places behind the seats -/
theorem PR_cong (hP : PR p N μ) (hI : INV N) {q : Nat} (hq : q < 10) (hs : N (952 + 9 * q + 5) = 0) (h : ∀ x, x < 952 + 9 * q + 6 ∨ 952 + 9 * q + 9 ≤ x → N' x = N x) : PR p N' μ := by
  have hh := iv_h hI
  have hH := pr_h hP
  have hS := pr_sh hP
  have e0 : N' 0 = N 0 := h 0 (by omega)
  have e1 : N' 1 = N 1 := h 1 (by omega)
  have easc : asc N' (N' 0) = asc N (N 0) := by
    rw [e0]
    refine sm_ext (fun i' hi' => ?_)
    rw [e1]
    refine sm_ext (fun q' hq' => ?_)
    rw [h _ (by omega)]
  have easm : asm N' (N' 0) = asm N (N 0) := by
    rw [e0]
    refine sm_ext (fun i' hi' => ?_)
    rw [e1]
    refine sm_ext (fun q' hq' => ?_)
    exact h _ (by omega)
  have enm : ∀ j, j < 16 → ∀ n, n ≤ 6 → nmL N' j n = nmL N j n := fun j hj n => by
    induction n with
    | zero => exact fun _ => rfl
    | succ n ih =>
      intro hn
      show nmL N' j n <<< 8 ||| _ = nmL N j n <<< 8 ||| _
      rw [ih (by omega), h _ (by omega)]
  refine ⟨?_, ?_, ?_, ?_, ?_, ?_, ?_, ?_, ?_, ⟨?_, ?_⟩, ⟨?_, ?_⟩, ?_, ?_⟩
  · rw [e0, e1, h 2 (by omega), h 3 (by omega), h 4 (by omega), h 5 (by omega)]; exact hH
  · intro j hj; rw [h _ (by omega), enm j hj _ (iv_p hI j hj).2]; exact pr_nm hP j hj
  · intro j hj; rw [h _ (by omega)]; exact pr_ki hP j hj
  · intro j hj; rw [h _ (by omega)]; exact pr_li hP j hj
  · intro j hj; rw [h _ (by omega)]; exact pr_to hP j hj
  · intro j t hj ht; rw [h _ (by omega)]; exact pr_ta hP j t hj ht
  · intro j t hj ht; rw [h _ (by omega)]; exact pr_tg hP j t hj ht
  · intro j t hj ht; rw [h _ (by omega)]; exact pr_bi hP j t hj ht
  · intro j t hj ht; rw [h _ (by omega)]; exact pr_de hP j t hj ht
  · intro j hj; rw [h _ (by omega)]; exact pr_cn hP j hj
  · intro j k hj hk
    rw [h _ (by omega)] at hk
    have := iv_q hI j hj
    rw [h _ (by omega)]; exact pr_cm hP j k hj hk
  · intro j hj; rw [h _ (by omega)]; exact pr_sn hP j hj
  · intro j k hj hk
    rw [h _ (by omega)] at hk
    have := iv_q hI j hj
    by_cases c : j = q
    · rw [c, hs] at hk; exact absurd hk (Nat.not_lt_zero _)
    · rw [h _ (by omega)]; exact pr_sm hP j k hj hk
  · rw [easc, easm, h 6 (by omega), h 7 (by omega)]; exact hS
  · intro j t hj ht; rw [h _ (by omega)]; exact pr_sc hP j t hj ht
theorem x_rm_no (hP : PR p N μ) {i q : Nat} (hq : q < 10) (hs : ¬ sP N q i < N (952 + 9 * q + 5)) : x_rm (p + 16) q (sP N q i) (N (952 + 9 * q + 5)) μ = μ := by
  have h1 : sP N q i ≤ N (952 + 9 * q + 5) := fx_le _ _ _
  have e : sP N q i = N (952 + 9 * q + 5) := by omega
  unfold x_rm
  rw [e, rmM_0 (by omega), if_neg (Nat.lt_irrefl _)]
  exact w1_e (pr_sn hP q hq)
theorem x_put_no (hP : PR p N μ) {i q : Nat} (hi : i < 16) (hq : q < 10) (hs : N (8 + 59 * i + (23 + q)) = 0) : x_put p i q 0 N μ = μ := by
  have e : up N (8 + 59 * i + (23 + q)) 0 = N := funext fun x => by
    by_cases g : x = 8 + 59 * i + (23 + q)
    · rw [up_eq g, g, hs]
    · exact up_ne g
  have hS := pr_sh hP
  unfold x_put
  rw [e, w1_e (v := nI 0) (by rw [pr_sc hP i q hi hq, hs]), w1_e hS.2.1, w1_e hS.1]
theorem m_takeSeat_no (hok : ev_ok sh_S G) (hp : p ∈ sh_B) (hP : PR p N μ) (hI : INV N) {i q : Nat} (hi : i < N 0) (hq : q < N 1) (hs : ¬ sP N q i < N (952 + 9 * q + 5)) : ev_T sh_S G mi_X4_takeSeat [.ref p, .int (nI i), .int (nI q)] μ (.inl (none, μ)) := by
  have hlt := xp_lt hp
  have hh := iv_h hI
  have h1 := m_X5_remove_s hok hp hP hI (i := i) (q := q) (by omega) (by omega)
  rw [x_rm_no hP (by omega) hs] at h1
  have h2 := m_X6_put hok hp hP hI (i := i) (q := q) (v := 0) hi hq (by omega)
  have hz : N (8 + 59 * i + (23 + q)) = 0 := by
    by_cases c : N (8 + 59 * i + (23 + q)) = 0
    · exact c
    · exact absurd (iv_sc hI i q (by omega) (by omega) c) hs
  rw [x_put_no hP (by omega) (by omega) hz] at h2
  refine ev_tri hok okM_X4_takeSeat (Nat.le_of_ble_eq_true rfl) 400 ?_
  rw [at_X4_takeSeat_0]
  repeat' (first
    | (with_reducible refine ev_rid ?_; simp (disch := first | omega | assumption) only [ev_run_c, ev_run_n, ev_fj, ev_stp, ev_lk, ev_fv, ev_as, ev_sz, ev_st1, ev_st2, ev_rm, ev_pk, ev_Jof, ev_go, lv_args, List.map_cons, List.map_nil, List.zip_cons_cons, List.zip_nil_left, List.zip_nil_right, List.nil_append, List.cons_append, ↓reduceIte, reduceCtorEq, Int.reduceToNat, Nat.reduceEqDiff, Nat.reduceAdd, Nat.reduceLT, Nat.reduceLeDiff, Nat.reduceMul, Nat.reduceSub, Value.category, false_implies, true_and, and_true, Bool.false_eq_true, Option.some.injEq, exists_eq_left', Option.toList_some, Option.toList_none, ev_km, ev_k2, ev_k3, ev_k4, ev_k5, ev_l0, ev_l1, sh_1, sh_2, sh_3, sh_4, sh_5, ca_X4_174, ca_X4_177, cd_X4_takeSeat_0, fl_X4_50, fl_X4_56, no_0, no_1, no_lt, no_le, no_eq, no_lt0, no_ge0, no_gt0, no_le0, no_eq0, no_0eq, no_eqm, no_meq, no_m0, no_mlt, no_mge, no_mgt, no_mm, no_i01, no_i10, no_in, no_or, no_ifm, no_mul, nI_add, no_sub, pk_div, iI_if, nI_clamp, oI_n, oI_s, not_true_eq_false, not_false_eq_true, forall_const, true_implies, false_and, and_false, or_false, false_or, Classical.not_not, true_or, or_true, no_b, no_eq1, eq_self, and_self, xk_0 hp, xk_1 hp, xk_2 hp, xk_3 hp, xk_4 hp, xk_5 hp, xk_6 hp, xk_7 hp, xk_8 hp, xk_9 hp, xk_10 hp, xk_11 hp, xk_12 hp, xk_13 hp, xk_14 hp, xk_15 hp, xk_16 hp, xk_17 hp, xk_18 hp, xk_19 hp, xk_20 hp, xk_21 hp, xl_1 hp, xl_2 hp, xl_3 hp, xl_4 hp, xl_6 hp, xl_8 hp, xl_10 hp, xl_12 hp, xl_14 hp, xl_15 hp, xl_17 hp, xl_18 hp, xl_21 hp, xp_7 hp, xp_8 hp, xp_9 hp, xp_10 hp, xp_11 hp, xp_12 hp, xp_13 hp, xp_14 hp, xp_15 hp, xp_16 hp, xp_17 hp, xp_t5 hp, xp_t7 hp, xp_t9 hp, xp_t11 hp, xp_t20 hp, xp_s19 hp, xp_a13 hp, xp_b13 hp, xp_a16 hp, xp_b16 hp, xc_r5 hp, xc_c5 hp, xc_r7 hp, xc_c7 hp, xc_r9 hp, xc_c9 hp, xc_r11 hp, xc_c11 hp, xc_r20 hp, xc_c20 hp, no_on])
    | (with_reducible refine ev_gid ?_; simp (disch := first | omega | assumption) only [ev_run_c, ev_run_n, ev_fj, ev_stp, ev_lk, ev_fv, ev_as, ev_sz, ev_st1, ev_st2, ev_rm, ev_pk, ev_Jof, ev_go, lv_args, List.map_cons, List.map_nil, List.zip_cons_cons, List.zip_nil_left, List.zip_nil_right, List.nil_append, List.cons_append, ↓reduceIte, reduceCtorEq, Int.reduceToNat, Nat.reduceEqDiff, Nat.reduceAdd, Nat.reduceLT, Nat.reduceLeDiff, Nat.reduceMul, Nat.reduceSub, Value.category, false_implies, true_and, and_true, Bool.false_eq_true, Option.some.injEq, exists_eq_left', Option.toList_some, Option.toList_none, ev_km, ev_k2, ev_k3, ev_k4, ev_k5, ev_l0, ev_l1, sh_1, sh_2, sh_3, sh_4, sh_5, ca_X4_174, ca_X4_177, cd_X4_takeSeat_0, fl_X4_50, fl_X4_56, no_0, no_1, no_lt, no_le, no_eq, no_lt0, no_ge0, no_gt0, no_le0, no_eq0, no_0eq, no_eqm, no_meq, no_m0, no_mlt, no_mge, no_mgt, no_mm, no_i01, no_i10, no_in, no_or, no_ifm, no_mul, nI_add, no_sub, pk_div, iI_if, nI_clamp, oI_n, oI_s, not_true_eq_false, not_false_eq_true, forall_const, true_implies, false_and, and_false, or_false, false_or, Classical.not_not, true_or, or_true, no_b, no_eq1, eq_self, and_self, xk_0 hp, xk_1 hp, xk_2 hp, xk_3 hp, xk_4 hp, xk_5 hp, xk_6 hp, xk_7 hp, xk_8 hp, xk_9 hp, xk_10 hp, xk_11 hp, xk_12 hp, xk_13 hp, xk_14 hp, xk_15 hp, xk_16 hp, xk_17 hp, xk_18 hp, xk_19 hp, xk_20 hp, xk_21 hp, xl_1 hp, xl_2 hp, xl_3 hp, xl_4 hp, xl_6 hp, xl_8 hp, xl_10 hp, xl_12 hp, xl_14 hp, xl_15 hp, xl_17 hp, xl_18 hp, xl_21 hp, xp_7 hp, xp_8 hp, xp_9 hp, xp_10 hp, xp_11 hp, xp_12 hp, xp_13 hp, xp_14 hp, xp_15 hp, xp_16 hp, xp_17 hp, xp_t5 hp, xp_t7 hp, xp_t9 hp, xp_t11 hp, xp_t20 hp, xp_s19 hp, xp_a13 hp, xp_b13 hp, xp_a16 hp, xp_b16 hp, xc_r5 hp, xc_c5 hp, xc_r7 hp, xc_c7 hp, xc_r9 hp, xc_c9 hp, xc_r11 hp, xc_c11 hp, xc_r20 hp, xc_c20 hp, no_on])
    | (with_reducible refine And.intro (fun q => ?_) (fun q => ?_) <;> (try simp (disch := first | omega | assumption) only [no_0, no_1, no_lt, no_le, no_eq, no_lt0, no_ge0, no_gt0, no_le0, no_eq0, no_0eq, no_eqm, no_meq, no_m0, no_mlt, no_mge, no_mgt, no_mm, no_i01, no_i10, no_in, no_or, no_ifm, no_mul, nI_add, no_sub, pk_div, iI_if, nI_clamp, oI_n, oI_s, not_true_eq_false, not_false_eq_true, forall_const, true_implies, false_and, and_false, or_false, false_or, Classical.not_not, true_or, or_true, no_b, no_eq1, eq_self, and_self, xk_0 hp, xk_1 hp, xk_2 hp, xk_3 hp, xk_4 hp, xk_5 hp, xk_6 hp, xk_7 hp, xk_8 hp, xk_9 hp, xk_10 hp, xk_11 hp, xk_12 hp, xk_13 hp, xk_14 hp, xk_15 hp, xk_16 hp, xk_17 hp, xk_18 hp, xk_19 hp, xk_20 hp, xk_21 hp, xl_1 hp, xl_2 hp, xl_3 hp, xl_4 hp, xl_6 hp, xl_8 hp, xl_10 hp, xl_12 hp, xl_14 hp, xl_15 hp, xl_17 hp, xl_18 hp, xl_21 hp, xp_7 hp, xp_8 hp, xp_9 hp, xp_10 hp, xp_11 hp, xp_12 hp, xp_13 hp, xp_14 hp, xp_15 hp, xp_16 hp, xp_17 hp, xp_t5 hp, xp_t7 hp, xp_t9 hp, xp_t11 hp, xp_t20 hp, xp_s19 hp, xp_a13 hp, xp_b13 hp, xp_a16 hp, xp_b16 hp, xc_r5 hp, xc_c5 hp, xc_r7 hp, xc_c7 hp, xc_r9 hp, xc_c9 hp, xc_r11 hp, xc_c11 hp, xc_r20 hp, xc_c20 hp, no_on] at q))
    | (with_reducible refine ev_ci h1 ?_)
    | (with_reducible refine ev_ci h2 ?_)
    | with_reducible refine ev_ci (m_X5_remove_s hok hp (by with_reducible assumption) (by with_reducible assumption) ?_ ?_) ?_
    | with_reducible refine ev_ci (m_X6_put hok hp (by with_reducible assumption) (by with_reducible assumption) ?_ ?_ ?_) ?_
    | omega
    | with_reducible assumption
    | with_reducible rfl
    | (refine Nat.lt_of_lt_of_le ?_ (Nat.le_refl 312); omega)
    | with_reducible refine lp_nx ?_ ?_ ?_ ?_
    | with_reducible refine lp_st ?_ ?_ ?_
    | with_reducible refine ls_c ?_ ?_
    | with_reducible refine vi_c ?_
    | with_reducible refine re_c ?_
    | with_reducible refine vz_c ?_
    | with_reducible refine rz_c ?_
    | exact trivial
    | with_reducible refine And.intro ?_ ?_
    | simp (disch := first | omega | assumption) only [ev_run_c, ev_run_n, ev_fj, ev_stp, ev_lk, ev_fv, ev_as, ev_sz, ev_st1, ev_st2, ev_rm, ev_pk, ev_Jof, ev_go, lv_args, List.map_cons, List.map_nil, List.zip_cons_cons, List.zip_nil_left, List.zip_nil_right, List.nil_append, List.cons_append, ↓reduceIte, reduceCtorEq, Int.reduceToNat, Nat.reduceEqDiff, Nat.reduceAdd, Nat.reduceLT, Nat.reduceLeDiff, Nat.reduceMul, Nat.reduceSub, Value.category, false_implies, true_and, and_true, Bool.false_eq_true, Option.some.injEq, exists_eq_left', Option.toList_some, Option.toList_none, ev_km, ev_k2, ev_k3, ev_k4, ev_k5, ev_l0, ev_l1, sh_1, sh_2, sh_3, sh_4, sh_5, ca_X4_174, ca_X4_177, cd_X4_takeSeat_0, fl_X4_50, fl_X4_56, no_0, no_1, no_lt, no_le, no_eq, no_lt0, no_ge0, no_gt0, no_le0, no_eq0, no_0eq, no_eqm, no_meq, no_m0, no_mlt, no_mge, no_mgt, no_mm, no_i01, no_i10, no_in, no_or, no_ifm, no_mul, nI_add, no_sub, pk_div, iI_if, nI_clamp, oI_n, oI_s, not_true_eq_false, not_false_eq_true, forall_const, true_implies, false_and, and_false, or_false, false_or, Classical.not_not, true_or, or_true, no_b, no_eq1, eq_self, and_self, xk_0 hp, xk_1 hp, xk_2 hp, xk_3 hp, xk_4 hp, xk_5 hp, xk_6 hp, xk_7 hp, xk_8 hp, xk_9 hp, xk_10 hp, xk_11 hp, xk_12 hp, xk_13 hp, xk_14 hp, xk_15 hp, xk_16 hp, xk_17 hp, xk_18 hp, xk_19 hp, xk_20 hp, xk_21 hp, xl_1 hp, xl_2 hp, xl_3 hp, xl_4 hp, xl_6 hp, xl_8 hp, xl_10 hp, xl_12 hp, xl_14 hp, xl_15 hp, xl_17 hp, xl_18 hp, xl_21 hp, xp_7 hp, xp_8 hp, xp_9 hp, xp_10 hp, xp_11 hp, xp_12 hp, xp_13 hp, xp_14 hp, xp_15 hp, xp_16 hp, xp_17 hp, xp_t5 hp, xp_t7 hp, xp_t9 hp, xp_t11 hp, xp_t20 hp, xp_s19 hp, xp_a13 hp, xp_b13 hp, xp_a16 hp, xp_b16 hp, xc_r5 hp, xc_c5 hp, xc_r7 hp, xc_c7 hp, xc_r9 hp, xc_c9 hp, xc_r11 hp, xc_c11 hp, xc_r20 hp, xc_c20 hp, no_on]
    | exact rfl
    | (split <;> omega))
/-- each person in turn leaves -/
def clR (N : Nat → Nat) (q : Nat) : Nat → Nat → Nat
  | 0 => N
  | k + 1 => if sP (clR N q k) q k < clR N q k (952 + 9 * q + 5) then lvN (clR N q k) k q else clR N q k
/-- the first one leaves -/
def rcl (N : Nat → Nat) (q : Nat) : Nat → Nat → Nat
  | 0 => N
  | k + 1 => lvN (rcl N q k) (rcl N q k (952 + 9 * q + 6)) q
/-- all but the seats and scores of a pancake -/
def AQ (q : Nat) (N N' : Nat → Nat) : Prop := ∀ x, (∀ i, i < 16 → x ≠ 8 + 59 * i + (23 + q)) → x < 952 + 9 * q + 5 ∨ 952 + 9 * q + 9 ≤ x → x < 1042 → N' x = N x
theorem AQ_lv (hI : INV N) {i q : Nat} (hi : i < 16) (hq : q < 10) : AQ q N (lvN N i q) := by
  intro x h1 h2 h4
  have h0 := (iv_q hI q hq).2.2
  rcases Nat.lt_or_ge x 952 with h3 | h3
  · exact lvN_lo h3 (h1 i hi)
  · by_cases c : 952 + 9 * q ≤ x ∧ x < 952 + 9 * q + 5
    · have e : x = 952 + 9 * q + (x - (952 + 9 * q)) := by omega
      rw [e]
      exact lvN_w hi hq (by omega)
    · have e : x = 952 + 9 * ((x - 952) / 9) + (x - 952) % 9 := by omega
      rw [e]
      exact lvN_ne hi hq (by omega) (Nat.mod_lt _ (by omega)) h0
theorem clR_ok (hI : INV N) {q k : Nat} (hq : q < 10) (hk : k ≤ 16) : INV (clR N q k) ∧ AQ q N (clR N q k) ∧ ∀ j, sd (clR N q k) j q → k ≤ j := by
  induction k with
  | zero => exact ⟨hI, fun x _ _ _ => rfl, fun j _ => Nat.zero_le j⟩
  | succ k ih =>
    obtain ⟨h1, h2, h3⟩ := ih (by omega)
    by_cases c : sP (clR N q k) q k < clR N q k (952 + 9 * q + 5)
    · have e : clR N q (k + 1) = lvN (clR N q k) k q := if_pos c
      rw [e]
      refine ⟨INV_lv h1 (by omega) hq c, fun x hx hx2 hx3 => (AQ_lv h1 (by omega) hq x hx hx2 hx3).trans (h2 x hx hx2 hx3), fun j hj => ?_⟩
      obtain ⟨h4, h5⟩ := (lvN_sd h1 (by omega) hq hq c).mp hj
      have h6 := h3 j h4
      have h7 : j ≠ k := fun z => h5 ⟨z, rfl⟩
      omega
    · have e : clR N q (k + 1) = clR N q k := if_neg c
      rw [e]
      refine ⟨h1, h2, fun j hj => ?_⟩
      have h6 := h3 j hj
      have h7 : j ≠ k := fun z => c (sd_iff.mpr (z ▸ hj))
      omega
theorem clR_0 (hI : INV N) {q : Nat} (hq : q < 10) : clR N q (N 0) (952 + 9 * q + 5) = 0 := by
  have hh := iv_h hI
  obtain ⟨h1, h2, h3⟩ := clR_ok hI hq hh.1
  have e0 : clR N q (N 0) 0 = N 0 := h2 0 (fun i hi => by omega) (by omega) (by omega)
  rcases Nat.eq_zero_or_pos (clR N q (N 0) (952 + 9 * q + 5)) with g | g
  · exact g
  · have h4 := iv_st h1 q 0 hq g
    have h5 := h3 _ ⟨0, g, rfl⟩
    omega
theorem rcl_ok (hI : INV N) {q k : Nat} (hq : q < 10) (hk : k ≤ N (952 + 9 * q + 5)) : INV (rcl N q k) ∧ AQ q N (rcl N q k) ∧ rcl N q k (952 + 9 * q + 5) = N (952 + 9 * q + 5) - k := by
  induction k with
  | zero => exact ⟨hI, fun x _ _ _ => rfl, rfl⟩
  | succ k ih =>
    obtain ⟨h1, h2, h3⟩ := ih (by omega)
    have hh := iv_h h1
    have h4 := iv_st h1 q 0 hq (by omega)
    have h5 : sP (rcl N q k) q (rcl N q k (952 + 9 * q + 6)) < rcl N q k (952 + 9 * q + 5) := sd_iff.mpr ⟨0, by omega, rfl⟩
    have h6 : rcl N q k (952 + 9 * q + 6) < 16 := by
      have : rcl N q k (952 + 9 * q + (6 + 0)) = rcl N q k (952 + 9 * q + 6) := rfl
      omega
    refine ⟨INV_lv h1 h6 hq h5, fun x hx hx2 hx3 => (AQ_lv h1 h6 hq x hx hx2 hx3).trans (h2 x hx hx2 hx3), ?_⟩
    show lvN (rcl N q k) (rcl N q k (952 + 9 * q + 6)) q (952 + 9 * q + 5) = _
    rw [lvN_5 h6 hq, h3]
    omega
def rclN (N : Nat → Nat) (q : Nat) : Nat → Nat := rcl N q (N (952 + 9 * q + 5))
theorem INV_rcl (hI : INV N) {q : Nat} (hq : q < 10) : INV (rclN N q) := (rcl_ok hI hq (Nat.le_refl _)).1
theorem PR_hi (hP : PR p N μ) (h : ∀ x, x < 1042 → N' x = N x) (h3 : ∀ q, q < 10 → N (952 + 9 * q + 1) ≤ 3 ∧ N (952 + 9 * q + 5) ≤ 3) (hl : ∀ j, j < 16 → N (8 + 59 * j + 6) ≤ 6) (h0 : N 0 ≤ 16) (h1 : N 1 ≤ 10) : PR p N' μ := by
  have hH := pr_h hP
  have hS := pr_sh hP
  have e0 : N' 0 = N 0 := h 0 (by omega)
  have e1 : N' 1 = N 1 := h 1 (by omega)
  have easc : asc N' (N' 0) = asc N (N 0) := by
    rw [e0]
    refine sm_ext (fun i' hi' => ?_)
    rw [e1]
    refine sm_ext (fun q' hq' => ?_)
    rw [h _ (by omega)]
  have easm : asm N' (N' 0) = asm N (N 0) := by
    rw [e0]
    refine sm_ext (fun i' hi' => ?_)
    rw [e1]
    refine sm_ext (fun q' hq' => ?_)
    exact h _ (by omega)
  have enm : ∀ j, j < 16 → ∀ n, n ≤ 6 → nmL N' j n = nmL N j n := fun j hj n => by
    induction n with
    | zero => exact fun _ => rfl
    | succ n ih =>
      intro hn
      show nmL N' j n <<< 8 ||| _ = nmL N j n <<< 8 ||| _
      rw [ih (by omega), h _ (by omega)]
  refine ⟨?_, ?_, ?_, ?_, ?_, ?_, ?_, ?_, ?_, ⟨?_, ?_⟩, ⟨?_, ?_⟩, ?_, ?_⟩
  · rw [e0, e1, h 2 (by omega), h 3 (by omega), h 4 (by omega), h 5 (by omega)]; exact hH
  · intro j hj; rw [h _ (by omega), enm j hj _ (hl j hj)]; exact pr_nm hP j hj
  · intro j hj; rw [h _ (by omega)]; exact pr_ki hP j hj
  · intro j hj; rw [h _ (by omega)]; exact pr_li hP j hj
  · intro j hj; rw [h _ (by omega)]; exact pr_to hP j hj
  · intro j t hj ht; rw [h _ (by omega)]; exact pr_ta hP j t hj ht
  · intro j t hj ht; rw [h _ (by omega)]; exact pr_tg hP j t hj ht
  · intro j t hj ht; rw [h _ (by omega)]; exact pr_bi hP j t hj ht
  · intro j t hj ht; rw [h _ (by omega)]; exact pr_de hP j t hj ht
  · intro j hj; rw [h _ (by omega)]; exact pr_cn hP j hj
  · intro j k hj hk
    rw [h _ (by omega)] at hk
    have := h3 j hj
    rw [h _ (by omega)]; exact pr_cm hP j k hj hk
  · intro j hj; rw [h _ (by omega)]; exact pr_sn hP j hj
  · intro j k hj hk
    rw [h _ (by omega)] at hk
    have := h3 j hj
    rw [h _ (by omega)]; exact pr_sm hP j k hj hk
  · rw [easc, easm, h 6 (by omega), h 7 (by omega)]; exact hS
  · intro j t hj ht; rw [h _ (by omega)]; exact pr_sc hP j t hj ht
theorem PR_clR {q : Nat} (hP : PR p (clR N q (N 0)) μ) (hI : INV N) (hq : q < 10) : PR p (rclN N q) μ := by
  have hh := iv_h hI
  obtain ⟨a1, a2, a3⟩ := clR_ok hI hq hh.1
  have a4 := clR_0 hI hq
  obtain ⟨b1, b2, b3⟩ := rcl_ok hI hq (Nat.le_refl (N (952 + 9 * q + 5)))
  have b4 : rclN N q (952 + 9 * q + 5) = 0 := by
    show rcl N q (N (952 + 9 * q + 5)) (952 + 9 * q + 5) = 0
    omega
  have zs : ∀ M : Nat → Nat, INV M → M (952 + 9 * q + 5) = 0 → ∀ i, i < 16 → M (8 + 59 * i + (23 + q)) = 0 := fun M hM h0 i hi => by
    by_cases c : M (8 + 59 * i + (23 + q)) = 0
    · exact c
    · have := iv_sc hM i q hi hq c
      omega
  have key : ∀ x, x < 1042 → x < 952 + 9 * q + 6 ∨ 952 + 9 * q + 9 ≤ x → rclN N q x = clR N q (N 0) x := fun x hx hx2 => by
    by_cases c : ∃ i, i < 16 ∧ x = 8 + 59 * i + (23 + q)
    · obtain ⟨i, hi, rfl⟩ := c
      exact (zs (rclN N q) b1 b4 i hi).trans (zs _ a1 a4 i hi).symm
    · by_cases c5 : x = 952 + 9 * q + 5
      · rw [c5, b4, a4]
      · have c6 : ∀ i, i < 16 → x ≠ 8 + 59 * i + (23 + q) := fun i hi z => c ⟨i, hi, z⟩
        exact (b2 x c6 (by omega) hx).trans (a2 x c6 (by omega) hx).symm
  have s1 : PR p (fun x => if x < 952 + 9 * q + 6 ∨ 952 + 9 * q + 9 ≤ x then clR N q (N 0) x else rclN N q x) μ := PR_cong hP a1 hq a4 (fun x hx => if_pos hx)
  refine PR_hi s1 (fun x hx => ?_) (fun j hj => ?_) (fun j hj => ?_) ?_ ?_
  · by_cases c : x < 952 + 9 * q + 6 ∨ 952 + 9 * q + 9 ≤ x
    · rw [if_pos c]; exact key x hx c
    · rw [if_neg c]
  · have h9 := iv_q a1 j hj
    rw [if_pos (by omega), if_pos (by omega)]
    exact h9.2
  · have h9 := iv_p a1 j hj
    rw [if_pos (by omega)]
    exact h9.2
  · rw [if_pos (by omega)]; exact (iv_h a1).1
  · rw [if_pos (by omega)]; exact (iv_h a1).2.1
def xcl (p q : Nat) (N : Nat → Nat) (μ : ev_M) : Nat → ev_M
  | 0 => μ
  | k + 1 => if sP (clR N q k) q k < clR N q k (952 + 9 * q + 5) then x_take p k q (clR N q k) (xcl p q N μ k) else xcl p q N μ k
theorem xcl_ok (hP : PR p N μ) (hI : INV N) {q k : Nat} (hq : q < N 1) (hk : k ≤ N 0) : PR p (clR N q k) (xcl p q N μ k) ∧ Fp p μ (xcl p q N μ k) := by
  have hh := iv_h hI
  induction k with
  | zero => exact ⟨hP, Fp_rf⟩
  | succ k ih =>
    obtain ⟨h1, h2⟩ := ih (by omega)
    obtain ⟨i1, i2, i3⟩ := clR_ok hI (show q < 10 by omega) (show k ≤ 16 by omega)
    have e0 : clR N q k 0 = N 0 := i2 0 (fun i hi => by omega) (by omega) (by omega)
    have e1 : clR N q k 1 = N 1 := i2 1 (fun i hi => by omega) (by omega) (by omega)
    by_cases c : sP (clR N q k) q k < clR N q k (952 + 9 * q + 5)
    · have e : clR N q (k + 1) = lvN (clR N q k) k q := if_pos c
      have e2 : xcl p q N μ (k + 1) = x_take p k q (clR N q k) (xcl p q N μ k) := if_pos c
      rw [e, e2]
      exact ⟨PR_take h1 i1 (by omega) (by omega) c, Fp_take h2⟩
    · have e : clR N q (k + 1) = clR N q k := if_neg c
      have e2 : xcl p q N μ (k + 1) = xcl p q N μ k := if_neg c
      rw [e, e2]
      exact ⟨h1, h2⟩
theorem m_X4_clearSeats (hok : ev_ok sh_S G) (hp : p ∈ sh_B) (hP : PR p N μ) (hI : INV N) {q : Nat} (hq : q < N 1) : ev_T sh_S G mi_X4_clearSeats [.ref p, .int (nI q)] μ (.inl (none, xcl p q N μ (N 0))) := by
  have hlt := xp_lt hp
  have hh := iv_h hI
  refine ev_tri1 hok okM_X4_clearSeats (Nat.le_of_ble_eq_true rfl) 2 [0, 1, 2] (N 0) 400 (fun k => [.ref p, .int (nI q), .int (nI k)]) (fun k => xcl p q N μ k) (fun _ => True) ?_ ?_
  · intro k hk _
    rw [at_X4_clearSeats_2]
    obtain ⟨h1, h2⟩ := xcl_ok hP hI hq hk
    obtain ⟨i1, i2, i3⟩ := clR_ok hI (show q < 10 by omega) (show k ≤ 16 by omega)
    have e0 : clR N q k 0 = N 0 := i2 0 (fun i hi => by omega) (by omega) (by omega)
    have e1 : clR N q k 1 = N 1 := i2 1 (fun i hi => by omega) (by omega) (by omega)
    have hH := pr_h h1
    rcases Nat.lt_or_ge k (N 0) with hkn | hkn
    · by_cases c : sP (clR N q k) q k < clR N q k (952 + 9 * q + 5)
      · have e2 : xcl p q N μ (k + 1) = x_take p k q (clR N q k) (xcl p q N μ k) := if_pos c
        have h3 := m_X4_takeSeat hok hp h1 i1 (i := k) (q := q) (by omega) (by omega) c
        repeat' (first
          | (with_reducible refine ev_rid ?_; simp (disch := first | omega | assumption) only [ev_run_c, ev_run_n, ev_fj, ev_stp, ev_lk, ev_fv, ev_as, ev_sz, ev_st1, ev_st2, ev_rm, ev_pk, ev_Jof, ev_go, lv_args, List.map_cons, List.map_nil, List.zip_cons_cons, List.zip_nil_left, List.zip_nil_right, List.nil_append, List.cons_append, ↓reduceIte, reduceCtorEq, Int.reduceToNat, Nat.reduceEqDiff, Nat.reduceAdd, Nat.reduceLT, Nat.reduceLeDiff, Nat.reduceMul, Nat.reduceSub, Value.category, false_implies, true_and, and_true, Bool.false_eq_true, Option.some.injEq, exists_eq_left', Option.toList_some, Option.toList_none, ev_km, ev_k2, ev_k3, ev_k4, ev_k5, ev_l0, ev_l1, sh_1, sh_2, sh_3, sh_4, sh_5, at_X4_clearSeats_2, at_X4_clearSeats_22, ca_X4_180, cd_X4_clearSeats_0, cd_X4_clearSeats_2, cd_X4_clearSeats_22, fl_X4_71, no_0, no_1, no_lt, no_le, no_eq, no_lt0, no_ge0, no_gt0, no_le0, no_eq0, no_0eq, no_eqm, no_meq, no_m0, no_mlt, no_mge, no_mgt, no_mm, no_i01, no_i10, no_in, no_or, no_ifm, no_mul, nI_add, no_sub, pk_div, iI_if, nI_clamp, oI_n, oI_s, not_true_eq_false, not_false_eq_true, forall_const, true_implies, false_and, and_false, or_false, false_or, Classical.not_not, true_or, or_true, no_b, no_eq1, eq_self, and_self, xk_0 hp, xk_1 hp, xk_2 hp, xk_3 hp, xk_4 hp, xk_5 hp, xk_6 hp, xk_7 hp, xk_8 hp, xk_9 hp, xk_10 hp, xk_11 hp, xk_12 hp, xk_13 hp, xk_14 hp, xk_15 hp, xk_16 hp, xk_17 hp, xk_18 hp, xk_19 hp, xk_20 hp, xk_21 hp, xl_1 hp, xl_2 hp, xl_3 hp, xl_4 hp, xl_6 hp, xl_8 hp, xl_10 hp, xl_12 hp, xl_14 hp, xl_15 hp, xl_17 hp, xl_18 hp, xl_21 hp, xp_7 hp, xp_8 hp, xp_9 hp, xp_10 hp, xp_11 hp, xp_12 hp, xp_13 hp, xp_14 hp, xp_15 hp, xp_16 hp, xp_17 hp, xp_t5 hp, xp_t7 hp, xp_t9 hp, xp_t11 hp, xp_t20 hp, xp_s19 hp, xp_a13 hp, xp_b13 hp, xp_a16 hp, xp_b16 hp, xc_r5 hp, xc_c5 hp, xc_r7 hp, xc_c7 hp, xc_r9 hp, xc_c9 hp, xc_r11 hp, xc_c11 hp, xc_r20 hp, xc_c20 hp, no_on, hH, e0, e2])
          | (with_reducible refine ev_gid ?_; simp (disch := first | omega | assumption) only [ev_run_c, ev_run_n, ev_fj, ev_stp, ev_lk, ev_fv, ev_as, ev_sz, ev_st1, ev_st2, ev_rm, ev_pk, ev_Jof, ev_go, lv_args, List.map_cons, List.map_nil, List.zip_cons_cons, List.zip_nil_left, List.zip_nil_right, List.nil_append, List.cons_append, ↓reduceIte, reduceCtorEq, Int.reduceToNat, Nat.reduceEqDiff, Nat.reduceAdd, Nat.reduceLT, Nat.reduceLeDiff, Nat.reduceMul, Nat.reduceSub, Value.category, false_implies, true_and, and_true, Bool.false_eq_true, Option.some.injEq, exists_eq_left', Option.toList_some, Option.toList_none, ev_km, ev_k2, ev_k3, ev_k4, ev_k5, ev_l0, ev_l1, sh_1, sh_2, sh_3, sh_4, sh_5, at_X4_clearSeats_2, at_X4_clearSeats_22, ca_X4_180, cd_X4_clearSeats_0, cd_X4_clearSeats_2, cd_X4_clearSeats_22, fl_X4_71, no_0, no_1, no_lt, no_le, no_eq, no_lt0, no_ge0, no_gt0, no_le0, no_eq0, no_0eq, no_eqm, no_meq, no_m0, no_mlt, no_mge, no_mgt, no_mm, no_i01, no_i10, no_in, no_or, no_ifm, no_mul, nI_add, no_sub, pk_div, iI_if, nI_clamp, oI_n, oI_s, not_true_eq_false, not_false_eq_true, forall_const, true_implies, false_and, and_false, or_false, false_or, Classical.not_not, true_or, or_true, no_b, no_eq1, eq_self, and_self, xk_0 hp, xk_1 hp, xk_2 hp, xk_3 hp, xk_4 hp, xk_5 hp, xk_6 hp, xk_7 hp, xk_8 hp, xk_9 hp, xk_10 hp, xk_11 hp, xk_12 hp, xk_13 hp, xk_14 hp, xk_15 hp, xk_16 hp, xk_17 hp, xk_18 hp, xk_19 hp, xk_20 hp, xk_21 hp, xl_1 hp, xl_2 hp, xl_3 hp, xl_4 hp, xl_6 hp, xl_8 hp, xl_10 hp, xl_12 hp, xl_14 hp, xl_15 hp, xl_17 hp, xl_18 hp, xl_21 hp, xp_7 hp, xp_8 hp, xp_9 hp, xp_10 hp, xp_11 hp, xp_12 hp, xp_13 hp, xp_14 hp, xp_15 hp, xp_16 hp, xp_17 hp, xp_t5 hp, xp_t7 hp, xp_t9 hp, xp_t11 hp, xp_t20 hp, xp_s19 hp, xp_a13 hp, xp_b13 hp, xp_a16 hp, xp_b16 hp, xc_r5 hp, xc_c5 hp, xc_r7 hp, xc_c7 hp, xc_r9 hp, xc_c9 hp, xc_r11 hp, xc_c11 hp, xc_r20 hp, xc_c20 hp, no_on, hH, e0, e2])
          | (with_reducible refine And.intro (fun q => ?_) (fun q => ?_) <;> (try simp (disch := first | omega | assumption) only [no_0, no_1, no_lt, no_le, no_eq, no_lt0, no_ge0, no_gt0, no_le0, no_eq0, no_0eq, no_eqm, no_meq, no_m0, no_mlt, no_mge, no_mgt, no_mm, no_i01, no_i10, no_in, no_or, no_ifm, no_mul, nI_add, no_sub, pk_div, iI_if, nI_clamp, oI_n, oI_s, not_true_eq_false, not_false_eq_true, forall_const, true_implies, false_and, and_false, or_false, false_or, Classical.not_not, true_or, or_true, no_b, no_eq1, eq_self, and_self, xk_0 hp, xk_1 hp, xk_2 hp, xk_3 hp, xk_4 hp, xk_5 hp, xk_6 hp, xk_7 hp, xk_8 hp, xk_9 hp, xk_10 hp, xk_11 hp, xk_12 hp, xk_13 hp, xk_14 hp, xk_15 hp, xk_16 hp, xk_17 hp, xk_18 hp, xk_19 hp, xk_20 hp, xk_21 hp, xl_1 hp, xl_2 hp, xl_3 hp, xl_4 hp, xl_6 hp, xl_8 hp, xl_10 hp, xl_12 hp, xl_14 hp, xl_15 hp, xl_17 hp, xl_18 hp, xl_21 hp, xp_7 hp, xp_8 hp, xp_9 hp, xp_10 hp, xp_11 hp, xp_12 hp, xp_13 hp, xp_14 hp, xp_15 hp, xp_16 hp, xp_17 hp, xp_t5 hp, xp_t7 hp, xp_t9 hp, xp_t11 hp, xp_t20 hp, xp_s19 hp, xp_a13 hp, xp_b13 hp, xp_a16 hp, xp_b16 hp, xc_r5 hp, xc_c5 hp, xc_r7 hp, xc_c7 hp, xc_r9 hp, xc_c9 hp, xc_r11 hp, xc_c11 hp, xc_r20 hp, xc_c20 hp, no_on, hH, e0, e2] at q))
          | (with_reducible refine ev_ci h3 ?_)
          | omega
          | with_reducible assumption
          | with_reducible rfl
          | (refine Nat.lt_of_lt_of_le ?_ (Nat.le_refl 312); omega)
          | with_reducible refine lp_nx ?_ ?_ ?_ ?_
          | with_reducible refine lp_st ?_ ?_ ?_
          | with_reducible refine ls_c ?_ ?_
          | with_reducible refine vi_c ?_
          | with_reducible refine re_c ?_
          | with_reducible refine vz_c ?_
          | with_reducible refine rz_c ?_
          | exact trivial
          | with_reducible refine And.intro ?_ ?_
          | simp (disch := first | omega | assumption) only [ev_run_c, ev_run_n, ev_fj, ev_stp, ev_lk, ev_fv, ev_as, ev_sz, ev_st1, ev_st2, ev_rm, ev_pk, ev_Jof, ev_go, lv_args, List.map_cons, List.map_nil, List.zip_cons_cons, List.zip_nil_left, List.zip_nil_right, List.nil_append, List.cons_append, ↓reduceIte, reduceCtorEq, Int.reduceToNat, Nat.reduceEqDiff, Nat.reduceAdd, Nat.reduceLT, Nat.reduceLeDiff, Nat.reduceMul, Nat.reduceSub, Value.category, false_implies, true_and, and_true, Bool.false_eq_true, Option.some.injEq, exists_eq_left', Option.toList_some, Option.toList_none, ev_km, ev_k2, ev_k3, ev_k4, ev_k5, ev_l0, ev_l1, sh_1, sh_2, sh_3, sh_4, sh_5, at_X4_clearSeats_2, at_X4_clearSeats_22, ca_X4_180, cd_X4_clearSeats_0, cd_X4_clearSeats_2, cd_X4_clearSeats_22, fl_X4_71, no_0, no_1, no_lt, no_le, no_eq, no_lt0, no_ge0, no_gt0, no_le0, no_eq0, no_0eq, no_eqm, no_meq, no_m0, no_mlt, no_mge, no_mgt, no_mm, no_i01, no_i10, no_in, no_or, no_ifm, no_mul, nI_add, no_sub, pk_div, iI_if, nI_clamp, oI_n, oI_s, not_true_eq_false, not_false_eq_true, forall_const, true_implies, false_and, and_false, or_false, false_or, Classical.not_not, true_or, or_true, no_b, no_eq1, eq_self, and_self, xk_0 hp, xk_1 hp, xk_2 hp, xk_3 hp, xk_4 hp, xk_5 hp, xk_6 hp, xk_7 hp, xk_8 hp, xk_9 hp, xk_10 hp, xk_11 hp, xk_12 hp, xk_13 hp, xk_14 hp, xk_15 hp, xk_16 hp, xk_17 hp, xk_18 hp, xk_19 hp, xk_20 hp, xk_21 hp, xl_1 hp, xl_2 hp, xl_3 hp, xl_4 hp, xl_6 hp, xl_8 hp, xl_10 hp, xl_12 hp, xl_14 hp, xl_15 hp, xl_17 hp, xl_18 hp, xl_21 hp, xp_7 hp, xp_8 hp, xp_9 hp, xp_10 hp, xp_11 hp, xp_12 hp, xp_13 hp, xp_14 hp, xp_15 hp, xp_16 hp, xp_17 hp, xp_t5 hp, xp_t7 hp, xp_t9 hp, xp_t11 hp, xp_t20 hp, xp_s19 hp, xp_a13 hp, xp_b13 hp, xp_a16 hp, xp_b16 hp, xc_r5 hp, xc_c5 hp, xc_r7 hp, xc_c7 hp, xc_r9 hp, xc_c9 hp, xc_r11 hp, xc_c11 hp, xc_r20 hp, xc_c20 hp, no_on, hH, e0, e2]
          | exact rfl
          | (split <;> omega))
      · have e2 : xcl p q N μ (k + 1) = xcl p q N μ k := if_neg c
        have h3 := m_takeSeat_no hok hp h1 i1 (i := k) (q := q) (by omega) (by omega) c
        repeat' (first
          | (with_reducible refine ev_rid ?_; simp (disch := first | omega | assumption) only [ev_run_c, ev_run_n, ev_fj, ev_stp, ev_lk, ev_fv, ev_as, ev_sz, ev_st1, ev_st2, ev_rm, ev_pk, ev_Jof, ev_go, lv_args, List.map_cons, List.map_nil, List.zip_cons_cons, List.zip_nil_left, List.zip_nil_right, List.nil_append, List.cons_append, ↓reduceIte, reduceCtorEq, Int.reduceToNat, Nat.reduceEqDiff, Nat.reduceAdd, Nat.reduceLT, Nat.reduceLeDiff, Nat.reduceMul, Nat.reduceSub, Value.category, false_implies, true_and, and_true, Bool.false_eq_true, Option.some.injEq, exists_eq_left', Option.toList_some, Option.toList_none, ev_km, ev_k2, ev_k3, ev_k4, ev_k5, ev_l0, ev_l1, sh_1, sh_2, sh_3, sh_4, sh_5, at_X4_clearSeats_2, at_X4_clearSeats_22, ca_X4_180, cd_X4_clearSeats_0, cd_X4_clearSeats_2, cd_X4_clearSeats_22, fl_X4_71, no_0, no_1, no_lt, no_le, no_eq, no_lt0, no_ge0, no_gt0, no_le0, no_eq0, no_0eq, no_eqm, no_meq, no_m0, no_mlt, no_mge, no_mgt, no_mm, no_i01, no_i10, no_in, no_or, no_ifm, no_mul, nI_add, no_sub, pk_div, iI_if, nI_clamp, oI_n, oI_s, not_true_eq_false, not_false_eq_true, forall_const, true_implies, false_and, and_false, or_false, false_or, Classical.not_not, true_or, or_true, no_b, no_eq1, eq_self, and_self, xk_0 hp, xk_1 hp, xk_2 hp, xk_3 hp, xk_4 hp, xk_5 hp, xk_6 hp, xk_7 hp, xk_8 hp, xk_9 hp, xk_10 hp, xk_11 hp, xk_12 hp, xk_13 hp, xk_14 hp, xk_15 hp, xk_16 hp, xk_17 hp, xk_18 hp, xk_19 hp, xk_20 hp, xk_21 hp, xl_1 hp, xl_2 hp, xl_3 hp, xl_4 hp, xl_6 hp, xl_8 hp, xl_10 hp, xl_12 hp, xl_14 hp, xl_15 hp, xl_17 hp, xl_18 hp, xl_21 hp, xp_7 hp, xp_8 hp, xp_9 hp, xp_10 hp, xp_11 hp, xp_12 hp, xp_13 hp, xp_14 hp, xp_15 hp, xp_16 hp, xp_17 hp, xp_t5 hp, xp_t7 hp, xp_t9 hp, xp_t11 hp, xp_t20 hp, xp_s19 hp, xp_a13 hp, xp_b13 hp, xp_a16 hp, xp_b16 hp, xc_r5 hp, xc_c5 hp, xc_r7 hp, xc_c7 hp, xc_r9 hp, xc_c9 hp, xc_r11 hp, xc_c11 hp, xc_r20 hp, xc_c20 hp, no_on, hH, e0, e2])
          | (with_reducible refine ev_gid ?_; simp (disch := first | omega | assumption) only [ev_run_c, ev_run_n, ev_fj, ev_stp, ev_lk, ev_fv, ev_as, ev_sz, ev_st1, ev_st2, ev_rm, ev_pk, ev_Jof, ev_go, lv_args, List.map_cons, List.map_nil, List.zip_cons_cons, List.zip_nil_left, List.zip_nil_right, List.nil_append, List.cons_append, ↓reduceIte, reduceCtorEq, Int.reduceToNat, Nat.reduceEqDiff, Nat.reduceAdd, Nat.reduceLT, Nat.reduceLeDiff, Nat.reduceMul, Nat.reduceSub, Value.category, false_implies, true_and, and_true, Bool.false_eq_true, Option.some.injEq, exists_eq_left', Option.toList_some, Option.toList_none, ev_km, ev_k2, ev_k3, ev_k4, ev_k5, ev_l0, ev_l1, sh_1, sh_2, sh_3, sh_4, sh_5, at_X4_clearSeats_2, at_X4_clearSeats_22, ca_X4_180, cd_X4_clearSeats_0, cd_X4_clearSeats_2, cd_X4_clearSeats_22, fl_X4_71, no_0, no_1, no_lt, no_le, no_eq, no_lt0, no_ge0, no_gt0, no_le0, no_eq0, no_0eq, no_eqm, no_meq, no_m0, no_mlt, no_mge, no_mgt, no_mm, no_i01, no_i10, no_in, no_or, no_ifm, no_mul, nI_add, no_sub, pk_div, iI_if, nI_clamp, oI_n, oI_s, not_true_eq_false, not_false_eq_true, forall_const, true_implies, false_and, and_false, or_false, false_or, Classical.not_not, true_or, or_true, no_b, no_eq1, eq_self, and_self, xk_0 hp, xk_1 hp, xk_2 hp, xk_3 hp, xk_4 hp, xk_5 hp, xk_6 hp, xk_7 hp, xk_8 hp, xk_9 hp, xk_10 hp, xk_11 hp, xk_12 hp, xk_13 hp, xk_14 hp, xk_15 hp, xk_16 hp, xk_17 hp, xk_18 hp, xk_19 hp, xk_20 hp, xk_21 hp, xl_1 hp, xl_2 hp, xl_3 hp, xl_4 hp, xl_6 hp, xl_8 hp, xl_10 hp, xl_12 hp, xl_14 hp, xl_15 hp, xl_17 hp, xl_18 hp, xl_21 hp, xp_7 hp, xp_8 hp, xp_9 hp, xp_10 hp, xp_11 hp, xp_12 hp, xp_13 hp, xp_14 hp, xp_15 hp, xp_16 hp, xp_17 hp, xp_t5 hp, xp_t7 hp, xp_t9 hp, xp_t11 hp, xp_t20 hp, xp_s19 hp, xp_a13 hp, xp_b13 hp, xp_a16 hp, xp_b16 hp, xc_r5 hp, xc_c5 hp, xc_r7 hp, xc_c7 hp, xc_r9 hp, xc_c9 hp, xc_r11 hp, xc_c11 hp, xc_r20 hp, xc_c20 hp, no_on, hH, e0, e2])
          | (with_reducible refine And.intro (fun q => ?_) (fun q => ?_) <;> (try simp (disch := first | omega | assumption) only [no_0, no_1, no_lt, no_le, no_eq, no_lt0, no_ge0, no_gt0, no_le0, no_eq0, no_0eq, no_eqm, no_meq, no_m0, no_mlt, no_mge, no_mgt, no_mm, no_i01, no_i10, no_in, no_or, no_ifm, no_mul, nI_add, no_sub, pk_div, iI_if, nI_clamp, oI_n, oI_s, not_true_eq_false, not_false_eq_true, forall_const, true_implies, false_and, and_false, or_false, false_or, Classical.not_not, true_or, or_true, no_b, no_eq1, eq_self, and_self, xk_0 hp, xk_1 hp, xk_2 hp, xk_3 hp, xk_4 hp, xk_5 hp, xk_6 hp, xk_7 hp, xk_8 hp, xk_9 hp, xk_10 hp, xk_11 hp, xk_12 hp, xk_13 hp, xk_14 hp, xk_15 hp, xk_16 hp, xk_17 hp, xk_18 hp, xk_19 hp, xk_20 hp, xk_21 hp, xl_1 hp, xl_2 hp, xl_3 hp, xl_4 hp, xl_6 hp, xl_8 hp, xl_10 hp, xl_12 hp, xl_14 hp, xl_15 hp, xl_17 hp, xl_18 hp, xl_21 hp, xp_7 hp, xp_8 hp, xp_9 hp, xp_10 hp, xp_11 hp, xp_12 hp, xp_13 hp, xp_14 hp, xp_15 hp, xp_16 hp, xp_17 hp, xp_t5 hp, xp_t7 hp, xp_t9 hp, xp_t11 hp, xp_t20 hp, xp_s19 hp, xp_a13 hp, xp_b13 hp, xp_a16 hp, xp_b16 hp, xc_r5 hp, xc_c5 hp, xc_r7 hp, xc_c7 hp, xc_r9 hp, xc_c9 hp, xc_r11 hp, xc_c11 hp, xc_r20 hp, xc_c20 hp, no_on, hH, e0, e2] at q))
          | (with_reducible refine ev_ci h3 ?_)
          | omega
          | with_reducible assumption
          | with_reducible rfl
          | (refine Nat.lt_of_lt_of_le ?_ (Nat.le_refl 312); omega)
          | with_reducible refine lp_nx ?_ ?_ ?_ ?_
          | with_reducible refine lp_st ?_ ?_ ?_
          | with_reducible refine ls_c ?_ ?_
          | with_reducible refine vi_c ?_
          | with_reducible refine re_c ?_
          | with_reducible refine vz_c ?_
          | with_reducible refine rz_c ?_
          | exact trivial
          | with_reducible refine And.intro ?_ ?_
          | simp (disch := first | omega | assumption) only [ev_run_c, ev_run_n, ev_fj, ev_stp, ev_lk, ev_fv, ev_as, ev_sz, ev_st1, ev_st2, ev_rm, ev_pk, ev_Jof, ev_go, lv_args, List.map_cons, List.map_nil, List.zip_cons_cons, List.zip_nil_left, List.zip_nil_right, List.nil_append, List.cons_append, ↓reduceIte, reduceCtorEq, Int.reduceToNat, Nat.reduceEqDiff, Nat.reduceAdd, Nat.reduceLT, Nat.reduceLeDiff, Nat.reduceMul, Nat.reduceSub, Value.category, false_implies, true_and, and_true, Bool.false_eq_true, Option.some.injEq, exists_eq_left', Option.toList_some, Option.toList_none, ev_km, ev_k2, ev_k3, ev_k4, ev_k5, ev_l0, ev_l1, sh_1, sh_2, sh_3, sh_4, sh_5, at_X4_clearSeats_2, at_X4_clearSeats_22, ca_X4_180, cd_X4_clearSeats_0, cd_X4_clearSeats_2, cd_X4_clearSeats_22, fl_X4_71, no_0, no_1, no_lt, no_le, no_eq, no_lt0, no_ge0, no_gt0, no_le0, no_eq0, no_0eq, no_eqm, no_meq, no_m0, no_mlt, no_mge, no_mgt, no_mm, no_i01, no_i10, no_in, no_or, no_ifm, no_mul, nI_add, no_sub, pk_div, iI_if, nI_clamp, oI_n, oI_s, not_true_eq_false, not_false_eq_true, forall_const, true_implies, false_and, and_false, or_false, false_or, Classical.not_not, true_or, or_true, no_b, no_eq1, eq_self, and_self, xk_0 hp, xk_1 hp, xk_2 hp, xk_3 hp, xk_4 hp, xk_5 hp, xk_6 hp, xk_7 hp, xk_8 hp, xk_9 hp, xk_10 hp, xk_11 hp, xk_12 hp, xk_13 hp, xk_14 hp, xk_15 hp, xk_16 hp, xk_17 hp, xk_18 hp, xk_19 hp, xk_20 hp, xk_21 hp, xl_1 hp, xl_2 hp, xl_3 hp, xl_4 hp, xl_6 hp, xl_8 hp, xl_10 hp, xl_12 hp, xl_14 hp, xl_15 hp, xl_17 hp, xl_18 hp, xl_21 hp, xp_7 hp, xp_8 hp, xp_9 hp, xp_10 hp, xp_11 hp, xp_12 hp, xp_13 hp, xp_14 hp, xp_15 hp, xp_16 hp, xp_17 hp, xp_t5 hp, xp_t7 hp, xp_t9 hp, xp_t11 hp, xp_t20 hp, xp_s19 hp, xp_a13 hp, xp_b13 hp, xp_a16 hp, xp_b16 hp, xc_r5 hp, xc_c5 hp, xc_r7 hp, xc_c7 hp, xc_r9 hp, xc_c9 hp, xc_r11 hp, xc_c11 hp, xc_r20 hp, xc_c20 hp, no_on, hH, e0, e2]
          | exact rfl
          | (split <;> omega))
    · have hkn : N 0 = k := by omega
      rw [hkn] at *
      repeat' (first
        | (with_reducible refine ev_rid ?_; simp (disch := first | omega | assumption) only [ev_run_c, ev_run_n, ev_fj, ev_stp, ev_lk, ev_fv, ev_as, ev_sz, ev_st1, ev_st2, ev_rm, ev_pk, ev_Jof, ev_go, lv_args, List.map_cons, List.map_nil, List.zip_cons_cons, List.zip_nil_left, List.zip_nil_right, List.nil_append, List.cons_append, ↓reduceIte, reduceCtorEq, Int.reduceToNat, Nat.reduceEqDiff, Nat.reduceAdd, Nat.reduceLT, Nat.reduceLeDiff, Nat.reduceMul, Nat.reduceSub, Value.category, false_implies, true_and, and_true, Bool.false_eq_true, Option.some.injEq, exists_eq_left', Option.toList_some, Option.toList_none, ev_km, ev_k2, ev_k3, ev_k4, ev_k5, ev_l0, ev_l1, sh_1, sh_2, sh_3, sh_4, sh_5, at_X4_clearSeats_2, at_X4_clearSeats_22, ca_X4_180, cd_X4_clearSeats_0, cd_X4_clearSeats_2, cd_X4_clearSeats_22, fl_X4_71, no_0, no_1, no_lt, no_le, no_eq, no_lt0, no_ge0, no_gt0, no_le0, no_eq0, no_0eq, no_eqm, no_meq, no_m0, no_mlt, no_mge, no_mgt, no_mm, no_i01, no_i10, no_in, no_or, no_ifm, no_mul, nI_add, no_sub, pk_div, iI_if, nI_clamp, oI_n, oI_s, not_true_eq_false, not_false_eq_true, forall_const, true_implies, false_and, and_false, or_false, false_or, Classical.not_not, true_or, or_true, no_b, no_eq1, eq_self, and_self, xk_0 hp, xk_1 hp, xk_2 hp, xk_3 hp, xk_4 hp, xk_5 hp, xk_6 hp, xk_7 hp, xk_8 hp, xk_9 hp, xk_10 hp, xk_11 hp, xk_12 hp, xk_13 hp, xk_14 hp, xk_15 hp, xk_16 hp, xk_17 hp, xk_18 hp, xk_19 hp, xk_20 hp, xk_21 hp, xl_1 hp, xl_2 hp, xl_3 hp, xl_4 hp, xl_6 hp, xl_8 hp, xl_10 hp, xl_12 hp, xl_14 hp, xl_15 hp, xl_17 hp, xl_18 hp, xl_21 hp, xp_7 hp, xp_8 hp, xp_9 hp, xp_10 hp, xp_11 hp, xp_12 hp, xp_13 hp, xp_14 hp, xp_15 hp, xp_16 hp, xp_17 hp, xp_t5 hp, xp_t7 hp, xp_t9 hp, xp_t11 hp, xp_t20 hp, xp_s19 hp, xp_a13 hp, xp_b13 hp, xp_a16 hp, xp_b16 hp, xc_r5 hp, xc_c5 hp, xc_r7 hp, xc_c7 hp, xc_r9 hp, xc_c9 hp, xc_r11 hp, xc_c11 hp, xc_r20 hp, xc_c20 hp, no_on, hH, e0])
        | (with_reducible refine ev_gid ?_; simp (disch := first | omega | assumption) only [ev_run_c, ev_run_n, ev_fj, ev_stp, ev_lk, ev_fv, ev_as, ev_sz, ev_st1, ev_st2, ev_rm, ev_pk, ev_Jof, ev_go, lv_args, List.map_cons, List.map_nil, List.zip_cons_cons, List.zip_nil_left, List.zip_nil_right, List.nil_append, List.cons_append, ↓reduceIte, reduceCtorEq, Int.reduceToNat, Nat.reduceEqDiff, Nat.reduceAdd, Nat.reduceLT, Nat.reduceLeDiff, Nat.reduceMul, Nat.reduceSub, Value.category, false_implies, true_and, and_true, Bool.false_eq_true, Option.some.injEq, exists_eq_left', Option.toList_some, Option.toList_none, ev_km, ev_k2, ev_k3, ev_k4, ev_k5, ev_l0, ev_l1, sh_1, sh_2, sh_3, sh_4, sh_5, at_X4_clearSeats_2, at_X4_clearSeats_22, ca_X4_180, cd_X4_clearSeats_0, cd_X4_clearSeats_2, cd_X4_clearSeats_22, fl_X4_71, no_0, no_1, no_lt, no_le, no_eq, no_lt0, no_ge0, no_gt0, no_le0, no_eq0, no_0eq, no_eqm, no_meq, no_m0, no_mlt, no_mge, no_mgt, no_mm, no_i01, no_i10, no_in, no_or, no_ifm, no_mul, nI_add, no_sub, pk_div, iI_if, nI_clamp, oI_n, oI_s, not_true_eq_false, not_false_eq_true, forall_const, true_implies, false_and, and_false, or_false, false_or, Classical.not_not, true_or, or_true, no_b, no_eq1, eq_self, and_self, xk_0 hp, xk_1 hp, xk_2 hp, xk_3 hp, xk_4 hp, xk_5 hp, xk_6 hp, xk_7 hp, xk_8 hp, xk_9 hp, xk_10 hp, xk_11 hp, xk_12 hp, xk_13 hp, xk_14 hp, xk_15 hp, xk_16 hp, xk_17 hp, xk_18 hp, xk_19 hp, xk_20 hp, xk_21 hp, xl_1 hp, xl_2 hp, xl_3 hp, xl_4 hp, xl_6 hp, xl_8 hp, xl_10 hp, xl_12 hp, xl_14 hp, xl_15 hp, xl_17 hp, xl_18 hp, xl_21 hp, xp_7 hp, xp_8 hp, xp_9 hp, xp_10 hp, xp_11 hp, xp_12 hp, xp_13 hp, xp_14 hp, xp_15 hp, xp_16 hp, xp_17 hp, xp_t5 hp, xp_t7 hp, xp_t9 hp, xp_t11 hp, xp_t20 hp, xp_s19 hp, xp_a13 hp, xp_b13 hp, xp_a16 hp, xp_b16 hp, xc_r5 hp, xc_c5 hp, xc_r7 hp, xc_c7 hp, xc_r9 hp, xc_c9 hp, xc_r11 hp, xc_c11 hp, xc_r20 hp, xc_c20 hp, no_on, hH, e0])
        | (with_reducible refine And.intro (fun q => ?_) (fun q => ?_) <;> (try simp (disch := first | omega | assumption) only [no_0, no_1, no_lt, no_le, no_eq, no_lt0, no_ge0, no_gt0, no_le0, no_eq0, no_0eq, no_eqm, no_meq, no_m0, no_mlt, no_mge, no_mgt, no_mm, no_i01, no_i10, no_in, no_or, no_ifm, no_mul, nI_add, no_sub, pk_div, iI_if, nI_clamp, oI_n, oI_s, not_true_eq_false, not_false_eq_true, forall_const, true_implies, false_and, and_false, or_false, false_or, Classical.not_not, true_or, or_true, no_b, no_eq1, eq_self, and_self, xk_0 hp, xk_1 hp, xk_2 hp, xk_3 hp, xk_4 hp, xk_5 hp, xk_6 hp, xk_7 hp, xk_8 hp, xk_9 hp, xk_10 hp, xk_11 hp, xk_12 hp, xk_13 hp, xk_14 hp, xk_15 hp, xk_16 hp, xk_17 hp, xk_18 hp, xk_19 hp, xk_20 hp, xk_21 hp, xl_1 hp, xl_2 hp, xl_3 hp, xl_4 hp, xl_6 hp, xl_8 hp, xl_10 hp, xl_12 hp, xl_14 hp, xl_15 hp, xl_17 hp, xl_18 hp, xl_21 hp, xp_7 hp, xp_8 hp, xp_9 hp, xp_10 hp, xp_11 hp, xp_12 hp, xp_13 hp, xp_14 hp, xp_15 hp, xp_16 hp, xp_17 hp, xp_t5 hp, xp_t7 hp, xp_t9 hp, xp_t11 hp, xp_t20 hp, xp_s19 hp, xp_a13 hp, xp_b13 hp, xp_a16 hp, xp_b16 hp, xc_r5 hp, xc_c5 hp, xc_r7 hp, xc_c7 hp, xc_r9 hp, xc_c9 hp, xc_r11 hp, xc_c11 hp, xc_r20 hp, xc_c20 hp, no_on, hH, e0] at q))
        | omega
        | with_reducible assumption
        | with_reducible rfl
        | (refine Nat.lt_of_lt_of_le ?_ (Nat.le_refl 312); omega)
        | with_reducible refine lp_nx ?_ ?_ ?_ ?_
        | with_reducible refine lp_st ?_ ?_ ?_
        | with_reducible refine ls_c ?_ ?_
        | with_reducible refine vi_c ?_
        | with_reducible refine re_c ?_
        | with_reducible refine vz_c ?_
        | with_reducible refine rz_c ?_
        | exact trivial
        | with_reducible refine And.intro ?_ ?_
        | simp (disch := first | omega | assumption) only [ev_run_c, ev_run_n, ev_fj, ev_stp, ev_lk, ev_fv, ev_as, ev_sz, ev_st1, ev_st2, ev_rm, ev_pk, ev_Jof, ev_go, lv_args, List.map_cons, List.map_nil, List.zip_cons_cons, List.zip_nil_left, List.zip_nil_right, List.nil_append, List.cons_append, ↓reduceIte, reduceCtorEq, Int.reduceToNat, Nat.reduceEqDiff, Nat.reduceAdd, Nat.reduceLT, Nat.reduceLeDiff, Nat.reduceMul, Nat.reduceSub, Value.category, false_implies, true_and, and_true, Bool.false_eq_true, Option.some.injEq, exists_eq_left', Option.toList_some, Option.toList_none, ev_km, ev_k2, ev_k3, ev_k4, ev_k5, ev_l0, ev_l1, sh_1, sh_2, sh_3, sh_4, sh_5, at_X4_clearSeats_2, at_X4_clearSeats_22, ca_X4_180, cd_X4_clearSeats_0, cd_X4_clearSeats_2, cd_X4_clearSeats_22, fl_X4_71, no_0, no_1, no_lt, no_le, no_eq, no_lt0, no_ge0, no_gt0, no_le0, no_eq0, no_0eq, no_eqm, no_meq, no_m0, no_mlt, no_mge, no_mgt, no_mm, no_i01, no_i10, no_in, no_or, no_ifm, no_mul, nI_add, no_sub, pk_div, iI_if, nI_clamp, oI_n, oI_s, not_true_eq_false, not_false_eq_true, forall_const, true_implies, false_and, and_false, or_false, false_or, Classical.not_not, true_or, or_true, no_b, no_eq1, eq_self, and_self, xk_0 hp, xk_1 hp, xk_2 hp, xk_3 hp, xk_4 hp, xk_5 hp, xk_6 hp, xk_7 hp, xk_8 hp, xk_9 hp, xk_10 hp, xk_11 hp, xk_12 hp, xk_13 hp, xk_14 hp, xk_15 hp, xk_16 hp, xk_17 hp, xk_18 hp, xk_19 hp, xk_20 hp, xk_21 hp, xl_1 hp, xl_2 hp, xl_3 hp, xl_4 hp, xl_6 hp, xl_8 hp, xl_10 hp, xl_12 hp, xl_14 hp, xl_15 hp, xl_17 hp, xl_18 hp, xl_21 hp, xp_7 hp, xp_8 hp, xp_9 hp, xp_10 hp, xp_11 hp, xp_12 hp, xp_13 hp, xp_14 hp, xp_15 hp, xp_16 hp, xp_17 hp, xp_t5 hp, xp_t7 hp, xp_t9 hp, xp_t11 hp, xp_t20 hp, xp_s19 hp, xp_a13 hp, xp_b13 hp, xp_a16 hp, xp_b16 hp, xc_r5 hp, xc_c5 hp, xc_r7 hp, xc_c7 hp, xc_r9 hp, xc_c9 hp, xc_r11 hp, xc_c11 hp, xc_r20 hp, xc_c20 hp, no_on, hH, e0]
        | exact rfl
        | (split <;> omega))
  · rw [at_X4_clearSeats_0]
    repeat' (first
      | (with_reducible refine ev_rid ?_; simp (disch := first | omega | assumption) only [ev_run_c, ev_run_n, ev_fj, ev_stp, ev_lk, ev_fv, ev_as, ev_sz, ev_st1, ev_st2, ev_rm, ev_pk, ev_Jof, ev_go, lv_args, List.map_cons, List.map_nil, List.zip_cons_cons, List.zip_nil_left, List.zip_nil_right, List.nil_append, List.cons_append, ↓reduceIte, reduceCtorEq, Int.reduceToNat, Nat.reduceEqDiff, Nat.reduceAdd, Nat.reduceLT, Nat.reduceLeDiff, Nat.reduceMul, Nat.reduceSub, Value.category, false_implies, true_and, and_true, Bool.false_eq_true, Option.some.injEq, exists_eq_left', Option.toList_some, Option.toList_none, ev_km, ev_k2, ev_k3, ev_k4, ev_k5, ev_l0, ev_l1, sh_1, sh_2, sh_3, sh_4, sh_5, at_X4_clearSeats_2, at_X4_clearSeats_22, ca_X4_180, cd_X4_clearSeats_0, cd_X4_clearSeats_2, cd_X4_clearSeats_22, fl_X4_71, no_0, no_1, no_lt, no_le, no_eq, no_lt0, no_ge0, no_gt0, no_le0, no_eq0, no_0eq, no_eqm, no_meq, no_m0, no_mlt, no_mge, no_mgt, no_mm, no_i01, no_i10, no_in, no_or, no_ifm, no_mul, nI_add, no_sub, pk_div, iI_if, nI_clamp, oI_n, oI_s, not_true_eq_false, not_false_eq_true, forall_const, true_implies, false_and, and_false, or_false, false_or, Classical.not_not, true_or, or_true, no_b, no_eq1, eq_self, and_self, xk_0 hp, xk_1 hp, xk_2 hp, xk_3 hp, xk_4 hp, xk_5 hp, xk_6 hp, xk_7 hp, xk_8 hp, xk_9 hp, xk_10 hp, xk_11 hp, xk_12 hp, xk_13 hp, xk_14 hp, xk_15 hp, xk_16 hp, xk_17 hp, xk_18 hp, xk_19 hp, xk_20 hp, xk_21 hp, xl_1 hp, xl_2 hp, xl_3 hp, xl_4 hp, xl_6 hp, xl_8 hp, xl_10 hp, xl_12 hp, xl_14 hp, xl_15 hp, xl_17 hp, xl_18 hp, xl_21 hp, xp_7 hp, xp_8 hp, xp_9 hp, xp_10 hp, xp_11 hp, xp_12 hp, xp_13 hp, xp_14 hp, xp_15 hp, xp_16 hp, xp_17 hp, xp_t5 hp, xp_t7 hp, xp_t9 hp, xp_t11 hp, xp_t20 hp, xp_s19 hp, xp_a13 hp, xp_b13 hp, xp_a16 hp, xp_b16 hp, xc_r5 hp, xc_c5 hp, xc_r7 hp, xc_c7 hp, xc_r9 hp, xc_c9 hp, xc_r11 hp, xc_c11 hp, xc_r20 hp, xc_c20 hp, no_on])
      | (with_reducible refine ev_gid ?_; simp (disch := first | omega | assumption) only [ev_run_c, ev_run_n, ev_fj, ev_stp, ev_lk, ev_fv, ev_as, ev_sz, ev_st1, ev_st2, ev_rm, ev_pk, ev_Jof, ev_go, lv_args, List.map_cons, List.map_nil, List.zip_cons_cons, List.zip_nil_left, List.zip_nil_right, List.nil_append, List.cons_append, ↓reduceIte, reduceCtorEq, Int.reduceToNat, Nat.reduceEqDiff, Nat.reduceAdd, Nat.reduceLT, Nat.reduceLeDiff, Nat.reduceMul, Nat.reduceSub, Value.category, false_implies, true_and, and_true, Bool.false_eq_true, Option.some.injEq, exists_eq_left', Option.toList_some, Option.toList_none, ev_km, ev_k2, ev_k3, ev_k4, ev_k5, ev_l0, ev_l1, sh_1, sh_2, sh_3, sh_4, sh_5, at_X4_clearSeats_2, at_X4_clearSeats_22, ca_X4_180, cd_X4_clearSeats_0, cd_X4_clearSeats_2, cd_X4_clearSeats_22, fl_X4_71, no_0, no_1, no_lt, no_le, no_eq, no_lt0, no_ge0, no_gt0, no_le0, no_eq0, no_0eq, no_eqm, no_meq, no_m0, no_mlt, no_mge, no_mgt, no_mm, no_i01, no_i10, no_in, no_or, no_ifm, no_mul, nI_add, no_sub, pk_div, iI_if, nI_clamp, oI_n, oI_s, not_true_eq_false, not_false_eq_true, forall_const, true_implies, false_and, and_false, or_false, false_or, Classical.not_not, true_or, or_true, no_b, no_eq1, eq_self, and_self, xk_0 hp, xk_1 hp, xk_2 hp, xk_3 hp, xk_4 hp, xk_5 hp, xk_6 hp, xk_7 hp, xk_8 hp, xk_9 hp, xk_10 hp, xk_11 hp, xk_12 hp, xk_13 hp, xk_14 hp, xk_15 hp, xk_16 hp, xk_17 hp, xk_18 hp, xk_19 hp, xk_20 hp, xk_21 hp, xl_1 hp, xl_2 hp, xl_3 hp, xl_4 hp, xl_6 hp, xl_8 hp, xl_10 hp, xl_12 hp, xl_14 hp, xl_15 hp, xl_17 hp, xl_18 hp, xl_21 hp, xp_7 hp, xp_8 hp, xp_9 hp, xp_10 hp, xp_11 hp, xp_12 hp, xp_13 hp, xp_14 hp, xp_15 hp, xp_16 hp, xp_17 hp, xp_t5 hp, xp_t7 hp, xp_t9 hp, xp_t11 hp, xp_t20 hp, xp_s19 hp, xp_a13 hp, xp_b13 hp, xp_a16 hp, xp_b16 hp, xc_r5 hp, xc_c5 hp, xc_r7 hp, xc_c7 hp, xc_r9 hp, xc_c9 hp, xc_r11 hp, xc_c11 hp, xc_r20 hp, xc_c20 hp, no_on])
      | (with_reducible refine And.intro (fun q => ?_) (fun q => ?_) <;> (try simp (disch := first | omega | assumption) only [no_0, no_1, no_lt, no_le, no_eq, no_lt0, no_ge0, no_gt0, no_le0, no_eq0, no_0eq, no_eqm, no_meq, no_m0, no_mlt, no_mge, no_mgt, no_mm, no_i01, no_i10, no_in, no_or, no_ifm, no_mul, nI_add, no_sub, pk_div, iI_if, nI_clamp, oI_n, oI_s, not_true_eq_false, not_false_eq_true, forall_const, true_implies, false_and, and_false, or_false, false_or, Classical.not_not, true_or, or_true, no_b, no_eq1, eq_self, and_self, xk_0 hp, xk_1 hp, xk_2 hp, xk_3 hp, xk_4 hp, xk_5 hp, xk_6 hp, xk_7 hp, xk_8 hp, xk_9 hp, xk_10 hp, xk_11 hp, xk_12 hp, xk_13 hp, xk_14 hp, xk_15 hp, xk_16 hp, xk_17 hp, xk_18 hp, xk_19 hp, xk_20 hp, xk_21 hp, xl_1 hp, xl_2 hp, xl_3 hp, xl_4 hp, xl_6 hp, xl_8 hp, xl_10 hp, xl_12 hp, xl_14 hp, xl_15 hp, xl_17 hp, xl_18 hp, xl_21 hp, xp_7 hp, xp_8 hp, xp_9 hp, xp_10 hp, xp_11 hp, xp_12 hp, xp_13 hp, xp_14 hp, xp_15 hp, xp_16 hp, xp_17 hp, xp_t5 hp, xp_t7 hp, xp_t9 hp, xp_t11 hp, xp_t20 hp, xp_s19 hp, xp_a13 hp, xp_b13 hp, xp_a16 hp, xp_b16 hp, xc_r5 hp, xc_c5 hp, xc_r7 hp, xc_c7 hp, xc_r9 hp, xc_c9 hp, xc_r11 hp, xc_c11 hp, xc_r20 hp, xc_c20 hp, no_on] at q))
      | omega
      | with_reducible assumption
      | with_reducible rfl
      | (refine Nat.lt_of_lt_of_le ?_ (Nat.le_refl 312); omega)
      | with_reducible refine lp_nx ?_ ?_ ?_ ?_
      | with_reducible refine lp_st ?_ ?_ ?_
      | with_reducible refine ls_c ?_ ?_
      | with_reducible refine vi_c ?_
      | with_reducible refine re_c ?_
      | with_reducible refine vz_c ?_
      | with_reducible refine rz_c ?_
      | exact trivial
      | with_reducible refine And.intro ?_ ?_
      | simp (disch := first | omega | assumption) only [ev_run_c, ev_run_n, ev_fj, ev_stp, ev_lk, ev_fv, ev_as, ev_sz, ev_st1, ev_st2, ev_rm, ev_pk, ev_Jof, ev_go, lv_args, List.map_cons, List.map_nil, List.zip_cons_cons, List.zip_nil_left, List.zip_nil_right, List.nil_append, List.cons_append, ↓reduceIte, reduceCtorEq, Int.reduceToNat, Nat.reduceEqDiff, Nat.reduceAdd, Nat.reduceLT, Nat.reduceLeDiff, Nat.reduceMul, Nat.reduceSub, Value.category, false_implies, true_and, and_true, Bool.false_eq_true, Option.some.injEq, exists_eq_left', Option.toList_some, Option.toList_none, ev_km, ev_k2, ev_k3, ev_k4, ev_k5, ev_l0, ev_l1, sh_1, sh_2, sh_3, sh_4, sh_5, at_X4_clearSeats_2, at_X4_clearSeats_22, ca_X4_180, cd_X4_clearSeats_0, cd_X4_clearSeats_2, cd_X4_clearSeats_22, fl_X4_71, no_0, no_1, no_lt, no_le, no_eq, no_lt0, no_ge0, no_gt0, no_le0, no_eq0, no_0eq, no_eqm, no_meq, no_m0, no_mlt, no_mge, no_mgt, no_mm, no_i01, no_i10, no_in, no_or, no_ifm, no_mul, nI_add, no_sub, pk_div, iI_if, nI_clamp, oI_n, oI_s, not_true_eq_false, not_false_eq_true, forall_const, true_implies, false_and, and_false, or_false, false_or, Classical.not_not, true_or, or_true, no_b, no_eq1, eq_self, and_self, xk_0 hp, xk_1 hp, xk_2 hp, xk_3 hp, xk_4 hp, xk_5 hp, xk_6 hp, xk_7 hp, xk_8 hp, xk_9 hp, xk_10 hp, xk_11 hp, xk_12 hp, xk_13 hp, xk_14 hp, xk_15 hp, xk_16 hp, xk_17 hp, xk_18 hp, xk_19 hp, xk_20 hp, xk_21 hp, xl_1 hp, xl_2 hp, xl_3 hp, xl_4 hp, xl_6 hp, xl_8 hp, xl_10 hp, xl_12 hp, xl_14 hp, xl_15 hp, xl_17 hp, xl_18 hp, xl_21 hp, xp_7 hp, xp_8 hp, xp_9 hp, xp_10 hp, xp_11 hp, xp_12 hp, xp_13 hp, xp_14 hp, xp_15 hp, xp_16 hp, xp_17 hp, xp_t5 hp, xp_t7 hp, xp_t9 hp, xp_t11 hp, xp_t20 hp, xp_s19 hp, xp_a13 hp, xp_b13 hp, xp_a16 hp, xp_b16 hp, xc_r5 hp, xc_c5 hp, xc_r7 hp, xc_c7 hp, xc_r9 hp, xc_c9 hp, xc_r11 hp, xc_c11 hp, xc_r20 hp, xc_c20 hp, no_on]
      | exact rfl
      | (split <;> omega))
end XClr
