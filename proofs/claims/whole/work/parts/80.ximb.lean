/-! ===== the class: imbalance ===== -/
section XImb
variable {G : ev_G} {N : Nat → Nat} {μ : ev_M} {p : Nat}
theorem sm_add (f g : Nat → Nat) (n : Nat) : sm (fun i => f i + g i) n = sm f n + sm g n := by
  induction n with
  | zero => rfl
  | succ n ih => show sm (fun i => f i + g i) n + (f n + g n) = sm f n + f n + (sm g n + g n); omega
theorem sm_swap (F : Nat → Nat → Nat) (n m : Nat) : sm (fun i => sm (F i) m) n = sm (fun q => sm (fun i => F i q) n) m := by
  induction n with
  | zero =>
    show 0 = sm (fun q => 0) m
    induction m with
    | zero => rfl
    | succ m ih => exact ih
  | succ n ih =>
    show sm (fun i => sm (F i) m) n + sm (F n) m = sm (fun q => sm (fun i => F i q) n + F n q) m
    rw [sm_add, ih]
theorem sm_up {f g : Nat → Nat} {j d M : Nat} (h : ∀ i, i ≠ j → f i = g i) (hj : f j = g j + d) (hM : j < M) : sm f M = sm g M + d := by
  induction M with
  | zero => omega
  | succ M ih =>
    show sm f M + f M = sm g M + g M + d
    by_cases c : j = M
    · subst c
      rw [hj, sm_ext (f := f) (g := g) (fun k hk => h k (by omega))]
      omega
    · rw [ih (by omega), h M (fun q => c q.symm)]
      omega
/-- a sum over the places is a sum over those who stand there -/
theorem sm_inj {f P : Nat → Nat} {n M : Nat} (h1 : ∀ k, k < n → f k < M) (h2 : ∀ k l, k < l → l < n → f k ≠ f l) : sm (fun i => if fx f i n < n ∧ P i ≠ 0 then 1 else 0) M = sm (fun k => if P (f k) = 0 then 0 else 1) n := by
  induction n with
  | zero =>
    show _ = 0
    have : ∀ m, sm (fun i => if fx f i 0 < 0 ∧ P i ≠ 0 then 1 else 0) m = 0 := by
      intro m
      induction m with
      | zero => rfl
      | succ m ih =>
        show sm (fun i => if fx f i 0 < 0 ∧ P i ≠ 0 then 1 else 0) m + (if fx f m 0 < 0 ∧ P m ≠ 0 then 1 else 0) = 0
        rw [ih, if_neg (fun q => absurd q.1 (Nat.not_lt_zero _))]
    exact this M
  | succ n ih =>
    have h3 := ih (fun k hk => h1 k (by omega)) (fun k l hk hl => h2 k l hk (by omega))
    show _ = sm (fun k => if P (f k) = 0 then 0 else 1) n + (if P (f n) = 0 then 0 else 1)
    rw [← h3]
    refine sm_up (j := f n) (fun i hi => ?_) ?_ (h1 n (by omega))
    · have e1 : fx f i (n + 1) < n + 1 ↔ fx f i n < n := by
        have := fx_le f i n
        constructor
        · intro q
          have q2 := fx_is q
          rcases Nat.lt_or_ge (fx f i (n + 1)) n with q3 | q3
          · exact fx_of ⟨_, q3, q2⟩
          · have : fx f i (n + 1) = n := by omega
            rw [this] at q2
            exact absurd q2.symm hi
        · intro q
          exact fx_of ⟨fx f i n, by omega, fx_is q⟩
      try dsimp only
      by_cases c : fx f i n < n ∧ P i ≠ 0
      · rw [if_pos c, if_pos ⟨e1.mpr c.1, c.2⟩]
      · rw [if_neg c, if_neg (fun q => c ⟨e1.mp q.1, q.2⟩)]
    · have e1 : fx f (f n) (n + 1) < n + 1 := fx_of ⟨n, by omega, rfl⟩
      have e2 : ¬ fx f (f n) n < n := fun q => h2 _ n q (by omega) (fx_is q)
      try dsimp only
      rw [if_neg (fun q : fx f (f n) n < n ∧ P (f n) ≠ 0 => e2 q.1)]
      by_cases c : P (f n) = 0
      · rw [if_pos c, if_neg (fun q => q.2 c)]
      · rw [if_neg c, if_pos ⟨e1, c⟩]
theorem trb_i (hI : INV N) {i q : Nat} (hi : i < 16) (hq : q < 10) : trb N i q = if sP N q i < N (952 + 9 * q + 5) ∧ cf N i q ≠ 0 then 1 else 0 := by
  unfold trb
  rw [if_neg (fun z : ¬ sP N q i < N (952 + 9 * q + 5) ∧ N (8 + 59 * i + (23 + q)) ≠ 0 => z.1 (iv_sc hI i q hi hq z.2))]
  rfl
theorem ovl_i (hI : INV N) {i : Nat} (hi : i < 16) : ovl N i = if N (8 + 59 * i + 1) < ld N i (N 1) then 1 else 0 := by
  unfold ovl
  by_cases c : N (8 + 59 * i + 1) < ld N i (N 1)
  · rw [if_pos c]
    by_cases z : N (8 + 59 * i + 1) = 0
    · exfalso
      have hh := iv_h hI
      have e : ld N i (N 1) = 0 := by
        have : ∀ m, m ≤ N 1 → ld N i m = 0 := by
          intro m
          induction m with
          | zero => exact fun _ => rfl
          | succ m ih =>
            intro hm
            by_cases c2 : sP N m i < N (952 + 9 * m + 5)
            · exfalso
              have e2 := iv_ts hI m (sP N m i) (by omega) c2
              have e3 : N (952 + 9 * m + (6 + sP N m i)) = i := fx_is (f := fun k => N (952 + 9 * m + (6 + k))) c2
              rw [e3] at e2
              exact e2 z
            · have e3 := ld_n c2
              have e4 := ih (by omega)
              omega
        exact this (N 1) (Nat.le_refl _)
      omega
    · rw [if_pos ⟨z, c⟩]
  · rw [if_neg c, if_neg (fun z => c z.2)]
theorem wrg_is (hI : INV N) : wrg N (N 0) = ovs N (N 0) + sic N (N 1) := by
  have hh := iv_h hI
  show sm (fun i => ovl N i + sm (trb N i) (N 1)) (N 0) = _
  rw [sm_add]
  have e1 : sm (ovl N) (N 0) = ovs N (N 0) := sm_ext fun k hk => ovl_i hI (by omega)
  have e2 : sm (fun i => sm (trb N i) (N 1)) (N 0) = sic N (N 1) := by
    rw [sm_swap]
    refine sm_ext fun q hq => ?_
    have e3 : sm (fun i => trb N i q) (N 0) = sm (fun i => if fx (fun k => N (952 + 9 * q + (6 + k))) i (N (952 + 9 * q + 5)) < N (952 + 9 * q + 5) ∧ cf N i q ≠ 0 then 1 else 0) (N 0) := sm_ext fun i hi => trb_i hI (by omega) (by omega)
    show sm (fun i => trb N i q) (N 0) = sic1 N q (N (952 + 9 * q + 5))
    rw [e3]
    exact sm_inj (P := fun i => cf N i q) (fun k hk => iv_st hI q k (by omega) hk) (fun k l h1 h2 => iv_di hI q k l (by omega) h1 h2)
  rw [← e1, ← e2]
theorem imb_is (hI : INV N) : imb N = ((sic N (N 1) + ovs N (N 0) + 0 : Nat) : Int) + aI ((lds N (N 0) : Nat) - (tkn N (N 1) : Nat)) := by
  have hh := iv_h hI
  have h1 := tkn_lk hI hh.2.1
  unfold imb
  rw [wrg_is hI, show ((lds N (N 0) : Nat) : Int) - (3 * N 1 : Nat) + (lk N (N 1) : Nat) = (lds N (N 0) : Nat) - (tkn N (N 1) : Nat) by omega]
  omega
theorem sic_le (hI : INV N) {n : Nat} (hn : n ≤ 10) : sic N n ≤ n * 3 := sm_le n fun k hk => by
  have h1 := iv_q hI k (by omega)
  have h2 : sic1 N k (N (952 + 9 * k + 5)) ≤ N (952 + 9 * k + 5) * 1 := sm_le _ fun j _ => by (try dsimp only); split <;> omega
  omega
theorem x_X10_imbalance (hok : ev_ok sh_S G) (hp : p ∈ sh_B) (hpp : sh_pt 0 3 = p) (hP : PR p N μ) (hI : INV N) {e : Nat} (he : μ.1 p 0 = nI e) (he2 : e < 2) : ev_T sh_S G mi_X10_imbalance [.ref 0] μ (xR (thc e 1 1) (v0 e (iI (imb N))) μ) := by
  have hlt := xp_lt hp
  have hh := iv_h hI
  have hH := pr_h hP
  have h1 := sic_le hI hh.2.1
  have h2 : ovs N (N 0) ≤ N 0 * 1 := sm_le (N 0) (fun k _ => by (try dsimp only); split <;> omega)
  have h4 : lds N (N 0) ≤ N 0 * 10 := sm_le (N 0) (fun k _ => by have := ld_le N k (N 1); (try dsimp only); omega)
  have h5 : tkn N (N 1) ≤ N 1 * 3 := sm_le (N 1) (fun k hk => by have := iv_q hI k (by omega); (try dsimp only); omega)
  rcases (show e = 0 ∨ e = 1 by omega) with rfl | rfl
  · rw [v0_0, thc_1, xR_1]
    refine ev_tri hok okM_X10_imbalance (Nat.le_of_ble_eq_true rfl) 400 ?_
    rw [at_X10_imbalance_0]
    repeat' (first
      | (with_reducible refine ev_rid ?_; simp (disch := first | omega | assumption) only [ev_run_c, ev_run_n, ev_fj, ev_stp, ev_lk, ev_fv, ev_as, ev_sz, ev_st1, ev_st2, ev_rm, ev_pk, ev_Jof, ev_go, lv_args, List.map_cons, List.map_nil, List.zip_cons_cons, List.zip_nil_left, List.zip_nil_right, List.nil_append, List.cons_append, ↓reduceIte, reduceCtorEq, Int.reduceToNat, Nat.reduceEqDiff, Nat.reduceAdd, Nat.reduceLT, Nat.reduceLeDiff, Nat.reduceMul, Nat.reduceSub, Value.category, false_implies, true_and, and_true, Bool.false_eq_true, Option.some.injEq, exists_eq_left', Option.toList_some, Option.toList_none, ev_km, ev_k2, ev_k3, ev_k4, ev_k5, ev_l0, ev_l1, sh_1, sh_2, sh_3, sh_4, sh_5, ca_X10_273, ca_X10_276, ca_X10_279, ca_X10_282, ca_X10_285, ca_X10_288, ca_X10_96, cd_X10_imbalance_0, fl_X10_31, no_0, no_1, no_lt, no_le, no_eq, no_lt0, no_ge0, no_gt0, no_le0, no_eq0, no_0eq, no_eqm, no_meq, no_m0, no_mlt, no_mge, no_mgt, no_mm, no_i01, no_i10, no_in, no_or, no_ifm, no_mul, nI_add, no_sub, pk_div, iI_if, nI_clamp, oI_n, oI_s, not_true_eq_false, not_false_eq_true, forall_const, true_implies, false_and, and_false, or_false, false_or, Classical.not_not, true_or, or_true, no_b, no_eq1, eq_self, and_self, xk_0 hp, xk_1 hp, xk_2 hp, xk_3 hp, xk_4 hp, xk_5 hp, xk_6 hp, xk_7 hp, xk_8 hp, xk_9 hp, xk_10 hp, xk_11 hp, xk_12 hp, xk_13 hp, xk_14 hp, xk_15 hp, xk_16 hp, xk_17 hp, xk_18 hp, xk_19 hp, xk_20 hp, xk_21 hp, xl_1 hp, xl_2 hp, xl_3 hp, xl_4 hp, xl_6 hp, xl_8 hp, xl_10 hp, xl_12 hp, xl_14 hp, xl_15 hp, xl_17 hp, xl_18 hp, xl_21 hp, xp_7 hp, xp_8 hp, xp_9 hp, xp_10 hp, xp_11 hp, xp_12 hp, xp_13 hp, xp_14 hp, xp_15 hp, xp_16 hp, xp_17 hp, xp_t5 hp, xp_t7 hp, xp_t9 hp, xp_t11 hp, xp_t20 hp, xp_s19 hp, xp_a13 hp, xp_b13 hp, xp_a16 hp, xp_b16 hp, xc_r5 hp, xc_c5 hp, xc_r7 hp, xc_c7 hp, xc_r9 hp, xc_c9 hp, xc_r11 hp, xc_c11 hp, xc_r20 hp, xc_c20 hp, no_on, sk_0, hpp])
      | (with_reducible refine ev_gid ?_; simp (disch := first | omega | assumption) only [ev_run_c, ev_run_n, ev_fj, ev_stp, ev_lk, ev_fv, ev_as, ev_sz, ev_st1, ev_st2, ev_rm, ev_pk, ev_Jof, ev_go, lv_args, List.map_cons, List.map_nil, List.zip_cons_cons, List.zip_nil_left, List.zip_nil_right, List.nil_append, List.cons_append, ↓reduceIte, reduceCtorEq, Int.reduceToNat, Nat.reduceEqDiff, Nat.reduceAdd, Nat.reduceLT, Nat.reduceLeDiff, Nat.reduceMul, Nat.reduceSub, Value.category, false_implies, true_and, and_true, Bool.false_eq_true, Option.some.injEq, exists_eq_left', Option.toList_some, Option.toList_none, ev_km, ev_k2, ev_k3, ev_k4, ev_k5, ev_l0, ev_l1, sh_1, sh_2, sh_3, sh_4, sh_5, ca_X10_273, ca_X10_276, ca_X10_279, ca_X10_282, ca_X10_285, ca_X10_288, ca_X10_96, cd_X10_imbalance_0, fl_X10_31, no_0, no_1, no_lt, no_le, no_eq, no_lt0, no_ge0, no_gt0, no_le0, no_eq0, no_0eq, no_eqm, no_meq, no_m0, no_mlt, no_mge, no_mgt, no_mm, no_i01, no_i10, no_in, no_or, no_ifm, no_mul, nI_add, no_sub, pk_div, iI_if, nI_clamp, oI_n, oI_s, not_true_eq_false, not_false_eq_true, forall_const, true_implies, false_and, and_false, or_false, false_or, Classical.not_not, true_or, or_true, no_b, no_eq1, eq_self, and_self, xk_0 hp, xk_1 hp, xk_2 hp, xk_3 hp, xk_4 hp, xk_5 hp, xk_6 hp, xk_7 hp, xk_8 hp, xk_9 hp, xk_10 hp, xk_11 hp, xk_12 hp, xk_13 hp, xk_14 hp, xk_15 hp, xk_16 hp, xk_17 hp, xk_18 hp, xk_19 hp, xk_20 hp, xk_21 hp, xl_1 hp, xl_2 hp, xl_3 hp, xl_4 hp, xl_6 hp, xl_8 hp, xl_10 hp, xl_12 hp, xl_14 hp, xl_15 hp, xl_17 hp, xl_18 hp, xl_21 hp, xp_7 hp, xp_8 hp, xp_9 hp, xp_10 hp, xp_11 hp, xp_12 hp, xp_13 hp, xp_14 hp, xp_15 hp, xp_16 hp, xp_17 hp, xp_t5 hp, xp_t7 hp, xp_t9 hp, xp_t11 hp, xp_t20 hp, xp_s19 hp, xp_a13 hp, xp_b13 hp, xp_a16 hp, xp_b16 hp, xc_r5 hp, xc_c5 hp, xc_r7 hp, xc_c7 hp, xc_r9 hp, xc_c9 hp, xc_r11 hp, xc_c11 hp, xc_r20 hp, xc_c20 hp, no_on, sk_0, hpp])
      | (with_reducible refine And.intro (fun q => ?_) (fun q => ?_) <;> (try simp (disch := first | omega | assumption) only [no_0, no_1, no_lt, no_le, no_eq, no_lt0, no_ge0, no_gt0, no_le0, no_eq0, no_0eq, no_eqm, no_meq, no_m0, no_mlt, no_mge, no_mgt, no_mm, no_i01, no_i10, no_in, no_or, no_ifm, no_mul, nI_add, no_sub, pk_div, iI_if, nI_clamp, oI_n, oI_s, not_true_eq_false, not_false_eq_true, forall_const, true_implies, false_and, and_false, or_false, false_or, Classical.not_not, true_or, or_true, no_b, no_eq1, eq_self, and_self, xk_0 hp, xk_1 hp, xk_2 hp, xk_3 hp, xk_4 hp, xk_5 hp, xk_6 hp, xk_7 hp, xk_8 hp, xk_9 hp, xk_10 hp, xk_11 hp, xk_12 hp, xk_13 hp, xk_14 hp, xk_15 hp, xk_16 hp, xk_17 hp, xk_18 hp, xk_19 hp, xk_20 hp, xk_21 hp, xl_1 hp, xl_2 hp, xl_3 hp, xl_4 hp, xl_6 hp, xl_8 hp, xl_10 hp, xl_12 hp, xl_14 hp, xl_15 hp, xl_17 hp, xl_18 hp, xl_21 hp, xp_7 hp, xp_8 hp, xp_9 hp, xp_10 hp, xp_11 hp, xp_12 hp, xp_13 hp, xp_14 hp, xp_15 hp, xp_16 hp, xp_17 hp, xp_t5 hp, xp_t7 hp, xp_t9 hp, xp_t11 hp, xp_t20 hp, xp_s19 hp, xp_a13 hp, xp_b13 hp, xp_a16 hp, xp_b16 hp, xc_r5 hp, xc_c5 hp, xc_r7 hp, xc_c7 hp, xc_r9 hp, xc_c9 hp, xc_r11 hp, xc_c11 hp, xc_r20 hp, xc_c20 hp, no_on, sk_0, hpp] at q))
      | with_reducible refine ev_cx (m_X10_requirePanel_n hok hp hpp (by with_reducible assumption)) ?_
      | with_reducible refine ev_ci (m_X10_requirePanel_y hok hp hpp (by with_reducible assumption)) ?_
      | with_reducible refine ev_ci (m_X4_seatsInConflict hok hp (by with_reducible assumption) (by with_reducible assumption)) ?_
      | with_reducible refine ev_ci (m_X4_overloadedTasters hok hp (by with_reducible assumption) (by with_reducible assumption)) ?_
      | with_reducible refine ev_ci (m_X4_scoresWithoutSeat hok hp (by with_reducible assumption) (by with_reducible assumption)) ?_
      | with_reducible refine ev_ci (m_X4_loadSum hok hp (by with_reducible assumption) (by with_reducible assumption)) ?_
      | with_reducible refine ev_ci (m_X4_takenSeats hok hp (by with_reducible assumption) (by with_reducible assumption)) ?_
      | omega
      | with_reducible assumption
      | with_reducible rfl
      | (refine Nat.lt_of_lt_of_le ?_ (Nat.le_refl 312); omega)
      | with_reducible refine lp_nx ?_ ?_ ?_ ?_
      | with_reducible refine lp_st ?_ ?_ ?_
      | with_reducible refine ls_c ?_ ?_
      | with_reducible refine vi_c ?_
      | with_reducible refine re_c ?_
      | with_reducible refine vz_c ?_
      | with_reducible refine rz_c ?_
      | exact trivial
      | with_reducible refine And.intro ?_ ?_
      | simp (disch := first | omega | assumption) only [ev_run_c, ev_run_n, ev_fj, ev_stp, ev_lk, ev_fv, ev_as, ev_sz, ev_st1, ev_st2, ev_rm, ev_pk, ev_Jof, ev_go, lv_args, List.map_cons, List.map_nil, List.zip_cons_cons, List.zip_nil_left, List.zip_nil_right, List.nil_append, List.cons_append, ↓reduceIte, reduceCtorEq, Int.reduceToNat, Nat.reduceEqDiff, Nat.reduceAdd, Nat.reduceLT, Nat.reduceLeDiff, Nat.reduceMul, Nat.reduceSub, Value.category, false_implies, true_and, and_true, Bool.false_eq_true, Option.some.injEq, exists_eq_left', Option.toList_some, Option.toList_none, ev_km, ev_k2, ev_k3, ev_k4, ev_k5, ev_l0, ev_l1, sh_1, sh_2, sh_3, sh_4, sh_5, ca_X10_273, ca_X10_276, ca_X10_279, ca_X10_282, ca_X10_285, ca_X10_288, ca_X10_96, cd_X10_imbalance_0, fl_X10_31, no_0, no_1, no_lt, no_le, no_eq, no_lt0, no_ge0, no_gt0, no_le0, no_eq0, no_0eq, no_eqm, no_meq, no_m0, no_mlt, no_mge, no_mgt, no_mm, no_i01, no_i10, no_in, no_or, no_ifm, no_mul, nI_add, no_sub, pk_div, iI_if, nI_clamp, oI_n, oI_s, not_true_eq_false, not_false_eq_true, forall_const, true_implies, false_and, and_false, or_false, false_or, Classical.not_not, true_or, or_true, no_b, no_eq1, eq_self, and_self, xk_0 hp, xk_1 hp, xk_2 hp, xk_3 hp, xk_4 hp, xk_5 hp, xk_6 hp, xk_7 hp, xk_8 hp, xk_9 hp, xk_10 hp, xk_11 hp, xk_12 hp, xk_13 hp, xk_14 hp, xk_15 hp, xk_16 hp, xk_17 hp, xk_18 hp, xk_19 hp, xk_20 hp, xk_21 hp, xl_1 hp, xl_2 hp, xl_3 hp, xl_4 hp, xl_6 hp, xl_8 hp, xl_10 hp, xl_12 hp, xl_14 hp, xl_15 hp, xl_17 hp, xl_18 hp, xl_21 hp, xp_7 hp, xp_8 hp, xp_9 hp, xp_10 hp, xp_11 hp, xp_12 hp, xp_13 hp, xp_14 hp, xp_15 hp, xp_16 hp, xp_17 hp, xp_t5 hp, xp_t7 hp, xp_t9 hp, xp_t11 hp, xp_t20 hp, xp_s19 hp, xp_a13 hp, xp_b13 hp, xp_a16 hp, xp_b16 hp, xc_r5 hp, xc_c5 hp, xc_r7 hp, xc_c7 hp, xc_r9 hp, xc_c9 hp, xc_r11 hp, xc_c11 hp, xc_r20 hp, xc_c20 hp, no_on, sk_0, hpp]
      | exact rfl
      | (split <;> omega))
  · rw [v0_1, thc_0, xR_0, imb_is hI]
    unfold aI
    by_cases c : (0 : Int) ≤ (lds N (N 0) : Nat) - (tkn N (N 1) : Nat)
    · rw [if_pos c]
      refine ev_tri hok okM_X10_imbalance (Nat.le_of_ble_eq_true rfl) 400 ?_
      rw [at_X10_imbalance_0]
      repeat' (first
        | (with_reducible refine ev_rid ?_; simp (disch := first | omega | assumption) only [ev_run_c, ev_run_n, ev_fj, ev_stp, ev_lk, ev_fv, ev_as, ev_sz, ev_st1, ev_st2, ev_rm, ev_pk, ev_Jof, ev_go, lv_args, List.map_cons, List.map_nil, List.zip_cons_cons, List.zip_nil_left, List.zip_nil_right, List.nil_append, List.cons_append, ↓reduceIte, reduceCtorEq, Int.reduceToNat, Nat.reduceEqDiff, Nat.reduceAdd, Nat.reduceLT, Nat.reduceLeDiff, Nat.reduceMul, Nat.reduceSub, Value.category, false_implies, true_and, and_true, Bool.false_eq_true, Option.some.injEq, exists_eq_left', Option.toList_some, Option.toList_none, ev_km, ev_k2, ev_k3, ev_k4, ev_k5, ev_l0, ev_l1, sh_1, sh_2, sh_3, sh_4, sh_5, ca_X10_273, ca_X10_276, ca_X10_279, ca_X10_282, ca_X10_285, ca_X10_288, ca_X10_96, cd_X10_imbalance_0, fl_X10_31, no_0, no_1, no_lt, no_le, no_eq, no_lt0, no_ge0, no_gt0, no_le0, no_eq0, no_0eq, no_eqm, no_meq, no_m0, no_mlt, no_mge, no_mgt, no_mm, no_i01, no_i10, no_in, no_or, no_ifm, no_mul, nI_add, pk_div, iI_if, nI_clamp, oI_n, oI_s, not_true_eq_false, not_false_eq_true, forall_const, true_implies, false_and, and_false, or_false, false_or, Classical.not_not, true_or, or_true, no_b, no_eq1, eq_self, and_self, xk_0 hp, xk_1 hp, xk_2 hp, xk_3 hp, xk_4 hp, xk_5 hp, xk_6 hp, xk_7 hp, xk_8 hp, xk_9 hp, xk_10 hp, xk_11 hp, xk_12 hp, xk_13 hp, xk_14 hp, xk_15 hp, xk_16 hp, xk_17 hp, xk_18 hp, xk_19 hp, xk_20 hp, xk_21 hp, xl_1 hp, xl_2 hp, xl_3 hp, xl_4 hp, xl_6 hp, xl_8 hp, xl_10 hp, xl_12 hp, xl_14 hp, xl_15 hp, xl_17 hp, xl_18 hp, xl_21 hp, xp_7 hp, xp_8 hp, xp_9 hp, xp_10 hp, xp_11 hp, xp_12 hp, xp_13 hp, xp_14 hp, xp_15 hp, xp_16 hp, xp_17 hp, xp_t5 hp, xp_t7 hp, xp_t9 hp, xp_t11 hp, xp_t20 hp, xp_s19 hp, xp_a13 hp, xp_b13 hp, xp_a16 hp, xp_b16 hp, xc_r5 hp, xc_c5 hp, xc_r7 hp, xc_c7 hp, xc_r9 hp, xc_c9 hp, xc_r11 hp, xc_c11 hp, xc_r20 hp, xc_c20 hp, no_on, sk_0, hpp, hH, iI_dif, iI_na, iI_ge0, iI_0s, iI_an, if_pos c])
        | (with_reducible refine ev_gid ?_; simp (disch := first | omega | assumption) only [ev_run_c, ev_run_n, ev_fj, ev_stp, ev_lk, ev_fv, ev_as, ev_sz, ev_st1, ev_st2, ev_rm, ev_pk, ev_Jof, ev_go, lv_args, List.map_cons, List.map_nil, List.zip_cons_cons, List.zip_nil_left, List.zip_nil_right, List.nil_append, List.cons_append, ↓reduceIte, reduceCtorEq, Int.reduceToNat, Nat.reduceEqDiff, Nat.reduceAdd, Nat.reduceLT, Nat.reduceLeDiff, Nat.reduceMul, Nat.reduceSub, Value.category, false_implies, true_and, and_true, Bool.false_eq_true, Option.some.injEq, exists_eq_left', Option.toList_some, Option.toList_none, ev_km, ev_k2, ev_k3, ev_k4, ev_k5, ev_l0, ev_l1, sh_1, sh_2, sh_3, sh_4, sh_5, ca_X10_273, ca_X10_276, ca_X10_279, ca_X10_282, ca_X10_285, ca_X10_288, ca_X10_96, cd_X10_imbalance_0, fl_X10_31, no_0, no_1, no_lt, no_le, no_eq, no_lt0, no_ge0, no_gt0, no_le0, no_eq0, no_0eq, no_eqm, no_meq, no_m0, no_mlt, no_mge, no_mgt, no_mm, no_i01, no_i10, no_in, no_or, no_ifm, no_mul, nI_add, pk_div, iI_if, nI_clamp, oI_n, oI_s, not_true_eq_false, not_false_eq_true, forall_const, true_implies, false_and, and_false, or_false, false_or, Classical.not_not, true_or, or_true, no_b, no_eq1, eq_self, and_self, xk_0 hp, xk_1 hp, xk_2 hp, xk_3 hp, xk_4 hp, xk_5 hp, xk_6 hp, xk_7 hp, xk_8 hp, xk_9 hp, xk_10 hp, xk_11 hp, xk_12 hp, xk_13 hp, xk_14 hp, xk_15 hp, xk_16 hp, xk_17 hp, xk_18 hp, xk_19 hp, xk_20 hp, xk_21 hp, xl_1 hp, xl_2 hp, xl_3 hp, xl_4 hp, xl_6 hp, xl_8 hp, xl_10 hp, xl_12 hp, xl_14 hp, xl_15 hp, xl_17 hp, xl_18 hp, xl_21 hp, xp_7 hp, xp_8 hp, xp_9 hp, xp_10 hp, xp_11 hp, xp_12 hp, xp_13 hp, xp_14 hp, xp_15 hp, xp_16 hp, xp_17 hp, xp_t5 hp, xp_t7 hp, xp_t9 hp, xp_t11 hp, xp_t20 hp, xp_s19 hp, xp_a13 hp, xp_b13 hp, xp_a16 hp, xp_b16 hp, xc_r5 hp, xc_c5 hp, xc_r7 hp, xc_c7 hp, xc_r9 hp, xc_c9 hp, xc_r11 hp, xc_c11 hp, xc_r20 hp, xc_c20 hp, no_on, sk_0, hpp, hH, iI_dif, iI_na, iI_ge0, iI_0s, iI_an, if_pos c])
        | (with_reducible refine And.intro (fun q => ?_) (fun q => ?_) <;> (try simp (disch := first | omega | assumption) only [no_0, no_1, no_lt, no_le, no_eq, no_lt0, no_ge0, no_gt0, no_le0, no_eq0, no_0eq, no_eqm, no_meq, no_m0, no_mlt, no_mge, no_mgt, no_mm, no_i01, no_i10, no_in, no_or, no_ifm, no_mul, nI_add, no_sub, pk_div, iI_if, nI_clamp, oI_n, oI_s, not_true_eq_false, not_false_eq_true, forall_const, true_implies, false_and, and_false, or_false, false_or, Classical.not_not, true_or, or_true, no_b, no_eq1, eq_self, and_self, xk_0 hp, xk_1 hp, xk_2 hp, xk_3 hp, xk_4 hp, xk_5 hp, xk_6 hp, xk_7 hp, xk_8 hp, xk_9 hp, xk_10 hp, xk_11 hp, xk_12 hp, xk_13 hp, xk_14 hp, xk_15 hp, xk_16 hp, xk_17 hp, xk_18 hp, xk_19 hp, xk_20 hp, xk_21 hp, xl_1 hp, xl_2 hp, xl_3 hp, xl_4 hp, xl_6 hp, xl_8 hp, xl_10 hp, xl_12 hp, xl_14 hp, xl_15 hp, xl_17 hp, xl_18 hp, xl_21 hp, xp_7 hp, xp_8 hp, xp_9 hp, xp_10 hp, xp_11 hp, xp_12 hp, xp_13 hp, xp_14 hp, xp_15 hp, xp_16 hp, xp_17 hp, xp_t5 hp, xp_t7 hp, xp_t9 hp, xp_t11 hp, xp_t20 hp, xp_s19 hp, xp_a13 hp, xp_b13 hp, xp_a16 hp, xp_b16 hp, xc_r5 hp, xc_c5 hp, xc_r7 hp, xc_c7 hp, xc_r9 hp, xc_c9 hp, xc_r11 hp, xc_c11 hp, xc_r20 hp, xc_c20 hp, no_on, sk_0, hpp, hH, iI_dif, iI_na, iI_ge0, iI_0s, iI_an, if_pos c] at q))
        | with_reducible refine ev_cx (m_X10_requirePanel_n hok hp hpp (by with_reducible assumption)) ?_
        | with_reducible refine ev_ci (m_X10_requirePanel_y hok hp hpp (by with_reducible assumption)) ?_
        | with_reducible refine ev_ci (m_X4_seatsInConflict hok hp (by with_reducible assumption) (by with_reducible assumption)) ?_
        | with_reducible refine ev_ci (m_X4_overloadedTasters hok hp (by with_reducible assumption) (by with_reducible assumption)) ?_
        | with_reducible refine ev_ci (m_X4_scoresWithoutSeat hok hp (by with_reducible assumption) (by with_reducible assumption)) ?_
        | with_reducible refine ev_ci (m_X4_loadSum hok hp (by with_reducible assumption) (by with_reducible assumption)) ?_
        | with_reducible refine ev_ci (m_X4_takenSeats hok hp (by with_reducible assumption) (by with_reducible assumption)) ?_
        | omega
        | with_reducible assumption
        | with_reducible rfl
        | (refine Nat.lt_of_lt_of_le ?_ (Nat.le_refl 312); omega)
        | with_reducible refine lp_nx ?_ ?_ ?_ ?_
        | with_reducible refine lp_st ?_ ?_ ?_
        | with_reducible refine ls_c ?_ ?_
        | with_reducible refine vi_c ?_
        | with_reducible refine re_c ?_
        | with_reducible refine vz_c ?_
        | with_reducible refine rz_c ?_
        | exact trivial
        | with_reducible refine And.intro ?_ ?_
        | simp (disch := first | omega | assumption) only [ev_run_c, ev_run_n, ev_fj, ev_stp, ev_lk, ev_fv, ev_as, ev_sz, ev_st1, ev_st2, ev_rm, ev_pk, ev_Jof, ev_go, lv_args, List.map_cons, List.map_nil, List.zip_cons_cons, List.zip_nil_left, List.zip_nil_right, List.nil_append, List.cons_append, ↓reduceIte, reduceCtorEq, Int.reduceToNat, Nat.reduceEqDiff, Nat.reduceAdd, Nat.reduceLT, Nat.reduceLeDiff, Nat.reduceMul, Nat.reduceSub, Value.category, false_implies, true_and, and_true, Bool.false_eq_true, Option.some.injEq, exists_eq_left', Option.toList_some, Option.toList_none, ev_km, ev_k2, ev_k3, ev_k4, ev_k5, ev_l0, ev_l1, sh_1, sh_2, sh_3, sh_4, sh_5, ca_X10_273, ca_X10_276, ca_X10_279, ca_X10_282, ca_X10_285, ca_X10_288, ca_X10_96, cd_X10_imbalance_0, fl_X10_31, no_0, no_1, no_lt, no_le, no_eq, no_lt0, no_ge0, no_gt0, no_le0, no_eq0, no_0eq, no_eqm, no_meq, no_m0, no_mlt, no_mge, no_mgt, no_mm, no_i01, no_i10, no_in, no_or, no_ifm, no_mul, nI_add, pk_div, iI_if, nI_clamp, oI_n, oI_s, not_true_eq_false, not_false_eq_true, forall_const, true_implies, false_and, and_false, or_false, false_or, Classical.not_not, true_or, or_true, no_b, no_eq1, eq_self, and_self, xk_0 hp, xk_1 hp, xk_2 hp, xk_3 hp, xk_4 hp, xk_5 hp, xk_6 hp, xk_7 hp, xk_8 hp, xk_9 hp, xk_10 hp, xk_11 hp, xk_12 hp, xk_13 hp, xk_14 hp, xk_15 hp, xk_16 hp, xk_17 hp, xk_18 hp, xk_19 hp, xk_20 hp, xk_21 hp, xl_1 hp, xl_2 hp, xl_3 hp, xl_4 hp, xl_6 hp, xl_8 hp, xl_10 hp, xl_12 hp, xl_14 hp, xl_15 hp, xl_17 hp, xl_18 hp, xl_21 hp, xp_7 hp, xp_8 hp, xp_9 hp, xp_10 hp, xp_11 hp, xp_12 hp, xp_13 hp, xp_14 hp, xp_15 hp, xp_16 hp, xp_17 hp, xp_t5 hp, xp_t7 hp, xp_t9 hp, xp_t11 hp, xp_t20 hp, xp_s19 hp, xp_a13 hp, xp_b13 hp, xp_a16 hp, xp_b16 hp, xc_r5 hp, xc_c5 hp, xc_r7 hp, xc_c7 hp, xc_r9 hp, xc_c9 hp, xc_r11 hp, xc_c11 hp, xc_r20 hp, xc_c20 hp, no_on, sk_0, hpp, hH, iI_dif, iI_na, iI_ge0, iI_0s, iI_an, if_pos c]
        | exact rfl
        | (split <;> omega))
    · rw [if_neg c]
      refine ev_tri hok okM_X10_imbalance (Nat.le_of_ble_eq_true rfl) 400 ?_
      rw [at_X10_imbalance_0]
      repeat' (first
        | (with_reducible refine ev_rid ?_; simp (disch := first | omega | assumption) only [ev_run_c, ev_run_n, ev_fj, ev_stp, ev_lk, ev_fv, ev_as, ev_sz, ev_st1, ev_st2, ev_rm, ev_pk, ev_Jof, ev_go, lv_args, List.map_cons, List.map_nil, List.zip_cons_cons, List.zip_nil_left, List.zip_nil_right, List.nil_append, List.cons_append, ↓reduceIte, reduceCtorEq, Int.reduceToNat, Nat.reduceEqDiff, Nat.reduceAdd, Nat.reduceLT, Nat.reduceLeDiff, Nat.reduceMul, Nat.reduceSub, Value.category, false_implies, true_and, and_true, Bool.false_eq_true, Option.some.injEq, exists_eq_left', Option.toList_some, Option.toList_none, ev_km, ev_k2, ev_k3, ev_k4, ev_k5, ev_l0, ev_l1, sh_1, sh_2, sh_3, sh_4, sh_5, ca_X10_273, ca_X10_276, ca_X10_279, ca_X10_282, ca_X10_285, ca_X10_288, ca_X10_96, cd_X10_imbalance_0, fl_X10_31, no_0, no_1, no_lt, no_le, no_eq, no_lt0, no_ge0, no_gt0, no_le0, no_eq0, no_0eq, no_eqm, no_meq, no_m0, no_mlt, no_mge, no_mgt, no_mm, no_i01, no_i10, no_in, no_or, no_ifm, no_mul, nI_add, pk_div, iI_if, nI_clamp, oI_n, oI_s, not_true_eq_false, not_false_eq_true, forall_const, true_implies, false_and, and_false, or_false, false_or, Classical.not_not, true_or, or_true, no_b, no_eq1, eq_self, and_self, xk_0 hp, xk_1 hp, xk_2 hp, xk_3 hp, xk_4 hp, xk_5 hp, xk_6 hp, xk_7 hp, xk_8 hp, xk_9 hp, xk_10 hp, xk_11 hp, xk_12 hp, xk_13 hp, xk_14 hp, xk_15 hp, xk_16 hp, xk_17 hp, xk_18 hp, xk_19 hp, xk_20 hp, xk_21 hp, xl_1 hp, xl_2 hp, xl_3 hp, xl_4 hp, xl_6 hp, xl_8 hp, xl_10 hp, xl_12 hp, xl_14 hp, xl_15 hp, xl_17 hp, xl_18 hp, xl_21 hp, xp_7 hp, xp_8 hp, xp_9 hp, xp_10 hp, xp_11 hp, xp_12 hp, xp_13 hp, xp_14 hp, xp_15 hp, xp_16 hp, xp_17 hp, xp_t5 hp, xp_t7 hp, xp_t9 hp, xp_t11 hp, xp_t20 hp, xp_s19 hp, xp_a13 hp, xp_b13 hp, xp_a16 hp, xp_b16 hp, xc_r5 hp, xc_c5 hp, xc_r7 hp, xc_c7 hp, xc_r9 hp, xc_c9 hp, xc_r11 hp, xc_c11 hp, xc_r20 hp, xc_c20 hp, no_on, sk_0, hpp, hH, iI_dif, iI_na, iI_ge0, iI_0s, iI_an, if_neg c])
        | (with_reducible refine ev_gid ?_; simp (disch := first | omega | assumption) only [ev_run_c, ev_run_n, ev_fj, ev_stp, ev_lk, ev_fv, ev_as, ev_sz, ev_st1, ev_st2, ev_rm, ev_pk, ev_Jof, ev_go, lv_args, List.map_cons, List.map_nil, List.zip_cons_cons, List.zip_nil_left, List.zip_nil_right, List.nil_append, List.cons_append, ↓reduceIte, reduceCtorEq, Int.reduceToNat, Nat.reduceEqDiff, Nat.reduceAdd, Nat.reduceLT, Nat.reduceLeDiff, Nat.reduceMul, Nat.reduceSub, Value.category, false_implies, true_and, and_true, Bool.false_eq_true, Option.some.injEq, exists_eq_left', Option.toList_some, Option.toList_none, ev_km, ev_k2, ev_k3, ev_k4, ev_k5, ev_l0, ev_l1, sh_1, sh_2, sh_3, sh_4, sh_5, ca_X10_273, ca_X10_276, ca_X10_279, ca_X10_282, ca_X10_285, ca_X10_288, ca_X10_96, cd_X10_imbalance_0, fl_X10_31, no_0, no_1, no_lt, no_le, no_eq, no_lt0, no_ge0, no_gt0, no_le0, no_eq0, no_0eq, no_eqm, no_meq, no_m0, no_mlt, no_mge, no_mgt, no_mm, no_i01, no_i10, no_in, no_or, no_ifm, no_mul, nI_add, pk_div, iI_if, nI_clamp, oI_n, oI_s, not_true_eq_false, not_false_eq_true, forall_const, true_implies, false_and, and_false, or_false, false_or, Classical.not_not, true_or, or_true, no_b, no_eq1, eq_self, and_self, xk_0 hp, xk_1 hp, xk_2 hp, xk_3 hp, xk_4 hp, xk_5 hp, xk_6 hp, xk_7 hp, xk_8 hp, xk_9 hp, xk_10 hp, xk_11 hp, xk_12 hp, xk_13 hp, xk_14 hp, xk_15 hp, xk_16 hp, xk_17 hp, xk_18 hp, xk_19 hp, xk_20 hp, xk_21 hp, xl_1 hp, xl_2 hp, xl_3 hp, xl_4 hp, xl_6 hp, xl_8 hp, xl_10 hp, xl_12 hp, xl_14 hp, xl_15 hp, xl_17 hp, xl_18 hp, xl_21 hp, xp_7 hp, xp_8 hp, xp_9 hp, xp_10 hp, xp_11 hp, xp_12 hp, xp_13 hp, xp_14 hp, xp_15 hp, xp_16 hp, xp_17 hp, xp_t5 hp, xp_t7 hp, xp_t9 hp, xp_t11 hp, xp_t20 hp, xp_s19 hp, xp_a13 hp, xp_b13 hp, xp_a16 hp, xp_b16 hp, xc_r5 hp, xc_c5 hp, xc_r7 hp, xc_c7 hp, xc_r9 hp, xc_c9 hp, xc_r11 hp, xc_c11 hp, xc_r20 hp, xc_c20 hp, no_on, sk_0, hpp, hH, iI_dif, iI_na, iI_ge0, iI_0s, iI_an, if_neg c])
        | (with_reducible refine And.intro (fun q => ?_) (fun q => ?_) <;> (try simp (disch := first | omega | assumption) only [no_0, no_1, no_lt, no_le, no_eq, no_lt0, no_ge0, no_gt0, no_le0, no_eq0, no_0eq, no_eqm, no_meq, no_m0, no_mlt, no_mge, no_mgt, no_mm, no_i01, no_i10, no_in, no_or, no_ifm, no_mul, nI_add, no_sub, pk_div, iI_if, nI_clamp, oI_n, oI_s, not_true_eq_false, not_false_eq_true, forall_const, true_implies, false_and, and_false, or_false, false_or, Classical.not_not, true_or, or_true, no_b, no_eq1, eq_self, and_self, xk_0 hp, xk_1 hp, xk_2 hp, xk_3 hp, xk_4 hp, xk_5 hp, xk_6 hp, xk_7 hp, xk_8 hp, xk_9 hp, xk_10 hp, xk_11 hp, xk_12 hp, xk_13 hp, xk_14 hp, xk_15 hp, xk_16 hp, xk_17 hp, xk_18 hp, xk_19 hp, xk_20 hp, xk_21 hp, xl_1 hp, xl_2 hp, xl_3 hp, xl_4 hp, xl_6 hp, xl_8 hp, xl_10 hp, xl_12 hp, xl_14 hp, xl_15 hp, xl_17 hp, xl_18 hp, xl_21 hp, xp_7 hp, xp_8 hp, xp_9 hp, xp_10 hp, xp_11 hp, xp_12 hp, xp_13 hp, xp_14 hp, xp_15 hp, xp_16 hp, xp_17 hp, xp_t5 hp, xp_t7 hp, xp_t9 hp, xp_t11 hp, xp_t20 hp, xp_s19 hp, xp_a13 hp, xp_b13 hp, xp_a16 hp, xp_b16 hp, xc_r5 hp, xc_c5 hp, xc_r7 hp, xc_c7 hp, xc_r9 hp, xc_c9 hp, xc_r11 hp, xc_c11 hp, xc_r20 hp, xc_c20 hp, no_on, sk_0, hpp, hH, iI_dif, iI_na, iI_ge0, iI_0s, iI_an, if_neg c] at q))
        | with_reducible refine ev_cx (m_X10_requirePanel_n hok hp hpp (by with_reducible assumption)) ?_
        | with_reducible refine ev_ci (m_X10_requirePanel_y hok hp hpp (by with_reducible assumption)) ?_
        | with_reducible refine ev_ci (m_X4_seatsInConflict hok hp (by with_reducible assumption) (by with_reducible assumption)) ?_
        | with_reducible refine ev_ci (m_X4_overloadedTasters hok hp (by with_reducible assumption) (by with_reducible assumption)) ?_
        | with_reducible refine ev_ci (m_X4_scoresWithoutSeat hok hp (by with_reducible assumption) (by with_reducible assumption)) ?_
        | with_reducible refine ev_ci (m_X4_loadSum hok hp (by with_reducible assumption) (by with_reducible assumption)) ?_
        | with_reducible refine ev_ci (m_X4_takenSeats hok hp (by with_reducible assumption) (by with_reducible assumption)) ?_
        | omega
        | with_reducible assumption
        | with_reducible rfl
        | (refine Nat.lt_of_lt_of_le ?_ (Nat.le_refl 312); omega)
        | with_reducible refine lp_nx ?_ ?_ ?_ ?_
        | with_reducible refine lp_st ?_ ?_ ?_
        | with_reducible refine ls_c ?_ ?_
        | with_reducible refine vi_c ?_
        | with_reducible refine re_c ?_
        | with_reducible refine vz_c ?_
        | with_reducible refine rz_c ?_
        | exact trivial
        | with_reducible refine And.intro ?_ ?_
        | simp (disch := first | omega | assumption) only [ev_run_c, ev_run_n, ev_fj, ev_stp, ev_lk, ev_fv, ev_as, ev_sz, ev_st1, ev_st2, ev_rm, ev_pk, ev_Jof, ev_go, lv_args, List.map_cons, List.map_nil, List.zip_cons_cons, List.zip_nil_left, List.zip_nil_right, List.nil_append, List.cons_append, ↓reduceIte, reduceCtorEq, Int.reduceToNat, Nat.reduceEqDiff, Nat.reduceAdd, Nat.reduceLT, Nat.reduceLeDiff, Nat.reduceMul, Nat.reduceSub, Value.category, false_implies, true_and, and_true, Bool.false_eq_true, Option.some.injEq, exists_eq_left', Option.toList_some, Option.toList_none, ev_km, ev_k2, ev_k3, ev_k4, ev_k5, ev_l0, ev_l1, sh_1, sh_2, sh_3, sh_4, sh_5, ca_X10_273, ca_X10_276, ca_X10_279, ca_X10_282, ca_X10_285, ca_X10_288, ca_X10_96, cd_X10_imbalance_0, fl_X10_31, no_0, no_1, no_lt, no_le, no_eq, no_lt0, no_ge0, no_gt0, no_le0, no_eq0, no_0eq, no_eqm, no_meq, no_m0, no_mlt, no_mge, no_mgt, no_mm, no_i01, no_i10, no_in, no_or, no_ifm, no_mul, nI_add, pk_div, iI_if, nI_clamp, oI_n, oI_s, not_true_eq_false, not_false_eq_true, forall_const, true_implies, false_and, and_false, or_false, false_or, Classical.not_not, true_or, or_true, no_b, no_eq1, eq_self, and_self, xk_0 hp, xk_1 hp, xk_2 hp, xk_3 hp, xk_4 hp, xk_5 hp, xk_6 hp, xk_7 hp, xk_8 hp, xk_9 hp, xk_10 hp, xk_11 hp, xk_12 hp, xk_13 hp, xk_14 hp, xk_15 hp, xk_16 hp, xk_17 hp, xk_18 hp, xk_19 hp, xk_20 hp, xk_21 hp, xl_1 hp, xl_2 hp, xl_3 hp, xl_4 hp, xl_6 hp, xl_8 hp, xl_10 hp, xl_12 hp, xl_14 hp, xl_15 hp, xl_17 hp, xl_18 hp, xl_21 hp, xp_7 hp, xp_8 hp, xp_9 hp, xp_10 hp, xp_11 hp, xp_12 hp, xp_13 hp, xp_14 hp, xp_15 hp, xp_16 hp, xp_17 hp, xp_t5 hp, xp_t7 hp, xp_t9 hp, xp_t11 hp, xp_t20 hp, xp_s19 hp, xp_a13 hp, xp_b13 hp, xp_a16 hp, xp_b16 hp, xc_r5 hp, xc_c5 hp, xc_r7 hp, xc_c7 hp, xc_r9 hp, xc_c9 hp, xc_r11 hp, xc_c11 hp, xc_r20 hp, xc_c20 hp, no_on, sk_0, hpp, hH, iI_dif, iI_na, iI_ge0, iI_0s, iI_an, if_neg c]
        | exact rfl
        | (split <;> omega))
end XImb
