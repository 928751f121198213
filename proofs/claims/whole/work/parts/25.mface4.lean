/-! ===== the reference: ranks asked back, places, imbalance ===== -/
section MFace4
variable {G : ev_G} {N : Nat → Nat} {μ : ev_M}
theorem pigeon {f : Nat → Nat} {n : Nat} (h1 : ∀ i, i < n → f i < n) (h2 : ∀ i j, i < n → j < n → f i = f j → i = j) : ∀ r, r < n → ∃ i, i < n ∧ f i = r := by
  induction n generalizing f with
  | zero => exact fun r hr => absurd hr (Nat.not_lt_zero r)
  | succ n ih =>
    have hm := h1 n (Nat.lt_succ_self n)
    have key : ∀ r, r < n → ∃ i, i < n ∧ (if f i = n then f n else f i) = r := ih (f := fun i => if f i = n then f n else f i) (fun i hi => by
      show (if f i = n then f n else f i) < n
      have := h1 i (by omega)
      split
      · rename_i h3
        have : f n ≠ n := fun h4 => by have := h2 i n (by omega) (by omega) (by omega); omega
        omega
      · omega) (fun i j hi hj h => by
      have h : (if f i = n then f n else f i) = (if f j = n then f n else f j) := h
      by_cases a : f i = n <;> by_cases b : f j = n
      · exact h2 i j (by omega) (by omega) (by omega)
      · rw [if_pos a, if_neg b] at h
        have := h2 n j (by omega) (by omega) h
        omega
      · rw [if_neg a, if_pos b] at h
        have := h2 i n (by omega) (by omega) h
        omega
      · rw [if_neg a, if_neg b] at h
        exact h2 i j (by omega) (by omega) h)
    intro r hr
    by_cases h3 : f n = r
    · exact ⟨n, by omega, h3⟩
    · by_cases h4 : r = n
      · have h5 : f n < n := by omega
        obtain ⟨i, hi, h6⟩ := key (f n) h5
        by_cases h7 : f i = n
        · exact ⟨i, by omega, by omega⟩
        · rw [if_neg h7] at h6
          have := h2 i n (by omega) (by omega) h6
          omega
      · obtain ⟨i, hi, h6⟩ := key r (by omega)
        by_cases h7 : f i = n
        · rw [if_pos h7] at h6
          exact absurd h6 h3
        · rw [if_neg h7] at h6
          exact ⟨i, by omega, h6⟩
theorem ahd_tr {p o q : Nat} (h1 : ahd N p o = 1) (h2 : ahd N o q = 1) : ahd N p q = 1 := by
  unfold ahd at h1 h2 ⊢
  by_cases a : scs N p (N 0) = 0 <;> by_cases b : scs N o (N 0) = 0 <;> by_cases c : scs N q (N 0) = 0 <;> simp only [a, b, c, if_true, if_false] at h1 h2 ⊢ <;> first | omega | (have := tot_0 b) | skip
  all_goals (repeat' split at h1) <;> (repeat' split at h2) <;> first | omega | ((repeat' split) <;> omega)
theorem ahd_to {p o : Nat} (h : p ≠ o) : ahd N p o + ahd N o p = 1 := by
  unfold ahd
  by_cases a : scs N p (N 0) = 0 <;> by_cases b : scs N o (N 0) = 0 <;> simp only [a, b, if_true, if_false]
  all_goals (repeat' split) <;> omega
theorem sm_lt {f g : Nat → Nat} {n p : Nat} (hp : p < n) (h : ∀ k, k < n → f k ≤ g k) (h2 : f p < g p) : sm f n < sm g n := by
  induction n with
  | zero => omega
  | succ n ih =>
    show sm f n + f n < sm g n + g n
    have h3 := h n (by omega)
    rcases Nat.lt_or_ge p n with h1 | h1
    · have := ih h1 (fun k hk => h k (by omega))
      omega
    · have e : p = n := by omega
      subst e
      have h4 : sm f p ≤ sm g p := by
        clear ih h1 h2 h3 hp
        have h : ∀ k, k < p → f k ≤ g k := fun k hk => h k (by omega)
        induction p with
        | zero => exact Nat.le_refl _
        | succ p ih =>
          show sm f p + f p ≤ sm g p + g p
          have := ih (fun k hk => h k (by omega)) (fun k hk => h k (by omega))
          have := h p (by omega)
          omega
      omega
theorem rnk_mono {p q n : Nat} (hp : p < n) (h : ahd N p q = 1) (hpq : p ≠ q) : rnk N p n < rnk N q n := by
  refine sm_lt hp (fun o _ => ?_) ?_
  · show (if o = p then 0 else ahd N o p) ≤ (if o = q then 0 else ahd N o q)
    split
    · omega
    · rename_i h1
      have h2 := ahd_le N o p
      by_cases h3 : ahd N o p = 1
      · by_cases h4 : o = q
        · subst h4
          have := ahd_to (N := N) (p := p) (o := o) hpq
          omega
        · rw [if_neg h4, ahd_tr h3 h]
          exact h2
      · omega
  · show (if p = p then 0 else ahd N p p) < (if p = q then 0 else ahd N p q)
    rw [if_pos rfl, if_neg hpq, h]
    omega
theorem rnk_ex {n r : Nat} (hr : r < n) : ∃ p, p < n ∧ rnk N p n = r := by
  refine pigeon (f := fun p => rnk N p n) (fun i hi => ?_) (fun i j hi hj h => ?_) r hr
  · show sm (fun o => if o = i then 0 else ahd N o i) n < n
    have h1 := sm_lt (f := fun o => if o = i then 0 else ahd N o i) (g := fun _ => 1) hi (fun k _ => by have := ahd_le N k i; (try dsimp only); split <;> omega) (by (try dsimp only); rw [if_pos rfl]; omega)
    have h2 := sm_le (f := fun _ => 1) (B := 1) n (fun _ _ => Nat.le_refl 1)
    omega
  · have h : rnk N i n = rnk N j n := h
    by_cases hij : i = j
    · exact hij
    · have h1 := ahd_to (N := N) hij
      rcases (show ahd N i j = 1 ∨ ahd N j i = 1 by omega) with h2 | h2
      · have := rnk_mono hi h2 hij
        omega
      · have := rnk_mono hj h2 (fun q => hij q.symm)
        omega
def pat (N : Nat → Nat) (r : Nat) : Nat := fx (fun p => rnk N p (N 1)) r (N 1)
theorem pat_lt {r : Nat} (hr : r < N 1) : pat N r < N 1 := fx_of (rnk_ex hr)
set_option maxHeartbeats 1000000 in
theorem m_X11_pancakeAt (hok : ev_ok sh_S G) (hN : MR N μ) (hI : INV N) {e : Nat} (he : μ.1 301 6 = nI e) (he2 : e < 2) (x : Int32) : ev_T sh_S G mi_X11_pancakeAt [.ref 301, .int x] μ (.inl (some (.int (v1 e (N 1) x (fun r => nI (pat N r)))), th μ (c1 e (N 1) x))) := by
  have hh := iv_h hI
  rcases (show e = 0 ∨ e = 1 by omega) with rfl | rfl
  · rw [v1_0]
    refine ev_tri hok (okM_X11_pancakeAt 0) (Nat.le_of_ble_eq_true rfl) 400 ?_
    rw [at_X11_pancakeAt_0]
    repeat' (first
      | (with_reducible refine ev_rid ?_; simp (disch := first | omega | assumption) only [ev_run_c, ev_run_n, ev_fj, ev_stp, ev_lk, ev_fv, ev_as, ev_sz, ev_st1, ev_st2, ev_rm, ev_pk, ev_Jof, ev_go, lv_args, List.map_cons, List.map_nil, List.zip_cons_cons, List.zip_nil_left, List.zip_nil_right, List.nil_append, List.cons_append, ↓reduceIte, reduceCtorEq, Int.reduceToNat, Nat.reduceEqDiff, Nat.reduceAdd, Nat.reduceLT, Nat.reduceLeDiff, Nat.reduceMul, Value.category, false_implies, true_and, and_true, Bool.false_eq_true, Option.some.injEq, exists_eq_left', Option.toList_some, Option.toList_none, ev_km, ev_k2, ev_k3, ev_k4, ev_k5, ev_l0, ev_l1, sh_1, sh_2, sh_3, sh_4, sh_5, at_X11_pancakeAt_10, at_X11_pancakeAt_12, at_X11_pancakeAt_27, ca_X11_411, ca_X11_439, cd_X11_pancakeAt_0, cd_X11_pancakeAt_10, cd_X11_pancakeAt_12, cd_X11_pancakeAt_27, no_0, no_1, no_lt, no_le, no_eq, no_lt0, no_ge0, no_gt0, no_le0, no_eq0, no_0eq, no_eqm, no_meq, no_m0, no_mlt, no_mge, no_mgt, no_mm, no_i01, no_i10, no_in, no_or, no_ifm, no_mul, nI_add, no_sub, pk_div, iI_if, nI_clamp, oI_n, oI_s, not_true_eq_false, not_false_eq_true, forall_const, true_implies, false_and, and_false, or_false, false_or, Classical.not_not, true_or, or_true, no_b, no_eq1, eq_self, and_self, sk_301, sk_302, sl_302, sp_301, c1_0])
      | (with_reducible refine ev_gid ?_; simp (disch := first | omega | assumption) only [ev_run_c, ev_run_n, ev_fj, ev_stp, ev_lk, ev_fv, ev_as, ev_sz, ev_st1, ev_st2, ev_rm, ev_pk, ev_Jof, ev_go, lv_args, List.map_cons, List.map_nil, List.zip_cons_cons, List.zip_nil_left, List.zip_nil_right, List.nil_append, List.cons_append, ↓reduceIte, reduceCtorEq, Int.reduceToNat, Nat.reduceEqDiff, Nat.reduceAdd, Nat.reduceLT, Nat.reduceLeDiff, Nat.reduceMul, Value.category, false_implies, true_and, and_true, Bool.false_eq_true, Option.some.injEq, exists_eq_left', Option.toList_some, Option.toList_none, ev_km, ev_k2, ev_k3, ev_k4, ev_k5, ev_l0, ev_l1, sh_1, sh_2, sh_3, sh_4, sh_5, at_X11_pancakeAt_10, at_X11_pancakeAt_12, at_X11_pancakeAt_27, ca_X11_411, ca_X11_439, cd_X11_pancakeAt_0, cd_X11_pancakeAt_10, cd_X11_pancakeAt_12, cd_X11_pancakeAt_27, no_0, no_1, no_lt, no_le, no_eq, no_lt0, no_ge0, no_gt0, no_le0, no_eq0, no_0eq, no_eqm, no_meq, no_m0, no_mlt, no_mge, no_mgt, no_mm, no_i01, no_i10, no_in, no_or, no_ifm, no_mul, nI_add, no_sub, pk_div, iI_if, nI_clamp, oI_n, oI_s, not_true_eq_false, not_false_eq_true, forall_const, true_implies, false_and, and_false, or_false, false_or, Classical.not_not, true_or, or_true, no_b, no_eq1, eq_self, and_self, sk_301, sk_302, sl_302, sp_301, c1_0])
      | (with_reducible refine And.intro (fun q => ?_) (fun q => ?_) <;> (try simp (disch := first | omega | assumption) only [no_0, no_1, no_lt, no_le, no_eq, no_lt0, no_ge0, no_gt0, no_le0, no_eq0, no_0eq, no_eqm, no_meq, no_m0, no_mlt, no_mge, no_mgt, no_mm, no_i01, no_i10, no_in, no_or, no_ifm, no_mul, nI_add, no_sub, pk_div, iI_if, nI_clamp, oI_n, oI_s, not_true_eq_false, not_false_eq_true, forall_const, true_implies, false_and, and_false, or_false, false_or, Classical.not_not, true_or, or_true, no_b, no_eq1, eq_self, and_self, sk_301, sk_302, sl_302, sp_301, c1_0] at q))
      | with_reducible refine ev_ci (m_X11_mayPancake hok (by first | with_reducible assumption | exact th_R (by with_reducible assumption) | exact mw_R | exact ms_R) (by with_reducible assumption) ?_ ?_ _) ?_
      | with_reducible refine ev_ci (m_X11_rank hok (by first | with_reducible assumption | exact th_R (by with_reducible assumption) | exact mw_R | exact ms_R) (by with_reducible assumption) ?_) ?_
      | omega
      | with_reducible assumption
      | with_reducible rfl
      | with_reducible refine lp_nx ?_ ?_ ?_ ?_
      | with_reducible refine lp_st ?_ ?_ ?_
      | with_reducible refine ls_c ?_ ?_
      | with_reducible refine vi_c ?_
      | with_reducible refine re_c ?_
      | with_reducible refine vz_c ?_
      | with_reducible refine rz_c ?_
      | exact trivial
      | with_reducible refine And.intro ?_ ?_
      | simp (disch := first | omega | assumption) only [ev_run_c, ev_run_n, ev_fj, ev_stp, ev_lk, ev_fv, ev_as, ev_sz, ev_st1, ev_st2, ev_rm, ev_pk, ev_Jof, ev_go, lv_args, List.map_cons, List.map_nil, List.zip_cons_cons, List.zip_nil_left, List.zip_nil_right, List.nil_append, List.cons_append, ↓reduceIte, reduceCtorEq, Int.reduceToNat, Nat.reduceEqDiff, Nat.reduceAdd, Nat.reduceLT, Nat.reduceLeDiff, Nat.reduceMul, Value.category, false_implies, true_and, and_true, Bool.false_eq_true, Option.some.injEq, exists_eq_left', Option.toList_some, Option.toList_none, ev_km, ev_k2, ev_k3, ev_k4, ev_k5, ev_l0, ev_l1, sh_1, sh_2, sh_3, sh_4, sh_5, at_X11_pancakeAt_10, at_X11_pancakeAt_12, at_X11_pancakeAt_27, ca_X11_411, ca_X11_439, cd_X11_pancakeAt_0, cd_X11_pancakeAt_10, cd_X11_pancakeAt_12, cd_X11_pancakeAt_27, no_0, no_1, no_lt, no_le, no_eq, no_lt0, no_ge0, no_gt0, no_le0, no_eq0, no_0eq, no_eqm, no_meq, no_m0, no_mlt, no_mge, no_mgt, no_mm, no_i01, no_i10, no_in, no_or, no_ifm, no_mul, nI_add, no_sub, pk_div, iI_if, nI_clamp, oI_n, oI_s, not_true_eq_false, not_false_eq_true, forall_const, true_implies, false_and, and_false, or_false, false_or, Classical.not_not, true_or, or_true, no_b, no_eq1, eq_self, and_self, sk_301, sk_302, sl_302, sp_301, c1_0]
      | exact rfl
      | (split <;> omega))
  · cases h : rx (N 1) x with
    | none =>
      rw [v1_n h]
      refine ev_tri hok (okM_X11_pancakeAt 0) (Nat.le_of_ble_eq_true rfl) 400 ?_
      rw [at_X11_pancakeAt_0]
      repeat' (first
        | (with_reducible refine ev_rid ?_; simp (disch := first | omega | assumption) only [ev_run_c, ev_run_n, ev_fj, ev_stp, ev_lk, ev_fv, ev_as, ev_sz, ev_st1, ev_st2, ev_rm, ev_pk, ev_Jof, ev_go, lv_args, List.map_cons, List.map_nil, List.zip_cons_cons, List.zip_nil_left, List.zip_nil_right, List.nil_append, List.cons_append, ↓reduceIte, reduceCtorEq, Int.reduceToNat, Nat.reduceEqDiff, Nat.reduceAdd, Nat.reduceLT, Nat.reduceLeDiff, Nat.reduceMul, Value.category, false_implies, true_and, and_true, Bool.false_eq_true, Option.some.injEq, exists_eq_left', Option.toList_some, Option.toList_none, ev_km, ev_k2, ev_k3, ev_k4, ev_k5, ev_l0, ev_l1, sh_1, sh_2, sh_3, sh_4, sh_5, at_X11_pancakeAt_10, at_X11_pancakeAt_12, at_X11_pancakeAt_27, ca_X11_411, ca_X11_439, cd_X11_pancakeAt_0, cd_X11_pancakeAt_10, cd_X11_pancakeAt_12, cd_X11_pancakeAt_27, no_0, no_1, no_lt, no_le, no_eq, no_lt0, no_ge0, no_gt0, no_le0, no_eq0, no_0eq, no_eqm, no_meq, no_m0, no_mlt, no_mge, no_mgt, no_mm, no_i01, no_i10, no_in, no_or, no_ifm, no_mul, nI_add, no_sub, pk_div, iI_if, nI_clamp, oI_n, oI_s, not_true_eq_false, not_false_eq_true, forall_const, true_implies, false_and, and_false, or_false, false_or, Classical.not_not, true_or, or_true, no_b, no_eq1, eq_self, and_self, sk_301, sk_302, sl_302, sp_301, c1_n h])
        | (with_reducible refine ev_gid ?_; simp (disch := first | omega | assumption) only [ev_run_c, ev_run_n, ev_fj, ev_stp, ev_lk, ev_fv, ev_as, ev_sz, ev_st1, ev_st2, ev_rm, ev_pk, ev_Jof, ev_go, lv_args, List.map_cons, List.map_nil, List.zip_cons_cons, List.zip_nil_left, List.zip_nil_right, List.nil_append, List.cons_append, ↓reduceIte, reduceCtorEq, Int.reduceToNat, Nat.reduceEqDiff, Nat.reduceAdd, Nat.reduceLT, Nat.reduceLeDiff, Nat.reduceMul, Value.category, false_implies, true_and, and_true, Bool.false_eq_true, Option.some.injEq, exists_eq_left', Option.toList_some, Option.toList_none, ev_km, ev_k2, ev_k3, ev_k4, ev_k5, ev_l0, ev_l1, sh_1, sh_2, sh_3, sh_4, sh_5, at_X11_pancakeAt_10, at_X11_pancakeAt_12, at_X11_pancakeAt_27, ca_X11_411, ca_X11_439, cd_X11_pancakeAt_0, cd_X11_pancakeAt_10, cd_X11_pancakeAt_12, cd_X11_pancakeAt_27, no_0, no_1, no_lt, no_le, no_eq, no_lt0, no_ge0, no_gt0, no_le0, no_eq0, no_0eq, no_eqm, no_meq, no_m0, no_mlt, no_mge, no_mgt, no_mm, no_i01, no_i10, no_in, no_or, no_ifm, no_mul, nI_add, no_sub, pk_div, iI_if, nI_clamp, oI_n, oI_s, not_true_eq_false, not_false_eq_true, forall_const, true_implies, false_and, and_false, or_false, false_or, Classical.not_not, true_or, or_true, no_b, no_eq1, eq_self, and_self, sk_301, sk_302, sl_302, sp_301, c1_n h])
        | (with_reducible refine And.intro (fun q => ?_) (fun q => ?_) <;> (try simp (disch := first | omega | assumption) only [no_0, no_1, no_lt, no_le, no_eq, no_lt0, no_ge0, no_gt0, no_le0, no_eq0, no_0eq, no_eqm, no_meq, no_m0, no_mlt, no_mge, no_mgt, no_mm, no_i01, no_i10, no_in, no_or, no_ifm, no_mul, nI_add, no_sub, pk_div, iI_if, nI_clamp, oI_n, oI_s, not_true_eq_false, not_false_eq_true, forall_const, true_implies, false_and, and_false, or_false, false_or, Classical.not_not, true_or, or_true, no_b, no_eq1, eq_self, and_self, sk_301, sk_302, sl_302, sp_301, c1_n h] at q))
        | with_reducible refine ev_ci (m_X11_mayPancake hok (by first | with_reducible assumption | exact th_R (by with_reducible assumption) | exact mw_R | exact ms_R) (by with_reducible assumption) ?_ ?_ _) ?_
        | with_reducible refine ev_ci (m_X11_rank hok (by first | with_reducible assumption | exact th_R (by with_reducible assumption) | exact mw_R | exact ms_R) (by with_reducible assumption) ?_) ?_
        | omega
        | with_reducible assumption
        | with_reducible rfl
        | with_reducible refine lp_nx ?_ ?_ ?_ ?_
        | with_reducible refine lp_st ?_ ?_ ?_
        | with_reducible refine ls_c ?_ ?_
        | with_reducible refine vi_c ?_
        | with_reducible refine re_c ?_
        | with_reducible refine vz_c ?_
        | with_reducible refine rz_c ?_
        | exact trivial
        | with_reducible refine And.intro ?_ ?_
        | simp (disch := first | omega | assumption) only [ev_run_c, ev_run_n, ev_fj, ev_stp, ev_lk, ev_fv, ev_as, ev_sz, ev_st1, ev_st2, ev_rm, ev_pk, ev_Jof, ev_go, lv_args, List.map_cons, List.map_nil, List.zip_cons_cons, List.zip_nil_left, List.zip_nil_right, List.nil_append, List.cons_append, ↓reduceIte, reduceCtorEq, Int.reduceToNat, Nat.reduceEqDiff, Nat.reduceAdd, Nat.reduceLT, Nat.reduceLeDiff, Nat.reduceMul, Value.category, false_implies, true_and, and_true, Bool.false_eq_true, Option.some.injEq, exists_eq_left', Option.toList_some, Option.toList_none, ev_km, ev_k2, ev_k3, ev_k4, ev_k5, ev_l0, ev_l1, sh_1, sh_2, sh_3, sh_4, sh_5, at_X11_pancakeAt_10, at_X11_pancakeAt_12, at_X11_pancakeAt_27, ca_X11_411, ca_X11_439, cd_X11_pancakeAt_0, cd_X11_pancakeAt_10, cd_X11_pancakeAt_12, cd_X11_pancakeAt_27, no_0, no_1, no_lt, no_le, no_eq, no_lt0, no_ge0, no_gt0, no_le0, no_eq0, no_0eq, no_eqm, no_meq, no_m0, no_mlt, no_mge, no_mgt, no_mm, no_i01, no_i10, no_in, no_or, no_ifm, no_mul, nI_add, no_sub, pk_div, iI_if, nI_clamp, oI_n, oI_s, not_true_eq_false, not_false_eq_true, forall_const, true_implies, false_and, and_false, or_false, false_or, Classical.not_not, true_or, or_true, no_b, no_eq1, eq_self, and_self, sk_301, sk_302, sl_302, sp_301, c1_n h]
        | exact rfl
        | (split <;> omega))
    | some r =>
      rw [v1_s h]
      obtain ⟨hr, rfl⟩ := rx_s (by omega) h
      have hc := c1_s h
      rw [hc]
      have hp := pat_lt hr
      refine ev_tri1 hok (okM_X11_pancakeAt 0) (Nat.le_of_ble_eq_true rfl) 12 [0, 1, 2] (N 1) 400 (fun k => [.ref 301, .int (nI r), .int (nI k)]) (fun _ => th μ 0) (fun k => fx (fun p => rnk N p (N 1)) r k = k) ?_ ?_
      · intro k hk hf
        rw [at_X11_pancakeAt_12]
        have hkn : k < N 1 := by
          rcases Nat.lt_or_ge k (N 1) with h1 | h1
          · exact h1
          · have e : k = N 1 := by omega
            rw [e] at hf
            unfold pat at hp
            omega
        have h4 := rnk_le N k (N 1)
        by_cases h5 : rnk N k (N 1) = r
        · have h6 : pat N r = k := fx_at hkn hf h5
          rw [h6]
          repeat' (first
            | (with_reducible refine ev_rid ?_; simp (disch := first | omega | assumption) only [ev_run_c, ev_run_n, ev_fj, ev_stp, ev_lk, ev_fv, ev_as, ev_sz, ev_st1, ev_st2, ev_rm, ev_pk, ev_Jof, ev_go, lv_args, List.map_cons, List.map_nil, List.zip_cons_cons, List.zip_nil_left, List.zip_nil_right, List.nil_append, List.cons_append, ↓reduceIte, reduceCtorEq, Int.reduceToNat, Nat.reduceEqDiff, Nat.reduceAdd, Nat.reduceLT, Nat.reduceLeDiff, Nat.reduceMul, Value.category, false_implies, true_and, and_true, Bool.false_eq_true, Option.some.injEq, exists_eq_left', Option.toList_some, Option.toList_none, ev_km, ev_k2, ev_k3, ev_k4, ev_k5, ev_l0, ev_l1, sh_1, sh_2, sh_3, sh_4, sh_5, at_X11_pancakeAt_10, at_X11_pancakeAt_12, at_X11_pancakeAt_27, ca_X11_411, ca_X11_439, cd_X11_pancakeAt_0, cd_X11_pancakeAt_10, cd_X11_pancakeAt_12, cd_X11_pancakeAt_27, no_0, no_1, no_lt, no_le, no_eq, no_lt0, no_ge0, no_gt0, no_le0, no_eq0, no_0eq, no_eqm, no_meq, no_m0, no_mlt, no_mge, no_mgt, no_mm, no_i01, no_i10, no_in, no_or, no_ifm, no_mul, nI_add, no_sub, pk_div, iI_if, nI_clamp, oI_n, oI_s, not_true_eq_false, not_false_eq_true, forall_const, true_implies, false_and, and_false, or_false, false_or, Classical.not_not, true_or, or_true, no_b, no_eq1, eq_self, and_self, sk_301, sk_302, sl_302, sp_301, h5])
            | (with_reducible refine ev_gid ?_; simp (disch := first | omega | assumption) only [ev_run_c, ev_run_n, ev_fj, ev_stp, ev_lk, ev_fv, ev_as, ev_sz, ev_st1, ev_st2, ev_rm, ev_pk, ev_Jof, ev_go, lv_args, List.map_cons, List.map_nil, List.zip_cons_cons, List.zip_nil_left, List.zip_nil_right, List.nil_append, List.cons_append, ↓reduceIte, reduceCtorEq, Int.reduceToNat, Nat.reduceEqDiff, Nat.reduceAdd, Nat.reduceLT, Nat.reduceLeDiff, Nat.reduceMul, Value.category, false_implies, true_and, and_true, Bool.false_eq_true, Option.some.injEq, exists_eq_left', Option.toList_some, Option.toList_none, ev_km, ev_k2, ev_k3, ev_k4, ev_k5, ev_l0, ev_l1, sh_1, sh_2, sh_3, sh_4, sh_5, at_X11_pancakeAt_10, at_X11_pancakeAt_12, at_X11_pancakeAt_27, ca_X11_411, ca_X11_439, cd_X11_pancakeAt_0, cd_X11_pancakeAt_10, cd_X11_pancakeAt_12, cd_X11_pancakeAt_27, no_0, no_1, no_lt, no_le, no_eq, no_lt0, no_ge0, no_gt0, no_le0, no_eq0, no_0eq, no_eqm, no_meq, no_m0, no_mlt, no_mge, no_mgt, no_mm, no_i01, no_i10, no_in, no_or, no_ifm, no_mul, nI_add, no_sub, pk_div, iI_if, nI_clamp, oI_n, oI_s, not_true_eq_false, not_false_eq_true, forall_const, true_implies, false_and, and_false, or_false, false_or, Classical.not_not, true_or, or_true, no_b, no_eq1, eq_self, and_self, sk_301, sk_302, sl_302, sp_301, h5])
            | (with_reducible refine And.intro (fun q => ?_) (fun q => ?_) <;> (try simp (disch := first | omega | assumption) only [no_0, no_1, no_lt, no_le, no_eq, no_lt0, no_ge0, no_gt0, no_le0, no_eq0, no_0eq, no_eqm, no_meq, no_m0, no_mlt, no_mge, no_mgt, no_mm, no_i01, no_i10, no_in, no_or, no_ifm, no_mul, nI_add, no_sub, pk_div, iI_if, nI_clamp, oI_n, oI_s, not_true_eq_false, not_false_eq_true, forall_const, true_implies, false_and, and_false, or_false, false_or, Classical.not_not, true_or, or_true, no_b, no_eq1, eq_self, and_self, sk_301, sk_302, sl_302, sp_301, h5] at q))
            | with_reducible refine ev_ci (m_X11_mayPancake hok (by first | with_reducible assumption | exact th_R (by with_reducible assumption) | exact mw_R | exact ms_R) (by with_reducible assumption) ?_ ?_ _) ?_
            | with_reducible refine ev_ci (m_X11_rank hok (by first | with_reducible assumption | exact th_R (by with_reducible assumption) | exact mw_R | exact ms_R) (by with_reducible assumption) ?_) ?_
            | omega
            | with_reducible assumption
            | with_reducible rfl
            | with_reducible refine lp_nx ?_ ?_ ?_ ?_
            | with_reducible refine lp_st ?_ ?_ ?_
            | with_reducible refine ls_c ?_ ?_
            | with_reducible refine vi_c ?_
            | with_reducible refine re_c ?_
            | with_reducible refine vz_c ?_
            | with_reducible refine rz_c ?_
            | exact trivial
            | with_reducible refine And.intro ?_ ?_
            | simp (disch := first | omega | assumption) only [ev_run_c, ev_run_n, ev_fj, ev_stp, ev_lk, ev_fv, ev_as, ev_sz, ev_st1, ev_st2, ev_rm, ev_pk, ev_Jof, ev_go, lv_args, List.map_cons, List.map_nil, List.zip_cons_cons, List.zip_nil_left, List.zip_nil_right, List.nil_append, List.cons_append, ↓reduceIte, reduceCtorEq, Int.reduceToNat, Nat.reduceEqDiff, Nat.reduceAdd, Nat.reduceLT, Nat.reduceLeDiff, Nat.reduceMul, Value.category, false_implies, true_and, and_true, Bool.false_eq_true, Option.some.injEq, exists_eq_left', Option.toList_some, Option.toList_none, ev_km, ev_k2, ev_k3, ev_k4, ev_k5, ev_l0, ev_l1, sh_1, sh_2, sh_3, sh_4, sh_5, at_X11_pancakeAt_10, at_X11_pancakeAt_12, at_X11_pancakeAt_27, ca_X11_411, ca_X11_439, cd_X11_pancakeAt_0, cd_X11_pancakeAt_10, cd_X11_pancakeAt_12, cd_X11_pancakeAt_27, no_0, no_1, no_lt, no_le, no_eq, no_lt0, no_ge0, no_gt0, no_le0, no_eq0, no_0eq, no_eqm, no_meq, no_m0, no_mlt, no_mge, no_mgt, no_mm, no_i01, no_i10, no_in, no_or, no_ifm, no_mul, nI_add, no_sub, pk_div, iI_if, nI_clamp, oI_n, oI_s, not_true_eq_false, not_false_eq_true, forall_const, true_implies, false_and, and_false, or_false, false_or, Classical.not_not, true_or, or_true, no_b, no_eq1, eq_self, and_self, sk_301, sk_302, sl_302, sp_301, h5]
            | exact rfl
            | (split <;> omega))
        · have h6 := fx_s hf h5
          repeat' (first
            | (with_reducible refine ev_rid ?_; simp (disch := first | omega | assumption) only [ev_run_c, ev_run_n, ev_fj, ev_stp, ev_lk, ev_fv, ev_as, ev_sz, ev_st1, ev_st2, ev_rm, ev_pk, ev_Jof, ev_go, lv_args, List.map_cons, List.map_nil, List.zip_cons_cons, List.zip_nil_left, List.zip_nil_right, List.nil_append, List.cons_append, ↓reduceIte, reduceCtorEq, Int.reduceToNat, Nat.reduceEqDiff, Nat.reduceAdd, Nat.reduceLT, Nat.reduceLeDiff, Nat.reduceMul, Value.category, false_implies, true_and, and_true, Bool.false_eq_true, Option.some.injEq, exists_eq_left', Option.toList_some, Option.toList_none, ev_km, ev_k2, ev_k3, ev_k4, ev_k5, ev_l0, ev_l1, sh_1, sh_2, sh_3, sh_4, sh_5, at_X11_pancakeAt_10, at_X11_pancakeAt_12, at_X11_pancakeAt_27, ca_X11_411, ca_X11_439, cd_X11_pancakeAt_0, cd_X11_pancakeAt_10, cd_X11_pancakeAt_12, cd_X11_pancakeAt_27, no_0, no_1, no_lt, no_le, no_eq, no_lt0, no_ge0, no_gt0, no_le0, no_eq0, no_0eq, no_eqm, no_meq, no_m0, no_mlt, no_mge, no_mgt, no_mm, no_i01, no_i10, no_in, no_or, no_ifm, no_mul, nI_add, no_sub, pk_div, iI_if, nI_clamp, oI_n, oI_s, not_true_eq_false, not_false_eq_true, forall_const, true_implies, false_and, and_false, or_false, false_or, Classical.not_not, true_or, or_true, no_b, no_eq1, eq_self, and_self, sk_301, sk_302, sl_302, sp_301])
            | (with_reducible refine ev_gid ?_; simp (disch := first | omega | assumption) only [ev_run_c, ev_run_n, ev_fj, ev_stp, ev_lk, ev_fv, ev_as, ev_sz, ev_st1, ev_st2, ev_rm, ev_pk, ev_Jof, ev_go, lv_args, List.map_cons, List.map_nil, List.zip_cons_cons, List.zip_nil_left, List.zip_nil_right, List.nil_append, List.cons_append, ↓reduceIte, reduceCtorEq, Int.reduceToNat, Nat.reduceEqDiff, Nat.reduceAdd, Nat.reduceLT, Nat.reduceLeDiff, Nat.reduceMul, Value.category, false_implies, true_and, and_true, Bool.false_eq_true, Option.some.injEq, exists_eq_left', Option.toList_some, Option.toList_none, ev_km, ev_k2, ev_k3, ev_k4, ev_k5, ev_l0, ev_l1, sh_1, sh_2, sh_3, sh_4, sh_5, at_X11_pancakeAt_10, at_X11_pancakeAt_12, at_X11_pancakeAt_27, ca_X11_411, ca_X11_439, cd_X11_pancakeAt_0, cd_X11_pancakeAt_10, cd_X11_pancakeAt_12, cd_X11_pancakeAt_27, no_0, no_1, no_lt, no_le, no_eq, no_lt0, no_ge0, no_gt0, no_le0, no_eq0, no_0eq, no_eqm, no_meq, no_m0, no_mlt, no_mge, no_mgt, no_mm, no_i01, no_i10, no_in, no_or, no_ifm, no_mul, nI_add, no_sub, pk_div, iI_if, nI_clamp, oI_n, oI_s, not_true_eq_false, not_false_eq_true, forall_const, true_implies, false_and, and_false, or_false, false_or, Classical.not_not, true_or, or_true, no_b, no_eq1, eq_self, and_self, sk_301, sk_302, sl_302, sp_301])
            | (with_reducible refine And.intro (fun q => ?_) (fun q => ?_) <;> (try simp (disch := first | omega | assumption) only [no_0, no_1, no_lt, no_le, no_eq, no_lt0, no_ge0, no_gt0, no_le0, no_eq0, no_0eq, no_eqm, no_meq, no_m0, no_mlt, no_mge, no_mgt, no_mm, no_i01, no_i10, no_in, no_or, no_ifm, no_mul, nI_add, no_sub, pk_div, iI_if, nI_clamp, oI_n, oI_s, not_true_eq_false, not_false_eq_true, forall_const, true_implies, false_and, and_false, or_false, false_or, Classical.not_not, true_or, or_true, no_b, no_eq1, eq_self, and_self, sk_301, sk_302, sl_302, sp_301] at q))
            | with_reducible refine ev_ci (m_X11_mayPancake hok (by first | with_reducible assumption | exact th_R (by with_reducible assumption) | exact mw_R | exact ms_R) (by with_reducible assumption) ?_ ?_ _) ?_
            | with_reducible refine ev_ci (m_X11_rank hok (by first | with_reducible assumption | exact th_R (by with_reducible assumption) | exact mw_R | exact ms_R) (by with_reducible assumption) ?_) ?_
            | omega
            | with_reducible assumption
            | with_reducible rfl
            | with_reducible refine lp_nx ?_ ?_ ?_ ?_
            | with_reducible refine lp_st ?_ ?_ ?_
            | with_reducible refine ls_c ?_ ?_
            | with_reducible refine vi_c ?_
            | with_reducible refine re_c ?_
            | with_reducible refine vz_c ?_
            | with_reducible refine rz_c ?_
            | exact trivial
            | with_reducible refine And.intro ?_ ?_
            | simp (disch := first | omega | assumption) only [ev_run_c, ev_run_n, ev_fj, ev_stp, ev_lk, ev_fv, ev_as, ev_sz, ev_st1, ev_st2, ev_rm, ev_pk, ev_Jof, ev_go, lv_args, List.map_cons, List.map_nil, List.zip_cons_cons, List.zip_nil_left, List.zip_nil_right, List.nil_append, List.cons_append, ↓reduceIte, reduceCtorEq, Int.reduceToNat, Nat.reduceEqDiff, Nat.reduceAdd, Nat.reduceLT, Nat.reduceLeDiff, Nat.reduceMul, Value.category, false_implies, true_and, and_true, Bool.false_eq_true, Option.some.injEq, exists_eq_left', Option.toList_some, Option.toList_none, ev_km, ev_k2, ev_k3, ev_k4, ev_k5, ev_l0, ev_l1, sh_1, sh_2, sh_3, sh_4, sh_5, at_X11_pancakeAt_10, at_X11_pancakeAt_12, at_X11_pancakeAt_27, ca_X11_411, ca_X11_439, cd_X11_pancakeAt_0, cd_X11_pancakeAt_10, cd_X11_pancakeAt_12, cd_X11_pancakeAt_27, no_0, no_1, no_lt, no_le, no_eq, no_lt0, no_ge0, no_gt0, no_le0, no_eq0, no_0eq, no_eqm, no_meq, no_m0, no_mlt, no_mge, no_mgt, no_mm, no_i01, no_i10, no_in, no_or, no_ifm, no_mul, nI_add, no_sub, pk_div, iI_if, nI_clamp, oI_n, oI_s, not_true_eq_false, not_false_eq_true, forall_const, true_implies, false_and, and_false, or_false, false_or, Classical.not_not, true_or, or_true, no_b, no_eq1, eq_self, and_self, sk_301, sk_302, sl_302, sp_301]
            | exact rfl
            | (split <;> omega))
      · rw [at_X11_pancakeAt_0]
        repeat' (first
          | (with_reducible refine ev_rid ?_; simp (disch := first | omega | assumption) only [ev_run_c, ev_run_n, ev_fj, ev_stp, ev_lk, ev_fv, ev_as, ev_sz, ev_st1, ev_st2, ev_rm, ev_pk, ev_Jof, ev_go, lv_args, List.map_cons, List.map_nil, List.zip_cons_cons, List.zip_nil_left, List.zip_nil_right, List.nil_append, List.cons_append, ↓reduceIte, reduceCtorEq, Int.reduceToNat, Nat.reduceEqDiff, Nat.reduceAdd, Nat.reduceLT, Nat.reduceLeDiff, Nat.reduceMul, Value.category, false_implies, true_and, and_true, Bool.false_eq_true, Option.some.injEq, exists_eq_left', Option.toList_some, Option.toList_none, ev_km, ev_k2, ev_k3, ev_k4, ev_k5, ev_l0, ev_l1, sh_1, sh_2, sh_3, sh_4, sh_5, at_X11_pancakeAt_10, at_X11_pancakeAt_12, at_X11_pancakeAt_27, ca_X11_411, ca_X11_439, cd_X11_pancakeAt_0, cd_X11_pancakeAt_10, cd_X11_pancakeAt_12, cd_X11_pancakeAt_27, no_0, no_1, no_lt, no_le, no_eq, no_lt0, no_ge0, no_gt0, no_le0, no_eq0, no_0eq, no_eqm, no_meq, no_m0, no_mlt, no_mge, no_mgt, no_mm, no_i01, no_i10, no_in, no_or, no_ifm, no_mul, nI_add, no_sub, pk_div, iI_if, nI_clamp, oI_n, oI_s, not_true_eq_false, not_false_eq_true, forall_const, true_implies, false_and, and_false, or_false, false_or, Classical.not_not, true_or, or_true, no_b, no_eq1, eq_self, and_self, sk_301, sk_302, sl_302, sp_301, hc])
          | (with_reducible refine ev_gid ?_; simp (disch := first | omega | assumption) only [ev_run_c, ev_run_n, ev_fj, ev_stp, ev_lk, ev_fv, ev_as, ev_sz, ev_st1, ev_st2, ev_rm, ev_pk, ev_Jof, ev_go, lv_args, List.map_cons, List.map_nil, List.zip_cons_cons, List.zip_nil_left, List.zip_nil_right, List.nil_append, List.cons_append, ↓reduceIte, reduceCtorEq, Int.reduceToNat, Nat.reduceEqDiff, Nat.reduceAdd, Nat.reduceLT, Nat.reduceLeDiff, Nat.reduceMul, Value.category, false_implies, true_and, and_true, Bool.false_eq_true, Option.some.injEq, exists_eq_left', Option.toList_some, Option.toList_none, ev_km, ev_k2, ev_k3, ev_k4, ev_k5, ev_l0, ev_l1, sh_1, sh_2, sh_3, sh_4, sh_5, at_X11_pancakeAt_10, at_X11_pancakeAt_12, at_X11_pancakeAt_27, ca_X11_411, ca_X11_439, cd_X11_pancakeAt_0, cd_X11_pancakeAt_10, cd_X11_pancakeAt_12, cd_X11_pancakeAt_27, no_0, no_1, no_lt, no_le, no_eq, no_lt0, no_ge0, no_gt0, no_le0, no_eq0, no_0eq, no_eqm, no_meq, no_m0, no_mlt, no_mge, no_mgt, no_mm, no_i01, no_i10, no_in, no_or, no_ifm, no_mul, nI_add, no_sub, pk_div, iI_if, nI_clamp, oI_n, oI_s, not_true_eq_false, not_false_eq_true, forall_const, true_implies, false_and, and_false, or_false, false_or, Classical.not_not, true_or, or_true, no_b, no_eq1, eq_self, and_self, sk_301, sk_302, sl_302, sp_301, hc])
          | (with_reducible refine And.intro (fun q => ?_) (fun q => ?_) <;> (try simp (disch := first | omega | assumption) only [no_0, no_1, no_lt, no_le, no_eq, no_lt0, no_ge0, no_gt0, no_le0, no_eq0, no_0eq, no_eqm, no_meq, no_m0, no_mlt, no_mge, no_mgt, no_mm, no_i01, no_i10, no_in, no_or, no_ifm, no_mul, nI_add, no_sub, pk_div, iI_if, nI_clamp, oI_n, oI_s, not_true_eq_false, not_false_eq_true, forall_const, true_implies, false_and, and_false, or_false, false_or, Classical.not_not, true_or, or_true, no_b, no_eq1, eq_self, and_self, sk_301, sk_302, sl_302, sp_301, hc] at q))
          | with_reducible refine ev_ci (m_X11_mayPancake hok (by first | with_reducible assumption | exact th_R (by with_reducible assumption) | exact mw_R | exact ms_R) (by with_reducible assumption) ?_ ?_ _) ?_
          | with_reducible refine ev_ci (m_X11_rank hok (by first | with_reducible assumption | exact th_R (by with_reducible assumption) | exact mw_R | exact ms_R) (by with_reducible assumption) ?_) ?_
          | omega
          | with_reducible assumption
          | with_reducible rfl
          | with_reducible refine lp_nx ?_ ?_ ?_ ?_
          | with_reducible refine lp_st ?_ ?_ ?_
          | with_reducible refine ls_c ?_ ?_
          | with_reducible refine vi_c ?_
          | with_reducible refine re_c ?_
          | with_reducible refine vz_c ?_
          | with_reducible refine rz_c ?_
          | exact trivial
          | with_reducible refine And.intro ?_ ?_
          | simp (disch := first | omega | assumption) only [ev_run_c, ev_run_n, ev_fj, ev_stp, ev_lk, ev_fv, ev_as, ev_sz, ev_st1, ev_st2, ev_rm, ev_pk, ev_Jof, ev_go, lv_args, List.map_cons, List.map_nil, List.zip_cons_cons, List.zip_nil_left, List.zip_nil_right, List.nil_append, List.cons_append, ↓reduceIte, reduceCtorEq, Int.reduceToNat, Nat.reduceEqDiff, Nat.reduceAdd, Nat.reduceLT, Nat.reduceLeDiff, Nat.reduceMul, Value.category, false_implies, true_and, and_true, Bool.false_eq_true, Option.some.injEq, exists_eq_left', Option.toList_some, Option.toList_none, ev_km, ev_k2, ev_k3, ev_k4, ev_k5, ev_l0, ev_l1, sh_1, sh_2, sh_3, sh_4, sh_5, at_X11_pancakeAt_10, at_X11_pancakeAt_12, at_X11_pancakeAt_27, ca_X11_411, ca_X11_439, cd_X11_pancakeAt_0, cd_X11_pancakeAt_10, cd_X11_pancakeAt_12, cd_X11_pancakeAt_27, no_0, no_1, no_lt, no_le, no_eq, no_lt0, no_ge0, no_gt0, no_le0, no_eq0, no_0eq, no_eqm, no_meq, no_m0, no_mlt, no_mge, no_mgt, no_mm, no_i01, no_i10, no_in, no_or, no_ifm, no_mul, nI_add, no_sub, pk_div, iI_if, nI_clamp, oI_n, oI_s, not_true_eq_false, not_false_eq_true, forall_const, true_implies, false_and, and_false, or_false, false_or, Classical.not_not, true_or, or_true, no_b, no_eq1, eq_self, and_self, sk_301, sk_302, sl_302, sp_301, hc]
          | exact rfl
          | (split <;> omega))
set_option maxHeartbeats 1000000 in
theorem m_X11_isAccepted (hok : ev_ok sh_S G) (hN : MR N μ) (hI : INV N) {e : Nat} (he : μ.1 301 6 = nI e) (he2 : e < 2) (x : Int32) : ev_T sh_S G mi_X11_isAccepted [.ref 301, .int x] μ (.inl (some (.int (v1 e (N 1) x (fun q => nI (if rnk N q (N 1) < N 3 ∧ 0 < scs N q (N 0) ∧ spd N q ≤ (N 2 : Int) then 1 else 0)))), th μ (c1 e (N 1) x))) := by
  have hh := iv_h hI
  have hN' : ∀ k, k < 1042 → (th μ 0).1 302 k = nI (N k) := th_R hN
  rcases (show e = 0 ∨ e = 1 by omega) with rfl | rfl
  · rw [v1_0]
    refine ev_tri hok (okM_X11_isAccepted 0) (Nat.le_of_ble_eq_true rfl) 400 ?_
    rw [at_X11_isAccepted_0]
    repeat' (first
      | (with_reducible refine ev_rid ?_; simp (disch := first | omega | assumption) only [ev_run_c, ev_run_n, ev_fj, ev_stp, ev_lk, ev_fv, ev_as, ev_sz, ev_st1, ev_st2, ev_rm, ev_pk, ev_Jof, ev_go, lv_args, List.map_cons, List.map_nil, List.zip_cons_cons, List.zip_nil_left, List.zip_nil_right, List.nil_append, List.cons_append, ↓reduceIte, reduceCtorEq, Int.reduceToNat, Nat.reduceEqDiff, Nat.reduceAdd, Nat.reduceLT, Nat.reduceLeDiff, Nat.reduceMul, Value.category, false_implies, true_and, and_true, Bool.false_eq_true, Option.some.injEq, exists_eq_left', Option.toList_some, Option.toList_none, ev_km, ev_k2, ev_k3, ev_k4, ev_k5, ev_l0, ev_l1, sh_1, sh_2, sh_3, sh_4, sh_5, at_X11_isAccepted_42, at_X11_isAccepted_43, ca_X11_189, ca_X11_411, ca_X11_436, ca_X11_439, cd_X11_isAccepted_0, cd_X11_isAccepted_42, cd_X11_isAccepted_43, fl_X11_9, no_0, no_1, no_lt, no_le, no_eq, no_lt0, no_ge0, no_gt0, no_le0, no_eq0, no_0eq, no_eqm, no_meq, no_m0, no_mlt, no_mge, no_mgt, no_mm, no_i01, no_i10, no_in, no_or, no_ifm, no_mul, nI_add, no_sub, pk_div, iI_if, nI_clamp, oI_n, oI_s, not_true_eq_false, not_false_eq_true, forall_const, true_implies, false_and, and_false, or_false, false_or, Classical.not_not, true_or, or_true, no_b, no_eq1, eq_self, and_self, sk_301, sk_302, sl_302, sp_301, c1_0])
      | (with_reducible refine ev_gid ?_; simp (disch := first | omega | assumption) only [ev_run_c, ev_run_n, ev_fj, ev_stp, ev_lk, ev_fv, ev_as, ev_sz, ev_st1, ev_st2, ev_rm, ev_pk, ev_Jof, ev_go, lv_args, List.map_cons, List.map_nil, List.zip_cons_cons, List.zip_nil_left, List.zip_nil_right, List.nil_append, List.cons_append, ↓reduceIte, reduceCtorEq, Int.reduceToNat, Nat.reduceEqDiff, Nat.reduceAdd, Nat.reduceLT, Nat.reduceLeDiff, Nat.reduceMul, Value.category, false_implies, true_and, and_true, Bool.false_eq_true, Option.some.injEq, exists_eq_left', Option.toList_some, Option.toList_none, ev_km, ev_k2, ev_k3, ev_k4, ev_k5, ev_l0, ev_l1, sh_1, sh_2, sh_3, sh_4, sh_5, at_X11_isAccepted_42, at_X11_isAccepted_43, ca_X11_189, ca_X11_411, ca_X11_436, ca_X11_439, cd_X11_isAccepted_0, cd_X11_isAccepted_42, cd_X11_isAccepted_43, fl_X11_9, no_0, no_1, no_lt, no_le, no_eq, no_lt0, no_ge0, no_gt0, no_le0, no_eq0, no_0eq, no_eqm, no_meq, no_m0, no_mlt, no_mge, no_mgt, no_mm, no_i01, no_i10, no_in, no_or, no_ifm, no_mul, nI_add, no_sub, pk_div, iI_if, nI_clamp, oI_n, oI_s, not_true_eq_false, not_false_eq_true, forall_const, true_implies, false_and, and_false, or_false, false_or, Classical.not_not, true_or, or_true, no_b, no_eq1, eq_self, and_self, sk_301, sk_302, sl_302, sp_301, c1_0])
      | (with_reducible refine And.intro (fun q => ?_) (fun q => ?_) <;> (try simp (disch := first | omega | assumption) only [no_0, no_1, no_lt, no_le, no_eq, no_lt0, no_ge0, no_gt0, no_le0, no_eq0, no_0eq, no_eqm, no_meq, no_m0, no_mlt, no_mge, no_mgt, no_mm, no_i01, no_i10, no_in, no_or, no_ifm, no_mul, nI_add, no_sub, pk_div, iI_if, nI_clamp, oI_n, oI_s, not_true_eq_false, not_false_eq_true, forall_const, true_implies, false_and, and_false, or_false, false_or, Classical.not_not, true_or, or_true, no_b, no_eq1, eq_self, and_self, sk_301, sk_302, sl_302, sp_301, c1_0] at q))
      | with_reducible refine ev_ci (m_X11_mayPancake hok (by first | with_reducible assumption | exact th_R (by with_reducible assumption) | exact mw_R | exact ms_R) (by with_reducible assumption) ?_ ?_ _) ?_
      | with_reducible refine ev_ci (m_X11_rank hok (by first | with_reducible assumption | exact th_R (by with_reducible assumption) | exact mw_R | exact ms_R) (by with_reducible assumption) ?_) ?_
      | with_reducible refine ev_ci (m_X11_scores hok (by first | with_reducible assumption | exact th_R (by with_reducible assumption) | exact mw_R | exact ms_R) (by with_reducible assumption) ?_) ?_
      | with_reducible refine ev_ci (m_X11_mustTalk hok (by first | with_reducible assumption | exact th_R (by with_reducible assumption) | exact mw_R | exact ms_R) (by with_reducible assumption) ?_) ?_
      | omega
      | with_reducible assumption
      | with_reducible rfl
      | with_reducible refine lp_nx ?_ ?_ ?_ ?_
      | with_reducible refine lp_st ?_ ?_ ?_
      | with_reducible refine ls_c ?_ ?_
      | with_reducible refine vi_c ?_
      | with_reducible refine re_c ?_
      | with_reducible refine vz_c ?_
      | with_reducible refine rz_c ?_
      | exact trivial
      | with_reducible refine And.intro ?_ ?_
      | simp (disch := first | omega | assumption) only [ev_run_c, ev_run_n, ev_fj, ev_stp, ev_lk, ev_fv, ev_as, ev_sz, ev_st1, ev_st2, ev_rm, ev_pk, ev_Jof, ev_go, lv_args, List.map_cons, List.map_nil, List.zip_cons_cons, List.zip_nil_left, List.zip_nil_right, List.nil_append, List.cons_append, ↓reduceIte, reduceCtorEq, Int.reduceToNat, Nat.reduceEqDiff, Nat.reduceAdd, Nat.reduceLT, Nat.reduceLeDiff, Nat.reduceMul, Value.category, false_implies, true_and, and_true, Bool.false_eq_true, Option.some.injEq, exists_eq_left', Option.toList_some, Option.toList_none, ev_km, ev_k2, ev_k3, ev_k4, ev_k5, ev_l0, ev_l1, sh_1, sh_2, sh_3, sh_4, sh_5, at_X11_isAccepted_42, at_X11_isAccepted_43, ca_X11_189, ca_X11_411, ca_X11_436, ca_X11_439, cd_X11_isAccepted_0, cd_X11_isAccepted_42, cd_X11_isAccepted_43, fl_X11_9, no_0, no_1, no_lt, no_le, no_eq, no_lt0, no_ge0, no_gt0, no_le0, no_eq0, no_0eq, no_eqm, no_meq, no_m0, no_mlt, no_mge, no_mgt, no_mm, no_i01, no_i10, no_in, no_or, no_ifm, no_mul, nI_add, no_sub, pk_div, iI_if, nI_clamp, oI_n, oI_s, not_true_eq_false, not_false_eq_true, forall_const, true_implies, false_and, and_false, or_false, false_or, Classical.not_not, true_or, or_true, no_b, no_eq1, eq_self, and_self, sk_301, sk_302, sl_302, sp_301, c1_0]
      | exact rfl
      | (split <;> omega))
  · cases h : rx (N 1) x with
    | none =>
      rw [v1_n h]
      refine ev_tri hok (okM_X11_isAccepted 0) (Nat.le_of_ble_eq_true rfl) 400 ?_
      rw [at_X11_isAccepted_0]
      repeat' (first
        | (with_reducible refine ev_rid ?_; simp (disch := first | omega | assumption) only [ev_run_c, ev_run_n, ev_fj, ev_stp, ev_lk, ev_fv, ev_as, ev_sz, ev_st1, ev_st2, ev_rm, ev_pk, ev_Jof, ev_go, lv_args, List.map_cons, List.map_nil, List.zip_cons_cons, List.zip_nil_left, List.zip_nil_right, List.nil_append, List.cons_append, ↓reduceIte, reduceCtorEq, Int.reduceToNat, Nat.reduceEqDiff, Nat.reduceAdd, Nat.reduceLT, Nat.reduceLeDiff, Nat.reduceMul, Value.category, false_implies, true_and, and_true, Bool.false_eq_true, Option.some.injEq, exists_eq_left', Option.toList_some, Option.toList_none, ev_km, ev_k2, ev_k3, ev_k4, ev_k5, ev_l0, ev_l1, sh_1, sh_2, sh_3, sh_4, sh_5, at_X11_isAccepted_42, at_X11_isAccepted_43, ca_X11_189, ca_X11_411, ca_X11_436, ca_X11_439, cd_X11_isAccepted_0, cd_X11_isAccepted_42, cd_X11_isAccepted_43, fl_X11_9, no_0, no_1, no_lt, no_le, no_eq, no_lt0, no_ge0, no_gt0, no_le0, no_eq0, no_0eq, no_eqm, no_meq, no_m0, no_mlt, no_mge, no_mgt, no_mm, no_i01, no_i10, no_in, no_or, no_ifm, no_mul, nI_add, no_sub, pk_div, iI_if, nI_clamp, oI_n, oI_s, not_true_eq_false, not_false_eq_true, forall_const, true_implies, false_and, and_false, or_false, false_or, Classical.not_not, true_or, or_true, no_b, no_eq1, eq_self, and_self, sk_301, sk_302, sl_302, sp_301, c1_n h])
        | (with_reducible refine ev_gid ?_; simp (disch := first | omega | assumption) only [ev_run_c, ev_run_n, ev_fj, ev_stp, ev_lk, ev_fv, ev_as, ev_sz, ev_st1, ev_st2, ev_rm, ev_pk, ev_Jof, ev_go, lv_args, List.map_cons, List.map_nil, List.zip_cons_cons, List.zip_nil_left, List.zip_nil_right, List.nil_append, List.cons_append, ↓reduceIte, reduceCtorEq, Int.reduceToNat, Nat.reduceEqDiff, Nat.reduceAdd, Nat.reduceLT, Nat.reduceLeDiff, Nat.reduceMul, Value.category, false_implies, true_and, and_true, Bool.false_eq_true, Option.some.injEq, exists_eq_left', Option.toList_some, Option.toList_none, ev_km, ev_k2, ev_k3, ev_k4, ev_k5, ev_l0, ev_l1, sh_1, sh_2, sh_3, sh_4, sh_5, at_X11_isAccepted_42, at_X11_isAccepted_43, ca_X11_189, ca_X11_411, ca_X11_436, ca_X11_439, cd_X11_isAccepted_0, cd_X11_isAccepted_42, cd_X11_isAccepted_43, fl_X11_9, no_0, no_1, no_lt, no_le, no_eq, no_lt0, no_ge0, no_gt0, no_le0, no_eq0, no_0eq, no_eqm, no_meq, no_m0, no_mlt, no_mge, no_mgt, no_mm, no_i01, no_i10, no_in, no_or, no_ifm, no_mul, nI_add, no_sub, pk_div, iI_if, nI_clamp, oI_n, oI_s, not_true_eq_false, not_false_eq_true, forall_const, true_implies, false_and, and_false, or_false, false_or, Classical.not_not, true_or, or_true, no_b, no_eq1, eq_self, and_self, sk_301, sk_302, sl_302, sp_301, c1_n h])
        | (with_reducible refine And.intro (fun q => ?_) (fun q => ?_) <;> (try simp (disch := first | omega | assumption) only [no_0, no_1, no_lt, no_le, no_eq, no_lt0, no_ge0, no_gt0, no_le0, no_eq0, no_0eq, no_eqm, no_meq, no_m0, no_mlt, no_mge, no_mgt, no_mm, no_i01, no_i10, no_in, no_or, no_ifm, no_mul, nI_add, no_sub, pk_div, iI_if, nI_clamp, oI_n, oI_s, not_true_eq_false, not_false_eq_true, forall_const, true_implies, false_and, and_false, or_false, false_or, Classical.not_not, true_or, or_true, no_b, no_eq1, eq_self, and_self, sk_301, sk_302, sl_302, sp_301, c1_n h] at q))
        | with_reducible refine ev_ci (m_X11_mayPancake hok (by first | with_reducible assumption | exact th_R (by with_reducible assumption) | exact mw_R | exact ms_R) (by with_reducible assumption) ?_ ?_ _) ?_
        | with_reducible refine ev_ci (m_X11_rank hok (by first | with_reducible assumption | exact th_R (by with_reducible assumption) | exact mw_R | exact ms_R) (by with_reducible assumption) ?_) ?_
        | with_reducible refine ev_ci (m_X11_scores hok (by first | with_reducible assumption | exact th_R (by with_reducible assumption) | exact mw_R | exact ms_R) (by with_reducible assumption) ?_) ?_
        | with_reducible refine ev_ci (m_X11_mustTalk hok (by first | with_reducible assumption | exact th_R (by with_reducible assumption) | exact mw_R | exact ms_R) (by with_reducible assumption) ?_) ?_
        | omega
        | with_reducible assumption
        | with_reducible rfl
        | with_reducible refine lp_nx ?_ ?_ ?_ ?_
        | with_reducible refine lp_st ?_ ?_ ?_
        | with_reducible refine ls_c ?_ ?_
        | with_reducible refine vi_c ?_
        | with_reducible refine re_c ?_
        | with_reducible refine vz_c ?_
        | with_reducible refine rz_c ?_
        | exact trivial
        | with_reducible refine And.intro ?_ ?_
        | simp (disch := first | omega | assumption) only [ev_run_c, ev_run_n, ev_fj, ev_stp, ev_lk, ev_fv, ev_as, ev_sz, ev_st1, ev_st2, ev_rm, ev_pk, ev_Jof, ev_go, lv_args, List.map_cons, List.map_nil, List.zip_cons_cons, List.zip_nil_left, List.zip_nil_right, List.nil_append, List.cons_append, ↓reduceIte, reduceCtorEq, Int.reduceToNat, Nat.reduceEqDiff, Nat.reduceAdd, Nat.reduceLT, Nat.reduceLeDiff, Nat.reduceMul, Value.category, false_implies, true_and, and_true, Bool.false_eq_true, Option.some.injEq, exists_eq_left', Option.toList_some, Option.toList_none, ev_km, ev_k2, ev_k3, ev_k4, ev_k5, ev_l0, ev_l1, sh_1, sh_2, sh_3, sh_4, sh_5, at_X11_isAccepted_42, at_X11_isAccepted_43, ca_X11_189, ca_X11_411, ca_X11_436, ca_X11_439, cd_X11_isAccepted_0, cd_X11_isAccepted_42, cd_X11_isAccepted_43, fl_X11_9, no_0, no_1, no_lt, no_le, no_eq, no_lt0, no_ge0, no_gt0, no_le0, no_eq0, no_0eq, no_eqm, no_meq, no_m0, no_mlt, no_mge, no_mgt, no_mm, no_i01, no_i10, no_in, no_or, no_ifm, no_mul, nI_add, no_sub, pk_div, iI_if, nI_clamp, oI_n, oI_s, not_true_eq_false, not_false_eq_true, forall_const, true_implies, false_and, and_false, or_false, false_or, Classical.not_not, true_or, or_true, no_b, no_eq1, eq_self, and_self, sk_301, sk_302, sl_302, sp_301, c1_n h]
        | exact rfl
        | (split <;> omega))
    | some q =>
      rw [v1_s h]
      obtain ⟨hq, rfl⟩ := rx_s (by omega) h
      have h4 := rnk_le N q (N 1)
      have h5 := scs_le N q (N 0)
      by_cases a : rnk N q (N 1) < N 3 ∧ 0 < scs N q (N 0) ∧ spd N q ≤ (N 2 : Int)
      · have a' : ¬ (N 2 : Int) < spd N q := by omega
        rw [if_pos a]
        refine ev_tri hok (okM_X11_isAccepted 0) (Nat.le_of_ble_eq_true rfl) 400 ?_
        rw [at_X11_isAccepted_0]
        repeat' (first
          | (with_reducible refine ev_rid ?_; simp (disch := first | omega | assumption) only [ev_run_c, ev_run_n, ev_fj, ev_stp, ev_lk, ev_fv, ev_as, ev_sz, ev_st1, ev_st2, ev_rm, ev_pk, ev_Jof, ev_go, lv_args, List.map_cons, List.map_nil, List.zip_cons_cons, List.zip_nil_left, List.zip_nil_right, List.nil_append, List.cons_append, ↓reduceIte, reduceCtorEq, Int.reduceToNat, Nat.reduceEqDiff, Nat.reduceAdd, Nat.reduceLT, Nat.reduceLeDiff, Nat.reduceMul, Value.category, false_implies, true_and, and_true, Bool.false_eq_true, Option.some.injEq, exists_eq_left', Option.toList_some, Option.toList_none, ev_km, ev_k2, ev_k3, ev_k4, ev_k5, ev_l0, ev_l1, sh_1, sh_2, sh_3, sh_4, sh_5, at_X11_isAccepted_42, at_X11_isAccepted_43, ca_X11_189, ca_X11_411, ca_X11_436, ca_X11_439, cd_X11_isAccepted_0, cd_X11_isAccepted_42, cd_X11_isAccepted_43, fl_X11_9, no_0, no_1, no_lt, no_le, no_eq, no_lt0, no_ge0, no_gt0, no_le0, no_eq0, no_0eq, no_eqm, no_meq, no_m0, no_mlt, no_mge, no_mgt, no_mm, no_i01, no_i10, no_in, no_or, no_ifm, no_mul, nI_add, no_sub, pk_div, iI_if, nI_clamp, oI_n, oI_s, not_true_eq_false, not_false_eq_true, forall_const, true_implies, false_and, and_false, or_false, false_or, Classical.not_not, true_or, or_true, no_b, no_eq1, eq_self, and_self, sk_301, sk_302, sl_302, sp_301, c1_s h, hN', if_neg a'])
          | (with_reducible refine ev_gid ?_; simp (disch := first | omega | assumption) only [ev_run_c, ev_run_n, ev_fj, ev_stp, ev_lk, ev_fv, ev_as, ev_sz, ev_st1, ev_st2, ev_rm, ev_pk, ev_Jof, ev_go, lv_args, List.map_cons, List.map_nil, List.zip_cons_cons, List.zip_nil_left, List.zip_nil_right, List.nil_append, List.cons_append, ↓reduceIte, reduceCtorEq, Int.reduceToNat, Nat.reduceEqDiff, Nat.reduceAdd, Nat.reduceLT, Nat.reduceLeDiff, Nat.reduceMul, Value.category, false_implies, true_and, and_true, Bool.false_eq_true, Option.some.injEq, exists_eq_left', Option.toList_some, Option.toList_none, ev_km, ev_k2, ev_k3, ev_k4, ev_k5, ev_l0, ev_l1, sh_1, sh_2, sh_3, sh_4, sh_5, at_X11_isAccepted_42, at_X11_isAccepted_43, ca_X11_189, ca_X11_411, ca_X11_436, ca_X11_439, cd_X11_isAccepted_0, cd_X11_isAccepted_42, cd_X11_isAccepted_43, fl_X11_9, no_0, no_1, no_lt, no_le, no_eq, no_lt0, no_ge0, no_gt0, no_le0, no_eq0, no_0eq, no_eqm, no_meq, no_m0, no_mlt, no_mge, no_mgt, no_mm, no_i01, no_i10, no_in, no_or, no_ifm, no_mul, nI_add, no_sub, pk_div, iI_if, nI_clamp, oI_n, oI_s, not_true_eq_false, not_false_eq_true, forall_const, true_implies, false_and, and_false, or_false, false_or, Classical.not_not, true_or, or_true, no_b, no_eq1, eq_self, and_self, sk_301, sk_302, sl_302, sp_301, c1_s h, hN', if_neg a'])
          | (with_reducible refine And.intro (fun q => ?_) (fun q => ?_) <;> (try simp (disch := first | omega | assumption) only [no_0, no_1, no_lt, no_le, no_eq, no_lt0, no_ge0, no_gt0, no_le0, no_eq0, no_0eq, no_eqm, no_meq, no_m0, no_mlt, no_mge, no_mgt, no_mm, no_i01, no_i10, no_in, no_or, no_ifm, no_mul, nI_add, no_sub, pk_div, iI_if, nI_clamp, oI_n, oI_s, not_true_eq_false, not_false_eq_true, forall_const, true_implies, false_and, and_false, or_false, false_or, Classical.not_not, true_or, or_true, no_b, no_eq1, eq_self, and_self, sk_301, sk_302, sl_302, sp_301, c1_s h, hN', if_neg a'] at q))
          | with_reducible refine ev_ci (m_X11_mayPancake hok (by first | with_reducible assumption | exact th_R (by with_reducible assumption) | exact mw_R | exact ms_R) (by with_reducible assumption) ?_ ?_ _) ?_
          | with_reducible refine ev_ci (m_X11_rank hok (by first | with_reducible assumption | exact th_R (by with_reducible assumption) | exact mw_R | exact ms_R) (by with_reducible assumption) ?_) ?_
          | with_reducible refine ev_ci (m_X11_scores hok (by first | with_reducible assumption | exact th_R (by with_reducible assumption) | exact mw_R | exact ms_R) (by with_reducible assumption) ?_) ?_
          | with_reducible refine ev_ci (m_X11_mustTalk hok (by first | with_reducible assumption | exact th_R (by with_reducible assumption) | exact mw_R | exact ms_R) (by with_reducible assumption) ?_) ?_
          | omega
          | with_reducible assumption
          | with_reducible rfl
          | with_reducible refine lp_nx ?_ ?_ ?_ ?_
          | with_reducible refine lp_st ?_ ?_ ?_
          | with_reducible refine ls_c ?_ ?_
          | with_reducible refine vi_c ?_
          | with_reducible refine re_c ?_
          | with_reducible refine vz_c ?_
          | with_reducible refine rz_c ?_
          | exact trivial
          | with_reducible refine And.intro ?_ ?_
          | simp (disch := first | omega | assumption) only [ev_run_c, ev_run_n, ev_fj, ev_stp, ev_lk, ev_fv, ev_as, ev_sz, ev_st1, ev_st2, ev_rm, ev_pk, ev_Jof, ev_go, lv_args, List.map_cons, List.map_nil, List.zip_cons_cons, List.zip_nil_left, List.zip_nil_right, List.nil_append, List.cons_append, ↓reduceIte, reduceCtorEq, Int.reduceToNat, Nat.reduceEqDiff, Nat.reduceAdd, Nat.reduceLT, Nat.reduceLeDiff, Nat.reduceMul, Value.category, false_implies, true_and, and_true, Bool.false_eq_true, Option.some.injEq, exists_eq_left', Option.toList_some, Option.toList_none, ev_km, ev_k2, ev_k3, ev_k4, ev_k5, ev_l0, ev_l1, sh_1, sh_2, sh_3, sh_4, sh_5, at_X11_isAccepted_42, at_X11_isAccepted_43, ca_X11_189, ca_X11_411, ca_X11_436, ca_X11_439, cd_X11_isAccepted_0, cd_X11_isAccepted_42, cd_X11_isAccepted_43, fl_X11_9, no_0, no_1, no_lt, no_le, no_eq, no_lt0, no_ge0, no_gt0, no_le0, no_eq0, no_0eq, no_eqm, no_meq, no_m0, no_mlt, no_mge, no_mgt, no_mm, no_i01, no_i10, no_in, no_or, no_ifm, no_mul, nI_add, no_sub, pk_div, iI_if, nI_clamp, oI_n, oI_s, not_true_eq_false, not_false_eq_true, forall_const, true_implies, false_and, and_false, or_false, false_or, Classical.not_not, true_or, or_true, no_b, no_eq1, eq_self, and_self, sk_301, sk_302, sl_302, sp_301, c1_s h, hN', if_neg a']
          | exact rfl
          | (split <;> omega))
      · rw [if_neg a]
        refine ev_tri hok (okM_X11_isAccepted 0) (Nat.le_of_ble_eq_true rfl) 400 ?_
        rw [at_X11_isAccepted_0]
        repeat' (first
          | (with_reducible refine ev_rid ?_; simp (disch := first | omega | assumption) only [ev_run_c, ev_run_n, ev_fj, ev_stp, ev_lk, ev_fv, ev_as, ev_sz, ev_st1, ev_st2, ev_rm, ev_pk, ev_Jof, ev_go, lv_args, List.map_cons, List.map_nil, List.zip_cons_cons, List.zip_nil_left, List.zip_nil_right, List.nil_append, List.cons_append, ↓reduceIte, reduceCtorEq, Int.reduceToNat, Nat.reduceEqDiff, Nat.reduceAdd, Nat.reduceLT, Nat.reduceLeDiff, Nat.reduceMul, Value.category, false_implies, true_and, and_true, Bool.false_eq_true, Option.some.injEq, exists_eq_left', Option.toList_some, Option.toList_none, ev_km, ev_k2, ev_k3, ev_k4, ev_k5, ev_l0, ev_l1, sh_1, sh_2, sh_3, sh_4, sh_5, at_X11_isAccepted_42, at_X11_isAccepted_43, ca_X11_189, ca_X11_411, ca_X11_436, ca_X11_439, cd_X11_isAccepted_0, cd_X11_isAccepted_42, cd_X11_isAccepted_43, fl_X11_9, no_0, no_1, no_lt, no_le, no_eq, no_lt0, no_ge0, no_gt0, no_le0, no_eq0, no_0eq, no_eqm, no_meq, no_m0, no_mlt, no_mge, no_mgt, no_mm, no_i01, no_i10, no_in, no_or, no_ifm, no_mul, nI_add, no_sub, pk_div, iI_if, nI_clamp, oI_n, oI_s, not_true_eq_false, not_false_eq_true, forall_const, true_implies, false_and, and_false, or_false, false_or, Classical.not_not, true_or, or_true, no_b, no_eq1, eq_self, and_self, sk_301, sk_302, sl_302, sp_301, c1_s h, hN'])
          | (with_reducible refine ev_gid ?_; simp (disch := first | omega | assumption) only [ev_run_c, ev_run_n, ev_fj, ev_stp, ev_lk, ev_fv, ev_as, ev_sz, ev_st1, ev_st2, ev_rm, ev_pk, ev_Jof, ev_go, lv_args, List.map_cons, List.map_nil, List.zip_cons_cons, List.zip_nil_left, List.zip_nil_right, List.nil_append, List.cons_append, ↓reduceIte, reduceCtorEq, Int.reduceToNat, Nat.reduceEqDiff, Nat.reduceAdd, Nat.reduceLT, Nat.reduceLeDiff, Nat.reduceMul, Value.category, false_implies, true_and, and_true, Bool.false_eq_true, Option.some.injEq, exists_eq_left', Option.toList_some, Option.toList_none, ev_km, ev_k2, ev_k3, ev_k4, ev_k5, ev_l0, ev_l1, sh_1, sh_2, sh_3, sh_4, sh_5, at_X11_isAccepted_42, at_X11_isAccepted_43, ca_X11_189, ca_X11_411, ca_X11_436, ca_X11_439, cd_X11_isAccepted_0, cd_X11_isAccepted_42, cd_X11_isAccepted_43, fl_X11_9, no_0, no_1, no_lt, no_le, no_eq, no_lt0, no_ge0, no_gt0, no_le0, no_eq0, no_0eq, no_eqm, no_meq, no_m0, no_mlt, no_mge, no_mgt, no_mm, no_i01, no_i10, no_in, no_or, no_ifm, no_mul, nI_add, no_sub, pk_div, iI_if, nI_clamp, oI_n, oI_s, not_true_eq_false, not_false_eq_true, forall_const, true_implies, false_and, and_false, or_false, false_or, Classical.not_not, true_or, or_true, no_b, no_eq1, eq_self, and_self, sk_301, sk_302, sl_302, sp_301, c1_s h, hN'])
          | (with_reducible refine And.intro (fun q => ?_) (fun q => ?_) <;> (try simp (disch := first | omega | assumption) only [no_0, no_1, no_lt, no_le, no_eq, no_lt0, no_ge0, no_gt0, no_le0, no_eq0, no_0eq, no_eqm, no_meq, no_m0, no_mlt, no_mge, no_mgt, no_mm, no_i01, no_i10, no_in, no_or, no_ifm, no_mul, nI_add, no_sub, pk_div, iI_if, nI_clamp, oI_n, oI_s, not_true_eq_false, not_false_eq_true, forall_const, true_implies, false_and, and_false, or_false, false_or, Classical.not_not, true_or, or_true, no_b, no_eq1, eq_self, and_self, sk_301, sk_302, sl_302, sp_301, c1_s h, hN'] at q))
          | with_reducible refine ev_ci (m_X11_mayPancake hok (by first | with_reducible assumption | exact th_R (by with_reducible assumption) | exact mw_R | exact ms_R) (by with_reducible assumption) ?_ ?_ _) ?_
          | with_reducible refine ev_ci (m_X11_rank hok (by first | with_reducible assumption | exact th_R (by with_reducible assumption) | exact mw_R | exact ms_R) (by with_reducible assumption) ?_) ?_
          | with_reducible refine ev_ci (m_X11_scores hok (by first | with_reducible assumption | exact th_R (by with_reducible assumption) | exact mw_R | exact ms_R) (by with_reducible assumption) ?_) ?_
          | with_reducible refine ev_ci (m_X11_mustTalk hok (by first | with_reducible assumption | exact th_R (by with_reducible assumption) | exact mw_R | exact ms_R) (by with_reducible assumption) ?_) ?_
          | omega
          | with_reducible assumption
          | with_reducible rfl
          | (exfalso; omega)
          | with_reducible refine lp_nx ?_ ?_ ?_ ?_
          | with_reducible refine lp_st ?_ ?_ ?_
          | with_reducible refine ls_c ?_ ?_
          | with_reducible refine vi_c ?_
          | with_reducible refine re_c ?_
          | with_reducible refine vz_c ?_
          | with_reducible refine rz_c ?_
          | exact trivial
          | with_reducible refine And.intro ?_ ?_
          | simp (disch := first | omega | assumption) only [ev_run_c, ev_run_n, ev_fj, ev_stp, ev_lk, ev_fv, ev_as, ev_sz, ev_st1, ev_st2, ev_rm, ev_pk, ev_Jof, ev_go, lv_args, List.map_cons, List.map_nil, List.zip_cons_cons, List.zip_nil_left, List.zip_nil_right, List.nil_append, List.cons_append, ↓reduceIte, reduceCtorEq, Int.reduceToNat, Nat.reduceEqDiff, Nat.reduceAdd, Nat.reduceLT, Nat.reduceLeDiff, Nat.reduceMul, Value.category, false_implies, true_and, and_true, Bool.false_eq_true, Option.some.injEq, exists_eq_left', Option.toList_some, Option.toList_none, ev_km, ev_k2, ev_k3, ev_k4, ev_k5, ev_l0, ev_l1, sh_1, sh_2, sh_3, sh_4, sh_5, at_X11_isAccepted_42, at_X11_isAccepted_43, ca_X11_189, ca_X11_411, ca_X11_436, ca_X11_439, cd_X11_isAccepted_0, cd_X11_isAccepted_42, cd_X11_isAccepted_43, fl_X11_9, no_0, no_1, no_lt, no_le, no_eq, no_lt0, no_ge0, no_gt0, no_le0, no_eq0, no_0eq, no_eqm, no_meq, no_m0, no_mlt, no_mge, no_mgt, no_mm, no_i01, no_i10, no_in, no_or, no_ifm, no_mul, nI_add, no_sub, pk_div, iI_if, nI_clamp, oI_n, oI_s, not_true_eq_false, not_false_eq_true, forall_const, true_implies, false_and, and_false, or_false, false_or, Classical.not_not, true_or, or_true, no_b, no_eq1, eq_self, and_self, sk_301, sk_302, sl_302, sp_301, c1_s h, hN']
          | exact rfl
          | (split <;> omega))
theorem m_X11_lacking (hok : ev_ok sh_S G) (hN : MR N μ) (hI : INV N) {e : Nat} (he : μ.1 301 6 = nI e) (he2 : e < 2) : ev_T sh_S G mi_X11_lacking [.ref 301] μ (.inl (some (.int (v0 e (nI (lk N (N 1))))), th μ (thc e 1 1))) := by
  rcases (show e = 0 ∨ e = 1 by omega) with rfl | rfl
  · rw [v0_0]
    refine ev_tri hok (okM_X11_lacking 0) (Nat.le_of_ble_eq_true rfl) 400 ?_
    rw [at_X11_lacking_0]
    repeat' (first
      | (with_reducible refine ev_rid ?_; simp (disch := first | omega | assumption) only [ev_run_c, ev_run_n, ev_fj, ev_stp, ev_lk, ev_fv, ev_as, ev_sz, ev_st1, ev_st2, ev_rm, ev_pk, ev_Jof, ev_go, lv_args, List.map_cons, List.map_nil, List.zip_cons_cons, List.zip_nil_left, List.zip_nil_right, List.nil_append, List.cons_append, ↓reduceIte, reduceCtorEq, Int.reduceToNat, Nat.reduceEqDiff, Nat.reduceAdd, Nat.reduceLT, Nat.reduceLeDiff, Nat.reduceMul, Value.category, false_implies, true_and, and_true, Bool.false_eq_true, Option.some.injEq, exists_eq_left', Option.toList_some, Option.toList_none, ev_km, ev_k2, ev_k3, ev_k4, ev_k5, ev_l0, ev_l1, sh_1, sh_2, sh_3, sh_4, sh_5, at_X11_lacking_14, at_X11_lacking_15, ca_X11_407, ca_X11_433, cd_X11_lacking_0, cd_X11_lacking_14, cd_X11_lacking_15, no_0, no_1, no_lt, no_le, no_eq, no_lt0, no_ge0, no_gt0, no_le0, no_eq0, no_0eq, no_eqm, no_meq, no_m0, no_mlt, no_mge, no_mgt, no_mm, no_i01, no_i10, no_in, no_or, no_ifm, no_mul, nI_add, no_sub, pk_div, iI_if, nI_clamp, oI_n, oI_s, not_true_eq_false, not_false_eq_true, forall_const, true_implies, false_and, and_false, or_false, false_or, Classical.not_not, true_or, or_true, no_b, no_eq1, eq_self, and_self, sk_301, sk_302, sl_302, sp_301, thc_1])
      | (with_reducible refine ev_gid ?_; simp (disch := first | omega | assumption) only [ev_run_c, ev_run_n, ev_fj, ev_stp, ev_lk, ev_fv, ev_as, ev_sz, ev_st1, ev_st2, ev_rm, ev_pk, ev_Jof, ev_go, lv_args, List.map_cons, List.map_nil, List.zip_cons_cons, List.zip_nil_left, List.zip_nil_right, List.nil_append, List.cons_append, ↓reduceIte, reduceCtorEq, Int.reduceToNat, Nat.reduceEqDiff, Nat.reduceAdd, Nat.reduceLT, Nat.reduceLeDiff, Nat.reduceMul, Value.category, false_implies, true_and, and_true, Bool.false_eq_true, Option.some.injEq, exists_eq_left', Option.toList_some, Option.toList_none, ev_km, ev_k2, ev_k3, ev_k4, ev_k5, ev_l0, ev_l1, sh_1, sh_2, sh_3, sh_4, sh_5, at_X11_lacking_14, at_X11_lacking_15, ca_X11_407, ca_X11_433, cd_X11_lacking_0, cd_X11_lacking_14, cd_X11_lacking_15, no_0, no_1, no_lt, no_le, no_eq, no_lt0, no_ge0, no_gt0, no_le0, no_eq0, no_0eq, no_eqm, no_meq, no_m0, no_mlt, no_mge, no_mgt, no_mm, no_i01, no_i10, no_in, no_or, no_ifm, no_mul, nI_add, no_sub, pk_div, iI_if, nI_clamp, oI_n, oI_s, not_true_eq_false, not_false_eq_true, forall_const, true_implies, false_and, and_false, or_false, false_or, Classical.not_not, true_or, or_true, no_b, no_eq1, eq_self, and_self, sk_301, sk_302, sl_302, sp_301, thc_1])
      | (with_reducible refine And.intro (fun q => ?_) (fun q => ?_) <;> (try simp (disch := first | omega | assumption) only [no_0, no_1, no_lt, no_le, no_eq, no_lt0, no_ge0, no_gt0, no_le0, no_eq0, no_0eq, no_eqm, no_meq, no_m0, no_mlt, no_mge, no_mgt, no_mm, no_i01, no_i10, no_in, no_or, no_ifm, no_mul, nI_add, no_sub, pk_div, iI_if, nI_clamp, oI_n, oI_s, not_true_eq_false, not_false_eq_true, forall_const, true_implies, false_and, and_false, or_false, false_or, Classical.not_not, true_or, or_true, no_b, no_eq1, eq_self, and_self, sk_301, sk_302, sl_302, sp_301, thc_1] at q))
      | with_reducible refine ev_ci (m_X11_mayLook hok (by with_reducible assumption) ?_) ?_
      | with_reducible refine ev_ci (m_X11_lacks hok (by first | with_reducible assumption | exact th_R (by with_reducible assumption) | exact mw_R | exact ms_R) (by with_reducible assumption)) ?_
      | omega
      | with_reducible assumption
      | with_reducible rfl
      | with_reducible refine lp_nx ?_ ?_ ?_ ?_
      | with_reducible refine lp_st ?_ ?_ ?_
      | with_reducible refine ls_c ?_ ?_
      | with_reducible refine vi_c ?_
      | with_reducible refine re_c ?_
      | with_reducible refine vz_c ?_
      | with_reducible refine rz_c ?_
      | exact trivial
      | with_reducible refine And.intro ?_ ?_
      | simp (disch := first | omega | assumption) only [ev_run_c, ev_run_n, ev_fj, ev_stp, ev_lk, ev_fv, ev_as, ev_sz, ev_st1, ev_st2, ev_rm, ev_pk, ev_Jof, ev_go, lv_args, List.map_cons, List.map_nil, List.zip_cons_cons, List.zip_nil_left, List.zip_nil_right, List.nil_append, List.cons_append, ↓reduceIte, reduceCtorEq, Int.reduceToNat, Nat.reduceEqDiff, Nat.reduceAdd, Nat.reduceLT, Nat.reduceLeDiff, Nat.reduceMul, Value.category, false_implies, true_and, and_true, Bool.false_eq_true, Option.some.injEq, exists_eq_left', Option.toList_some, Option.toList_none, ev_km, ev_k2, ev_k3, ev_k4, ev_k5, ev_l0, ev_l1, sh_1, sh_2, sh_3, sh_4, sh_5, at_X11_lacking_14, at_X11_lacking_15, ca_X11_407, ca_X11_433, cd_X11_lacking_0, cd_X11_lacking_14, cd_X11_lacking_15, no_0, no_1, no_lt, no_le, no_eq, no_lt0, no_ge0, no_gt0, no_le0, no_eq0, no_0eq, no_eqm, no_meq, no_m0, no_mlt, no_mge, no_mgt, no_mm, no_i01, no_i10, no_in, no_or, no_ifm, no_mul, nI_add, no_sub, pk_div, iI_if, nI_clamp, oI_n, oI_s, not_true_eq_false, not_false_eq_true, forall_const, true_implies, false_and, and_false, or_false, false_or, Classical.not_not, true_or, or_true, no_b, no_eq1, eq_self, and_self, sk_301, sk_302, sl_302, sp_301, thc_1]
      | exact rfl
      | (split <;> omega))
  · rw [v0_1]
    refine ev_tri hok (okM_X11_lacking 0) (Nat.le_of_ble_eq_true rfl) 400 ?_
    rw [at_X11_lacking_0]
    repeat' (first
      | (with_reducible refine ev_rid ?_; simp (disch := first | omega | assumption) only [ev_run_c, ev_run_n, ev_fj, ev_stp, ev_lk, ev_fv, ev_as, ev_sz, ev_st1, ev_st2, ev_rm, ev_pk, ev_Jof, ev_go, lv_args, List.map_cons, List.map_nil, List.zip_cons_cons, List.zip_nil_left, List.zip_nil_right, List.nil_append, List.cons_append, ↓reduceIte, reduceCtorEq, Int.reduceToNat, Nat.reduceEqDiff, Nat.reduceAdd, Nat.reduceLT, Nat.reduceLeDiff, Nat.reduceMul, Value.category, false_implies, true_and, and_true, Bool.false_eq_true, Option.some.injEq, exists_eq_left', Option.toList_some, Option.toList_none, ev_km, ev_k2, ev_k3, ev_k4, ev_k5, ev_l0, ev_l1, sh_1, sh_2, sh_3, sh_4, sh_5, at_X11_lacking_14, at_X11_lacking_15, ca_X11_407, ca_X11_433, cd_X11_lacking_0, cd_X11_lacking_14, cd_X11_lacking_15, no_0, no_1, no_lt, no_le, no_eq, no_lt0, no_ge0, no_gt0, no_le0, no_eq0, no_0eq, no_eqm, no_meq, no_m0, no_mlt, no_mge, no_mgt, no_mm, no_i01, no_i10, no_in, no_or, no_ifm, no_mul, nI_add, no_sub, pk_div, iI_if, nI_clamp, oI_n, oI_s, not_true_eq_false, not_false_eq_true, forall_const, true_implies, false_and, and_false, or_false, false_or, Classical.not_not, true_or, or_true, no_b, no_eq1, eq_self, and_self, sk_301, sk_302, sl_302, sp_301, thc_0])
      | (with_reducible refine ev_gid ?_; simp (disch := first | omega | assumption) only [ev_run_c, ev_run_n, ev_fj, ev_stp, ev_lk, ev_fv, ev_as, ev_sz, ev_st1, ev_st2, ev_rm, ev_pk, ev_Jof, ev_go, lv_args, List.map_cons, List.map_nil, List.zip_cons_cons, List.zip_nil_left, List.zip_nil_right, List.nil_append, List.cons_append, ↓reduceIte, reduceCtorEq, Int.reduceToNat, Nat.reduceEqDiff, Nat.reduceAdd, Nat.reduceLT, Nat.reduceLeDiff, Nat.reduceMul, Value.category, false_implies, true_and, and_true, Bool.false_eq_true, Option.some.injEq, exists_eq_left', Option.toList_some, Option.toList_none, ev_km, ev_k2, ev_k3, ev_k4, ev_k5, ev_l0, ev_l1, sh_1, sh_2, sh_3, sh_4, sh_5, at_X11_lacking_14, at_X11_lacking_15, ca_X11_407, ca_X11_433, cd_X11_lacking_0, cd_X11_lacking_14, cd_X11_lacking_15, no_0, no_1, no_lt, no_le, no_eq, no_lt0, no_ge0, no_gt0, no_le0, no_eq0, no_0eq, no_eqm, no_meq, no_m0, no_mlt, no_mge, no_mgt, no_mm, no_i01, no_i10, no_in, no_or, no_ifm, no_mul, nI_add, no_sub, pk_div, iI_if, nI_clamp, oI_n, oI_s, not_true_eq_false, not_false_eq_true, forall_const, true_implies, false_and, and_false, or_false, false_or, Classical.not_not, true_or, or_true, no_b, no_eq1, eq_self, and_self, sk_301, sk_302, sl_302, sp_301, thc_0])
      | (with_reducible refine And.intro (fun q => ?_) (fun q => ?_) <;> (try simp (disch := first | omega | assumption) only [no_0, no_1, no_lt, no_le, no_eq, no_lt0, no_ge0, no_gt0, no_le0, no_eq0, no_0eq, no_eqm, no_meq, no_m0, no_mlt, no_mge, no_mgt, no_mm, no_i01, no_i10, no_in, no_or, no_ifm, no_mul, nI_add, no_sub, pk_div, iI_if, nI_clamp, oI_n, oI_s, not_true_eq_false, not_false_eq_true, forall_const, true_implies, false_and, and_false, or_false, false_or, Classical.not_not, true_or, or_true, no_b, no_eq1, eq_self, and_self, sk_301, sk_302, sl_302, sp_301, thc_0] at q))
      | with_reducible refine ev_ci (m_X11_mayLook hok (by with_reducible assumption) ?_) ?_
      | with_reducible refine ev_ci (m_X11_lacks hok (by first | with_reducible assumption | exact th_R (by with_reducible assumption) | exact mw_R | exact ms_R) (by with_reducible assumption)) ?_
      | omega
      | with_reducible assumption
      | with_reducible rfl
      | with_reducible refine lp_nx ?_ ?_ ?_ ?_
      | with_reducible refine lp_st ?_ ?_ ?_
      | with_reducible refine ls_c ?_ ?_
      | with_reducible refine vi_c ?_
      | with_reducible refine re_c ?_
      | with_reducible refine vz_c ?_
      | with_reducible refine rz_c ?_
      | exact trivial
      | with_reducible refine And.intro ?_ ?_
      | simp (disch := first | omega | assumption) only [ev_run_c, ev_run_n, ev_fj, ev_stp, ev_lk, ev_fv, ev_as, ev_sz, ev_st1, ev_st2, ev_rm, ev_pk, ev_Jof, ev_go, lv_args, List.map_cons, List.map_nil, List.zip_cons_cons, List.zip_nil_left, List.zip_nil_right, List.nil_append, List.cons_append, ↓reduceIte, reduceCtorEq, Int.reduceToNat, Nat.reduceEqDiff, Nat.reduceAdd, Nat.reduceLT, Nat.reduceLeDiff, Nat.reduceMul, Value.category, false_implies, true_and, and_true, Bool.false_eq_true, Option.some.injEq, exists_eq_left', Option.toList_some, Option.toList_none, ev_km, ev_k2, ev_k3, ev_k4, ev_k5, ev_l0, ev_l1, sh_1, sh_2, sh_3, sh_4, sh_5, at_X11_lacking_14, at_X11_lacking_15, ca_X11_407, ca_X11_433, cd_X11_lacking_0, cd_X11_lacking_14, cd_X11_lacking_15, no_0, no_1, no_lt, no_le, no_eq, no_lt0, no_ge0, no_gt0, no_le0, no_eq0, no_0eq, no_eqm, no_meq, no_m0, no_mlt, no_mge, no_mgt, no_mm, no_i01, no_i10, no_in, no_or, no_ifm, no_mul, nI_add, no_sub, pk_div, iI_if, nI_clamp, oI_n, oI_s, not_true_eq_false, not_false_eq_true, forall_const, true_implies, false_and, and_false, or_false, false_or, Classical.not_not, true_or, or_true, no_b, no_eq1, eq_self, and_self, sk_301, sk_302, sl_302, sp_301, thc_0]
      | exact rfl
      | (split <;> omega))
def trb (N : Nat → Nat) (i q : Nat) : Nat := (if sP N q i < N (952 + 9 * q + 5) ∧ cf N i q ≠ 0 then 1 else 0) + (if ¬ sP N q i < N (952 + 9 * q + 5) ∧ N (8 + 59 * i + (23 + q)) ≠ 0 then 1 else 0)
theorem trb_yy {i q : Nat} (h : sP N q i < N (952 + 9 * q + 5)) (h2 : ¬ cf N i q = 0) : trb N i q = 1 := by unfold trb; rw [if_pos ⟨h, h2⟩, if_neg (fun z => z.1 h)]
theorem trb_yn {i q : Nat} (h : sP N q i < N (952 + 9 * q + 5)) (h2 : cf N i q = 0) : trb N i q = 0 := by unfold trb; rw [if_neg (fun z => z.2 h2), if_neg (fun z => z.1 h)]
theorem trb_ny {i q : Nat} (h : ¬ sP N q i < N (952 + 9 * q + 5)) (h2 : ¬ N (8 + 59 * i + (23 + q)) = 0) : trb N i q = 1 := by unfold trb; rw [if_neg (fun z => h z.1), if_pos ⟨h, h2⟩]
theorem trb_nn {i q : Nat} (h : ¬ sP N q i < N (952 + 9 * q + 5)) (h2 : N (8 + 59 * i + (23 + q)) = 0) : trb N i q = 0 := by unfold trb; rw [if_neg (fun z => h z.1), if_neg (fun z => z.2 h2)]
theorem m_X11_troubles (hok : ev_ok sh_S G) (hN : MR N μ) (hI : INV N) {i q : Nat} (hi : i < 16) (hq : q < 10) : ev_T sh_S G mi_X11_troubles [.ref 301, .int (nI i), .int (nI q)] μ (.inl (some (.int (nI (trb N i q))), μ)) := by
  have hh := iv_h hI
  have hst := iv_st31 hI hq
  have hc := iv_q hI q hq
  have h1 := iv_pq hI i q hi hq
  have h2 := cf_le N i q
  have hsp : sP N q i ≤ N (952 + 9 * q + 5) := fx_le _ _ _
  by_cases a : sP N q i < N (952 + 9 * q + 5)
  · by_cases b : cf N i q = 0
    · rw [trb_yn a b]
      refine ev_tri hok (okM_X11_troubles 0) (Nat.le_of_ble_eq_true rfl) 400 ?_
      rw [at_X11_troubles_0]
      repeat' (first
        | (with_reducible refine ev_rid ?_; simp (disch := first | omega | assumption) only [ev_run_c, ev_run_n, ev_fj, ev_stp, ev_lk, ev_fv, ev_as, ev_sz, ev_st1, ev_st2, ev_rm, ev_pk, ev_Jof, ev_go, lv_args, List.map_cons, List.map_nil, List.zip_cons_cons, List.zip_nil_left, List.zip_nil_right, List.nil_append, List.cons_append, ↓reduceIte, reduceCtorEq, Int.reduceToNat, Nat.reduceEqDiff, Nat.reduceAdd, Nat.reduceLT, Nat.reduceLeDiff, Nat.reduceMul, Value.category, false_implies, true_and, and_true, Bool.false_eq_true, Option.some.injEq, exists_eq_left', Option.toList_some, Option.toList_none, ev_km, ev_k2, ev_k3, ev_k4, ev_k5, ev_l0, ev_l1, sh_1, sh_2, sh_3, sh_4, sh_5, at_X11_troubles_14, at_X11_troubles_15, at_X11_troubles_33, at_X11_troubles_34, at_X11_troubles_54, at_X11_troubles_55, ca_X11_180, ca_X11_201, ca_X11_325, ca_X11_329, cd_X11_troubles_0, cd_X11_troubles_14, cd_X11_troubles_15, cd_X11_troubles_33, cd_X11_troubles_34, cd_X11_troubles_54, cd_X11_troubles_55, no_0, no_1, no_lt, no_le, no_eq, no_lt0, no_ge0, no_gt0, no_le0, no_eq0, no_0eq, no_eqm, no_meq, no_m0, no_mlt, no_mge, no_mgt, no_mm, no_i01, no_i10, no_in, no_or, no_ifm, no_mul, nI_add, no_sub, pk_div, iI_if, nI_clamp, oI_n, oI_s, not_true_eq_false, not_false_eq_true, forall_const, true_implies, false_and, and_false, or_false, false_or, Classical.not_not, true_or, or_true, no_b, no_eq1, eq_self, and_self, sk_301, sk_302, sl_302, sp_301, a, b])
        | (with_reducible refine ev_gid ?_; simp (disch := first | omega | assumption) only [ev_run_c, ev_run_n, ev_fj, ev_stp, ev_lk, ev_fv, ev_as, ev_sz, ev_st1, ev_st2, ev_rm, ev_pk, ev_Jof, ev_go, lv_args, List.map_cons, List.map_nil, List.zip_cons_cons, List.zip_nil_left, List.zip_nil_right, List.nil_append, List.cons_append, ↓reduceIte, reduceCtorEq, Int.reduceToNat, Nat.reduceEqDiff, Nat.reduceAdd, Nat.reduceLT, Nat.reduceLeDiff, Nat.reduceMul, Value.category, false_implies, true_and, and_true, Bool.false_eq_true, Option.some.injEq, exists_eq_left', Option.toList_some, Option.toList_none, ev_km, ev_k2, ev_k3, ev_k4, ev_k5, ev_l0, ev_l1, sh_1, sh_2, sh_3, sh_4, sh_5, at_X11_troubles_14, at_X11_troubles_15, at_X11_troubles_33, at_X11_troubles_34, at_X11_troubles_54, at_X11_troubles_55, ca_X11_180, ca_X11_201, ca_X11_325, ca_X11_329, cd_X11_troubles_0, cd_X11_troubles_14, cd_X11_troubles_15, cd_X11_troubles_33, cd_X11_troubles_34, cd_X11_troubles_54, cd_X11_troubles_55, no_0, no_1, no_lt, no_le, no_eq, no_lt0, no_ge0, no_gt0, no_le0, no_eq0, no_0eq, no_eqm, no_meq, no_m0, no_mlt, no_mge, no_mgt, no_mm, no_i01, no_i10, no_in, no_or, no_ifm, no_mul, nI_add, no_sub, pk_div, iI_if, nI_clamp, oI_n, oI_s, not_true_eq_false, not_false_eq_true, forall_const, true_implies, false_and, and_false, or_false, false_or, Classical.not_not, true_or, or_true, no_b, no_eq1, eq_self, and_self, sk_301, sk_302, sl_302, sp_301, a, b])
        | (with_reducible refine And.intro (fun q => ?_) (fun q => ?_) <;> (try simp (disch := first | omega | assumption) only [no_0, no_1, no_lt, no_le, no_eq, no_lt0, no_ge0, no_gt0, no_le0, no_eq0, no_0eq, no_eqm, no_meq, no_m0, no_mlt, no_mge, no_mgt, no_mm, no_i01, no_i10, no_in, no_or, no_ifm, no_mul, nI_add, no_sub, pk_div, iI_if, nI_clamp, oI_n, oI_s, not_true_eq_false, not_false_eq_true, forall_const, true_implies, false_and, and_false, or_false, false_or, Classical.not_not, true_or, or_true, no_b, no_eq1, eq_self, and_self, sk_301, sk_302, sl_302, sp_301, a, b] at q))
        | with_reducible refine ev_ci (m_X11_seatOf hok (by first | with_reducible assumption | exact th_R (by with_reducible assumption) | exact mw_R | exact ms_R) ?_ ?_ ?_ ?_) ?_
        | with_reducible refine ev_ci (m_X11_conflictOf hok (by first | with_reducible assumption | exact th_R (by with_reducible assumption) | exact mw_R | exact ms_R) (by with_reducible assumption) ?_ ?_) ?_
        | with_reducible refine ev_ci (m_X11_one hok _ ?_) ?_
        | with_reducible refine ev_ci (m_X11_isScored hok (by first | with_reducible assumption | exact th_R (by with_reducible assumption) | exact mw_R | exact ms_R) (by with_reducible assumption) ?_ ?_) ?_
        | omega
        | with_reducible assumption
        | with_reducible rfl
        | exact hst
        | with_reducible refine lp_nx ?_ ?_ ?_ ?_
        | with_reducible refine lp_st ?_ ?_ ?_
        | with_reducible refine ls_c ?_ ?_
        | with_reducible refine vi_c ?_
        | with_reducible refine re_c ?_
        | with_reducible refine vz_c ?_
        | with_reducible refine rz_c ?_
        | exact trivial
        | with_reducible refine And.intro ?_ ?_
        | simp (disch := first | omega | assumption) only [ev_run_c, ev_run_n, ev_fj, ev_stp, ev_lk, ev_fv, ev_as, ev_sz, ev_st1, ev_st2, ev_rm, ev_pk, ev_Jof, ev_go, lv_args, List.map_cons, List.map_nil, List.zip_cons_cons, List.zip_nil_left, List.zip_nil_right, List.nil_append, List.cons_append, ↓reduceIte, reduceCtorEq, Int.reduceToNat, Nat.reduceEqDiff, Nat.reduceAdd, Nat.reduceLT, Nat.reduceLeDiff, Nat.reduceMul, Value.category, false_implies, true_and, and_true, Bool.false_eq_true, Option.some.injEq, exists_eq_left', Option.toList_some, Option.toList_none, ev_km, ev_k2, ev_k3, ev_k4, ev_k5, ev_l0, ev_l1, sh_1, sh_2, sh_3, sh_4, sh_5, at_X11_troubles_14, at_X11_troubles_15, at_X11_troubles_33, at_X11_troubles_34, at_X11_troubles_54, at_X11_troubles_55, ca_X11_180, ca_X11_201, ca_X11_325, ca_X11_329, cd_X11_troubles_0, cd_X11_troubles_14, cd_X11_troubles_15, cd_X11_troubles_33, cd_X11_troubles_34, cd_X11_troubles_54, cd_X11_troubles_55, no_0, no_1, no_lt, no_le, no_eq, no_lt0, no_ge0, no_gt0, no_le0, no_eq0, no_0eq, no_eqm, no_meq, no_m0, no_mlt, no_mge, no_mgt, no_mm, no_i01, no_i10, no_in, no_or, no_ifm, no_mul, nI_add, no_sub, pk_div, iI_if, nI_clamp, oI_n, oI_s, not_true_eq_false, not_false_eq_true, forall_const, true_implies, false_and, and_false, or_false, false_or, Classical.not_not, true_or, or_true, no_b, no_eq1, eq_self, and_self, sk_301, sk_302, sl_302, sp_301, a, b]
        | exact rfl
        | (split <;> omega))
    · rw [trb_yy a b]
      refine ev_tri hok (okM_X11_troubles 0) (Nat.le_of_ble_eq_true rfl) 400 ?_
      rw [at_X11_troubles_0]
      repeat' (first
        | (with_reducible refine ev_rid ?_; simp (disch := first | omega | assumption) only [ev_run_c, ev_run_n, ev_fj, ev_stp, ev_lk, ev_fv, ev_as, ev_sz, ev_st1, ev_st2, ev_rm, ev_pk, ev_Jof, ev_go, lv_args, List.map_cons, List.map_nil, List.zip_cons_cons, List.zip_nil_left, List.zip_nil_right, List.nil_append, List.cons_append, ↓reduceIte, reduceCtorEq, Int.reduceToNat, Nat.reduceEqDiff, Nat.reduceAdd, Nat.reduceLT, Nat.reduceLeDiff, Nat.reduceMul, Value.category, false_implies, true_and, and_true, Bool.false_eq_true, Option.some.injEq, exists_eq_left', Option.toList_some, Option.toList_none, ev_km, ev_k2, ev_k3, ev_k4, ev_k5, ev_l0, ev_l1, sh_1, sh_2, sh_3, sh_4, sh_5, at_X11_troubles_14, at_X11_troubles_15, at_X11_troubles_33, at_X11_troubles_34, at_X11_troubles_54, at_X11_troubles_55, ca_X11_180, ca_X11_201, ca_X11_325, ca_X11_329, cd_X11_troubles_0, cd_X11_troubles_14, cd_X11_troubles_15, cd_X11_troubles_33, cd_X11_troubles_34, cd_X11_troubles_54, cd_X11_troubles_55, no_0, no_1, no_lt, no_le, no_eq, no_lt0, no_ge0, no_gt0, no_le0, no_eq0, no_0eq, no_eqm, no_meq, no_m0, no_mlt, no_mge, no_mgt, no_mm, no_i01, no_i10, no_in, no_or, no_ifm, no_mul, nI_add, no_sub, pk_div, iI_if, nI_clamp, oI_n, oI_s, not_true_eq_false, not_false_eq_true, forall_const, true_implies, false_and, and_false, or_false, false_or, Classical.not_not, true_or, or_true, no_b, no_eq1, eq_self, and_self, sk_301, sk_302, sl_302, sp_301, a])
        | (with_reducible refine ev_gid ?_; simp (disch := first | omega | assumption) only [ev_run_c, ev_run_n, ev_fj, ev_stp, ev_lk, ev_fv, ev_as, ev_sz, ev_st1, ev_st2, ev_rm, ev_pk, ev_Jof, ev_go, lv_args, List.map_cons, List.map_nil, List.zip_cons_cons, List.zip_nil_left, List.zip_nil_right, List.nil_append, List.cons_append, ↓reduceIte, reduceCtorEq, Int.reduceToNat, Nat.reduceEqDiff, Nat.reduceAdd, Nat.reduceLT, Nat.reduceLeDiff, Nat.reduceMul, Value.category, false_implies, true_and, and_true, Bool.false_eq_true, Option.some.injEq, exists_eq_left', Option.toList_some, Option.toList_none, ev_km, ev_k2, ev_k3, ev_k4, ev_k5, ev_l0, ev_l1, sh_1, sh_2, sh_3, sh_4, sh_5, at_X11_troubles_14, at_X11_troubles_15, at_X11_troubles_33, at_X11_troubles_34, at_X11_troubles_54, at_X11_troubles_55, ca_X11_180, ca_X11_201, ca_X11_325, ca_X11_329, cd_X11_troubles_0, cd_X11_troubles_14, cd_X11_troubles_15, cd_X11_troubles_33, cd_X11_troubles_34, cd_X11_troubles_54, cd_X11_troubles_55, no_0, no_1, no_lt, no_le, no_eq, no_lt0, no_ge0, no_gt0, no_le0, no_eq0, no_0eq, no_eqm, no_meq, no_m0, no_mlt, no_mge, no_mgt, no_mm, no_i01, no_i10, no_in, no_or, no_ifm, no_mul, nI_add, no_sub, pk_div, iI_if, nI_clamp, oI_n, oI_s, not_true_eq_false, not_false_eq_true, forall_const, true_implies, false_and, and_false, or_false, false_or, Classical.not_not, true_or, or_true, no_b, no_eq1, eq_self, and_self, sk_301, sk_302, sl_302, sp_301, a])
        | (with_reducible refine And.intro (fun q => ?_) (fun q => ?_) <;> (try simp (disch := first | omega | assumption) only [no_0, no_1, no_lt, no_le, no_eq, no_lt0, no_ge0, no_gt0, no_le0, no_eq0, no_0eq, no_eqm, no_meq, no_m0, no_mlt, no_mge, no_mgt, no_mm, no_i01, no_i10, no_in, no_or, no_ifm, no_mul, nI_add, no_sub, pk_div, iI_if, nI_clamp, oI_n, oI_s, not_true_eq_false, not_false_eq_true, forall_const, true_implies, false_and, and_false, or_false, false_or, Classical.not_not, true_or, or_true, no_b, no_eq1, eq_self, and_self, sk_301, sk_302, sl_302, sp_301, a] at q))
        | with_reducible refine ev_ci (m_X11_seatOf hok (by first | with_reducible assumption | exact th_R (by with_reducible assumption) | exact mw_R | exact ms_R) ?_ ?_ ?_ ?_) ?_
        | with_reducible refine ev_ci (m_X11_conflictOf hok (by first | with_reducible assumption | exact th_R (by with_reducible assumption) | exact mw_R | exact ms_R) (by with_reducible assumption) ?_ ?_) ?_
        | with_reducible refine ev_ci (m_X11_one hok _ ?_) ?_
        | with_reducible refine ev_ci (m_X11_isScored hok (by first | with_reducible assumption | exact th_R (by with_reducible assumption) | exact mw_R | exact ms_R) (by with_reducible assumption) ?_ ?_) ?_
        | omega
        | with_reducible assumption
        | with_reducible rfl
        | exact hst
        | with_reducible refine lp_nx ?_ ?_ ?_ ?_
        | with_reducible refine lp_st ?_ ?_ ?_
        | with_reducible refine ls_c ?_ ?_
        | with_reducible refine vi_c ?_
        | with_reducible refine re_c ?_
        | with_reducible refine vz_c ?_
        | with_reducible refine rz_c ?_
        | exact trivial
        | with_reducible refine And.intro ?_ ?_
        | simp (disch := first | omega | assumption) only [ev_run_c, ev_run_n, ev_fj, ev_stp, ev_lk, ev_fv, ev_as, ev_sz, ev_st1, ev_st2, ev_rm, ev_pk, ev_Jof, ev_go, lv_args, List.map_cons, List.map_nil, List.zip_cons_cons, List.zip_nil_left, List.zip_nil_right, List.nil_append, List.cons_append, ↓reduceIte, reduceCtorEq, Int.reduceToNat, Nat.reduceEqDiff, Nat.reduceAdd, Nat.reduceLT, Nat.reduceLeDiff, Nat.reduceMul, Value.category, false_implies, true_and, and_true, Bool.false_eq_true, Option.some.injEq, exists_eq_left', Option.toList_some, Option.toList_none, ev_km, ev_k2, ev_k3, ev_k4, ev_k5, ev_l0, ev_l1, sh_1, sh_2, sh_3, sh_4, sh_5, at_X11_troubles_14, at_X11_troubles_15, at_X11_troubles_33, at_X11_troubles_34, at_X11_troubles_54, at_X11_troubles_55, ca_X11_180, ca_X11_201, ca_X11_325, ca_X11_329, cd_X11_troubles_0, cd_X11_troubles_14, cd_X11_troubles_15, cd_X11_troubles_33, cd_X11_troubles_34, cd_X11_troubles_54, cd_X11_troubles_55, no_0, no_1, no_lt, no_le, no_eq, no_lt0, no_ge0, no_gt0, no_le0, no_eq0, no_0eq, no_eqm, no_meq, no_m0, no_mlt, no_mge, no_mgt, no_mm, no_i01, no_i10, no_in, no_or, no_ifm, no_mul, nI_add, no_sub, pk_div, iI_if, nI_clamp, oI_n, oI_s, not_true_eq_false, not_false_eq_true, forall_const, true_implies, false_and, and_false, or_false, false_or, Classical.not_not, true_or, or_true, no_b, no_eq1, eq_self, and_self, sk_301, sk_302, sl_302, sp_301, a]
        | exact rfl
        | (split <;> omega))
  · by_cases b : N (8 + 59 * i + (23 + q)) = 0
    · rw [trb_nn a b]
      refine ev_tri hok (okM_X11_troubles 0) (Nat.le_of_ble_eq_true rfl) 400 ?_
      rw [at_X11_troubles_0]
      repeat' (first
        | (with_reducible refine ev_rid ?_; simp (disch := first | omega | assumption) only [ev_run_c, ev_run_n, ev_fj, ev_stp, ev_lk, ev_fv, ev_as, ev_sz, ev_st1, ev_st2, ev_rm, ev_pk, ev_Jof, ev_go, lv_args, List.map_cons, List.map_nil, List.zip_cons_cons, List.zip_nil_left, List.zip_nil_right, List.nil_append, List.cons_append, ↓reduceIte, reduceCtorEq, Int.reduceToNat, Nat.reduceEqDiff, Nat.reduceAdd, Nat.reduceLT, Nat.reduceLeDiff, Nat.reduceMul, Value.category, false_implies, true_and, and_true, Bool.false_eq_true, Option.some.injEq, exists_eq_left', Option.toList_some, Option.toList_none, ev_km, ev_k2, ev_k3, ev_k4, ev_k5, ev_l0, ev_l1, sh_1, sh_2, sh_3, sh_4, sh_5, at_X11_troubles_14, at_X11_troubles_15, at_X11_troubles_33, at_X11_troubles_34, at_X11_troubles_54, at_X11_troubles_55, ca_X11_180, ca_X11_201, ca_X11_325, ca_X11_329, cd_X11_troubles_0, cd_X11_troubles_14, cd_X11_troubles_15, cd_X11_troubles_33, cd_X11_troubles_34, cd_X11_troubles_54, cd_X11_troubles_55, no_0, no_1, no_lt, no_le, no_eq, no_lt0, no_ge0, no_gt0, no_le0, no_eq0, no_0eq, no_eqm, no_meq, no_m0, no_mlt, no_mge, no_mgt, no_mm, no_i01, no_i10, no_in, no_or, no_ifm, no_mul, nI_add, no_sub, pk_div, iI_if, nI_clamp, oI_n, oI_s, not_true_eq_false, not_false_eq_true, forall_const, true_implies, false_and, and_false, or_false, false_or, Classical.not_not, true_or, or_true, no_b, no_eq1, eq_self, and_self, sk_301, sk_302, sl_302, sp_301, a, b])
        | (with_reducible refine ev_gid ?_; simp (disch := first | omega | assumption) only [ev_run_c, ev_run_n, ev_fj, ev_stp, ev_lk, ev_fv, ev_as, ev_sz, ev_st1, ev_st2, ev_rm, ev_pk, ev_Jof, ev_go, lv_args, List.map_cons, List.map_nil, List.zip_cons_cons, List.zip_nil_left, List.zip_nil_right, List.nil_append, List.cons_append, ↓reduceIte, reduceCtorEq, Int.reduceToNat, Nat.reduceEqDiff, Nat.reduceAdd, Nat.reduceLT, Nat.reduceLeDiff, Nat.reduceMul, Value.category, false_implies, true_and, and_true, Bool.false_eq_true, Option.some.injEq, exists_eq_left', Option.toList_some, Option.toList_none, ev_km, ev_k2, ev_k3, ev_k4, ev_k5, ev_l0, ev_l1, sh_1, sh_2, sh_3, sh_4, sh_5, at_X11_troubles_14, at_X11_troubles_15, at_X11_troubles_33, at_X11_troubles_34, at_X11_troubles_54, at_X11_troubles_55, ca_X11_180, ca_X11_201, ca_X11_325, ca_X11_329, cd_X11_troubles_0, cd_X11_troubles_14, cd_X11_troubles_15, cd_X11_troubles_33, cd_X11_troubles_34, cd_X11_troubles_54, cd_X11_troubles_55, no_0, no_1, no_lt, no_le, no_eq, no_lt0, no_ge0, no_gt0, no_le0, no_eq0, no_0eq, no_eqm, no_meq, no_m0, no_mlt, no_mge, no_mgt, no_mm, no_i01, no_i10, no_in, no_or, no_ifm, no_mul, nI_add, no_sub, pk_div, iI_if, nI_clamp, oI_n, oI_s, not_true_eq_false, not_false_eq_true, forall_const, true_implies, false_and, and_false, or_false, false_or, Classical.not_not, true_or, or_true, no_b, no_eq1, eq_self, and_self, sk_301, sk_302, sl_302, sp_301, a, b])
        | (with_reducible refine And.intro (fun q => ?_) (fun q => ?_) <;> (try simp (disch := first | omega | assumption) only [no_0, no_1, no_lt, no_le, no_eq, no_lt0, no_ge0, no_gt0, no_le0, no_eq0, no_0eq, no_eqm, no_meq, no_m0, no_mlt, no_mge, no_mgt, no_mm, no_i01, no_i10, no_in, no_or, no_ifm, no_mul, nI_add, no_sub, pk_div, iI_if, nI_clamp, oI_n, oI_s, not_true_eq_false, not_false_eq_true, forall_const, true_implies, false_and, and_false, or_false, false_or, Classical.not_not, true_or, or_true, no_b, no_eq1, eq_self, and_self, sk_301, sk_302, sl_302, sp_301, a, b] at q))
        | with_reducible refine ev_ci (m_X11_seatOf hok (by first | with_reducible assumption | exact th_R (by with_reducible assumption) | exact mw_R | exact ms_R) ?_ ?_ ?_ ?_) ?_
        | with_reducible refine ev_ci (m_X11_conflictOf hok (by first | with_reducible assumption | exact th_R (by with_reducible assumption) | exact mw_R | exact ms_R) (by with_reducible assumption) ?_ ?_) ?_
        | with_reducible refine ev_ci (m_X11_one hok _ ?_) ?_
        | with_reducible refine ev_ci (m_X11_isScored hok (by first | with_reducible assumption | exact th_R (by with_reducible assumption) | exact mw_R | exact ms_R) (by with_reducible assumption) ?_ ?_) ?_
        | omega
        | with_reducible assumption
        | with_reducible rfl
        | exact hst
        | with_reducible refine lp_nx ?_ ?_ ?_ ?_
        | with_reducible refine lp_st ?_ ?_ ?_
        | with_reducible refine ls_c ?_ ?_
        | with_reducible refine vi_c ?_
        | with_reducible refine re_c ?_
        | with_reducible refine vz_c ?_
        | with_reducible refine rz_c ?_
        | exact trivial
        | with_reducible refine And.intro ?_ ?_
        | simp (disch := first | omega | assumption) only [ev_run_c, ev_run_n, ev_fj, ev_stp, ev_lk, ev_fv, ev_as, ev_sz, ev_st1, ev_st2, ev_rm, ev_pk, ev_Jof, ev_go, lv_args, List.map_cons, List.map_nil, List.zip_cons_cons, List.zip_nil_left, List.zip_nil_right, List.nil_append, List.cons_append, ↓reduceIte, reduceCtorEq, Int.reduceToNat, Nat.reduceEqDiff, Nat.reduceAdd, Nat.reduceLT, Nat.reduceLeDiff, Nat.reduceMul, Value.category, false_implies, true_and, and_true, Bool.false_eq_true, Option.some.injEq, exists_eq_left', Option.toList_some, Option.toList_none, ev_km, ev_k2, ev_k3, ev_k4, ev_k5, ev_l0, ev_l1, sh_1, sh_2, sh_3, sh_4, sh_5, at_X11_troubles_14, at_X11_troubles_15, at_X11_troubles_33, at_X11_troubles_34, at_X11_troubles_54, at_X11_troubles_55, ca_X11_180, ca_X11_201, ca_X11_325, ca_X11_329, cd_X11_troubles_0, cd_X11_troubles_14, cd_X11_troubles_15, cd_X11_troubles_33, cd_X11_troubles_34, cd_X11_troubles_54, cd_X11_troubles_55, no_0, no_1, no_lt, no_le, no_eq, no_lt0, no_ge0, no_gt0, no_le0, no_eq0, no_0eq, no_eqm, no_meq, no_m0, no_mlt, no_mge, no_mgt, no_mm, no_i01, no_i10, no_in, no_or, no_ifm, no_mul, nI_add, no_sub, pk_div, iI_if, nI_clamp, oI_n, oI_s, not_true_eq_false, not_false_eq_true, forall_const, true_implies, false_and, and_false, or_false, false_or, Classical.not_not, true_or, or_true, no_b, no_eq1, eq_self, and_self, sk_301, sk_302, sl_302, sp_301, a, b]
        | exact rfl
        | (split <;> omega))
    · rw [trb_ny a b]
      refine ev_tri hok (okM_X11_troubles 0) (Nat.le_of_ble_eq_true rfl) 400 ?_
      rw [at_X11_troubles_0]
      repeat' (first
        | (with_reducible refine ev_rid ?_; simp (disch := first | omega | assumption) only [ev_run_c, ev_run_n, ev_fj, ev_stp, ev_lk, ev_fv, ev_as, ev_sz, ev_st1, ev_st2, ev_rm, ev_pk, ev_Jof, ev_go, lv_args, List.map_cons, List.map_nil, List.zip_cons_cons, List.zip_nil_left, List.zip_nil_right, List.nil_append, List.cons_append, ↓reduceIte, reduceCtorEq, Int.reduceToNat, Nat.reduceEqDiff, Nat.reduceAdd, Nat.reduceLT, Nat.reduceLeDiff, Nat.reduceMul, Value.category, false_implies, true_and, and_true, Bool.false_eq_true, Option.some.injEq, exists_eq_left', Option.toList_some, Option.toList_none, ev_km, ev_k2, ev_k3, ev_k4, ev_k5, ev_l0, ev_l1, sh_1, sh_2, sh_3, sh_4, sh_5, at_X11_troubles_14, at_X11_troubles_15, at_X11_troubles_33, at_X11_troubles_34, at_X11_troubles_54, at_X11_troubles_55, ca_X11_180, ca_X11_201, ca_X11_325, ca_X11_329, cd_X11_troubles_0, cd_X11_troubles_14, cd_X11_troubles_15, cd_X11_troubles_33, cd_X11_troubles_34, cd_X11_troubles_54, cd_X11_troubles_55, no_0, no_1, no_lt, no_le, no_eq, no_lt0, no_ge0, no_gt0, no_le0, no_eq0, no_0eq, no_eqm, no_meq, no_m0, no_mlt, no_mge, no_mgt, no_mm, no_i01, no_i10, no_in, no_or, no_ifm, no_mul, nI_add, no_sub, pk_div, iI_if, nI_clamp, oI_n, oI_s, not_true_eq_false, not_false_eq_true, forall_const, true_implies, false_and, and_false, or_false, false_or, Classical.not_not, true_or, or_true, no_b, no_eq1, eq_self, and_self, sk_301, sk_302, sl_302, sp_301, a, b])
        | (with_reducible refine ev_gid ?_; simp (disch := first | omega | assumption) only [ev_run_c, ev_run_n, ev_fj, ev_stp, ev_lk, ev_fv, ev_as, ev_sz, ev_st1, ev_st2, ev_rm, ev_pk, ev_Jof, ev_go, lv_args, List.map_cons, List.map_nil, List.zip_cons_cons, List.zip_nil_left, List.zip_nil_right, List.nil_append, List.cons_append, ↓reduceIte, reduceCtorEq, Int.reduceToNat, Nat.reduceEqDiff, Nat.reduceAdd, Nat.reduceLT, Nat.reduceLeDiff, Nat.reduceMul, Value.category, false_implies, true_and, and_true, Bool.false_eq_true, Option.some.injEq, exists_eq_left', Option.toList_some, Option.toList_none, ev_km, ev_k2, ev_k3, ev_k4, ev_k5, ev_l0, ev_l1, sh_1, sh_2, sh_3, sh_4, sh_5, at_X11_troubles_14, at_X11_troubles_15, at_X11_troubles_33, at_X11_troubles_34, at_X11_troubles_54, at_X11_troubles_55, ca_X11_180, ca_X11_201, ca_X11_325, ca_X11_329, cd_X11_troubles_0, cd_X11_troubles_14, cd_X11_troubles_15, cd_X11_troubles_33, cd_X11_troubles_34, cd_X11_troubles_54, cd_X11_troubles_55, no_0, no_1, no_lt, no_le, no_eq, no_lt0, no_ge0, no_gt0, no_le0, no_eq0, no_0eq, no_eqm, no_meq, no_m0, no_mlt, no_mge, no_mgt, no_mm, no_i01, no_i10, no_in, no_or, no_ifm, no_mul, nI_add, no_sub, pk_div, iI_if, nI_clamp, oI_n, oI_s, not_true_eq_false, not_false_eq_true, forall_const, true_implies, false_and, and_false, or_false, false_or, Classical.not_not, true_or, or_true, no_b, no_eq1, eq_self, and_self, sk_301, sk_302, sl_302, sp_301, a, b])
        | (with_reducible refine And.intro (fun q => ?_) (fun q => ?_) <;> (try simp (disch := first | omega | assumption) only [no_0, no_1, no_lt, no_le, no_eq, no_lt0, no_ge0, no_gt0, no_le0, no_eq0, no_0eq, no_eqm, no_meq, no_m0, no_mlt, no_mge, no_mgt, no_mm, no_i01, no_i10, no_in, no_or, no_ifm, no_mul, nI_add, no_sub, pk_div, iI_if, nI_clamp, oI_n, oI_s, not_true_eq_false, not_false_eq_true, forall_const, true_implies, false_and, and_false, or_false, false_or, Classical.not_not, true_or, or_true, no_b, no_eq1, eq_self, and_self, sk_301, sk_302, sl_302, sp_301, a, b] at q))
        | with_reducible refine ev_ci (m_X11_seatOf hok (by first | with_reducible assumption | exact th_R (by with_reducible assumption) | exact mw_R | exact ms_R) ?_ ?_ ?_ ?_) ?_
        | with_reducible refine ev_ci (m_X11_conflictOf hok (by first | with_reducible assumption | exact th_R (by with_reducible assumption) | exact mw_R | exact ms_R) (by with_reducible assumption) ?_ ?_) ?_
        | with_reducible refine ev_ci (m_X11_one hok _ ?_) ?_
        | with_reducible refine ev_ci (m_X11_isScored hok (by first | with_reducible assumption | exact th_R (by with_reducible assumption) | exact mw_R | exact ms_R) (by with_reducible assumption) ?_ ?_) ?_
        | omega
        | with_reducible assumption
        | with_reducible rfl
        | exact hst
        | with_reducible refine lp_nx ?_ ?_ ?_ ?_
        | with_reducible refine lp_st ?_ ?_ ?_
        | with_reducible refine ls_c ?_ ?_
        | with_reducible refine vi_c ?_
        | with_reducible refine re_c ?_
        | with_reducible refine vz_c ?_
        | with_reducible refine rz_c ?_
        | exact trivial
        | with_reducible refine And.intro ?_ ?_
        | simp (disch := first | omega | assumption) only [ev_run_c, ev_run_n, ev_fj, ev_stp, ev_lk, ev_fv, ev_as, ev_sz, ev_st1, ev_st2, ev_rm, ev_pk, ev_Jof, ev_go, lv_args, List.map_cons, List.map_nil, List.zip_cons_cons, List.zip_nil_left, List.zip_nil_right, List.nil_append, List.cons_append, ↓reduceIte, reduceCtorEq, Int.reduceToNat, Nat.reduceEqDiff, Nat.reduceAdd, Nat.reduceLT, Nat.reduceLeDiff, Nat.reduceMul, Value.category, false_implies, true_and, and_true, Bool.false_eq_true, Option.some.injEq, exists_eq_left', Option.toList_some, Option.toList_none, ev_km, ev_k2, ev_k3, ev_k4, ev_k5, ev_l0, ev_l1, sh_1, sh_2, sh_3, sh_4, sh_5, at_X11_troubles_14, at_X11_troubles_15, at_X11_troubles_33, at_X11_troubles_34, at_X11_troubles_54, at_X11_troubles_55, ca_X11_180, ca_X11_201, ca_X11_325, ca_X11_329, cd_X11_troubles_0, cd_X11_troubles_14, cd_X11_troubles_15, cd_X11_troubles_33, cd_X11_troubles_34, cd_X11_troubles_54, cd_X11_troubles_55, no_0, no_1, no_lt, no_le, no_eq, no_lt0, no_ge0, no_gt0, no_le0, no_eq0, no_0eq, no_eqm, no_meq, no_m0, no_mlt, no_mge, no_mgt, no_mm, no_i01, no_i10, no_in, no_or, no_ifm, no_mul, nI_add, no_sub, pk_div, iI_if, nI_clamp, oI_n, oI_s, not_true_eq_false, not_false_eq_true, forall_const, true_implies, false_and, and_false, or_false, false_or, Classical.not_not, true_or, or_true, no_b, no_eq1, eq_self, and_self, sk_301, sk_302, sl_302, sp_301, a, b]
        | exact rfl
        | (split <;> omega))
def ovl (N : Nat → Nat) (i : Nat) : Nat := if N (8 + 59 * i + 1) ≠ 0 ∧ N (8 + 59 * i + 1) < ld N i (N 1) then 1 else 0
def wrg (N : Nat → Nat) : Nat → Nat := sm (fun i => ovl N i + sm (trb N i) (N 1))
def lds (N : Nat → Nat) : Nat → Nat := sm (fun i => ld N i (N 1))
def aI (d : Int) : Int := if 0 ≤ d then d else -d
def imb (N : Nat → Nat) : Int := (wrg N (N 0) : Nat) + aI ((lds N (N 0) : Nat) - (3 * N 1 : Nat) + (lk N (N 1) : Nat))
theorem ovl_y {i : Nat} (h1 : ¬ N (8 + 59 * i + 1) = 0) (h2 : ¬ ld N i (N 1) ≤ N (8 + 59 * i + 1)) : ovl N i = 1 := if_pos ⟨h1, by omega⟩
theorem ovl_n {i : Nat} (h : N (8 + 59 * i + 1) = 0 ∨ ld N i (N 1) ≤ N (8 + 59 * i + 1)) : ovl N i = 0 := if_neg (by omega)
set_option maxHeartbeats 1000000 in
theorem m_X11_imbalance (hok : ev_ok sh_S G) (hN : MR N μ) (hI : INV N) {e : Nat} (he : μ.1 301 6 = nI e) (he2 : e < 2) : ev_T sh_S G mi_X11_imbalance [.ref 301] μ (.inl (some (.int (v0 e (iI (imb N)))), th μ (thc e 1 1))) := by
  have hh := iv_h hI
  have hN' : ∀ k, k < 1042 → (th μ 0).1 302 k = nI (N k) := th_R hN
  rcases (show e = 0 ∨ e = 1 by omega) with rfl | rfl
  · rw [v0_0]
    refine ev_tri hok (okM_X11_imbalance 0) (Nat.le_of_ble_eq_true rfl) 400 ?_
    rw [at_X11_imbalance_0]
    repeat' (first
      | (with_reducible refine ev_rid ?_; simp (disch := first | omega | assumption) only [ev_run_c, ev_run_n, ev_fj, ev_stp, ev_lk, ev_fv, ev_as, ev_sz, ev_st1, ev_st2, ev_rm, ev_pk, ev_Jof, ev_go, lv_args, List.map_cons, List.map_nil, List.zip_cons_cons, List.zip_nil_left, List.zip_nil_right, List.nil_append, List.cons_append, ↓reduceIte, reduceCtorEq, Int.reduceToNat, Nat.reduceEqDiff, Nat.reduceAdd, Nat.reduceLT, Nat.reduceLeDiff, Nat.reduceMul, Value.category, false_implies, true_and, and_true, Bool.false_eq_true, Option.some.injEq, exists_eq_left', Option.toList_some, Option.toList_none, ev_km, ev_k2, ev_k3, ev_k4, ev_k5, ev_l0, ev_l1, sh_1, sh_2, sh_3, sh_4, sh_5, at_X11_imbalance_102, at_X11_imbalance_15, at_X11_imbalance_60, at_X11_imbalance_61, at_X11_imbalance_69, at_X11_imbalance_9, at_X11_imbalance_96, ca_X11_121, ca_X11_140, ca_X11_325, ca_X11_332, ca_X11_385, ca_X11_407, ca_X11_433, ca_X11_442, cd_X11_imbalance_0, cd_X11_imbalance_102, cd_X11_imbalance_15, cd_X11_imbalance_60, cd_X11_imbalance_61, cd_X11_imbalance_69, cd_X11_imbalance_9, cd_X11_imbalance_96, fl_X11_9, no_0, no_1, no_lt, no_le, no_eq, no_lt0, no_ge0, no_gt0, no_le0, no_eq0, no_0eq, no_eqm, no_meq, no_m0, no_mlt, no_mge, no_mgt, no_mm, no_i01, no_i10, no_in, no_or, no_ifm, no_mul, nI_add, no_sub, pk_div, iI_if, nI_clamp, oI_n, oI_s, not_true_eq_false, not_false_eq_true, forall_const, true_implies, false_and, and_false, or_false, false_or, Classical.not_not, true_or, or_true, no_b, no_eq1, eq_self, and_self, sk_301, sk_302, sl_302, sp_301, thc_1])
      | (with_reducible refine ev_gid ?_; simp (disch := first | omega | assumption) only [ev_run_c, ev_run_n, ev_fj, ev_stp, ev_lk, ev_fv, ev_as, ev_sz, ev_st1, ev_st2, ev_rm, ev_pk, ev_Jof, ev_go, lv_args, List.map_cons, List.map_nil, List.zip_cons_cons, List.zip_nil_left, List.zip_nil_right, List.nil_append, List.cons_append, ↓reduceIte, reduceCtorEq, Int.reduceToNat, Nat.reduceEqDiff, Nat.reduceAdd, Nat.reduceLT, Nat.reduceLeDiff, Nat.reduceMul, Value.category, false_implies, true_and, and_true, Bool.false_eq_true, Option.some.injEq, exists_eq_left', Option.toList_some, Option.toList_none, ev_km, ev_k2, ev_k3, ev_k4, ev_k5, ev_l0, ev_l1, sh_1, sh_2, sh_3, sh_4, sh_5, at_X11_imbalance_102, at_X11_imbalance_15, at_X11_imbalance_60, at_X11_imbalance_61, at_X11_imbalance_69, at_X11_imbalance_9, at_X11_imbalance_96, ca_X11_121, ca_X11_140, ca_X11_325, ca_X11_332, ca_X11_385, ca_X11_407, ca_X11_433, ca_X11_442, cd_X11_imbalance_0, cd_X11_imbalance_102, cd_X11_imbalance_15, cd_X11_imbalance_60, cd_X11_imbalance_61, cd_X11_imbalance_69, cd_X11_imbalance_9, cd_X11_imbalance_96, fl_X11_9, no_0, no_1, no_lt, no_le, no_eq, no_lt0, no_ge0, no_gt0, no_le0, no_eq0, no_0eq, no_eqm, no_meq, no_m0, no_mlt, no_mge, no_mgt, no_mm, no_i01, no_i10, no_in, no_or, no_ifm, no_mul, nI_add, no_sub, pk_div, iI_if, nI_clamp, oI_n, oI_s, not_true_eq_false, not_false_eq_true, forall_const, true_implies, false_and, and_false, or_false, false_or, Classical.not_not, true_or, or_true, no_b, no_eq1, eq_self, and_self, sk_301, sk_302, sl_302, sp_301, thc_1])
      | (with_reducible refine And.intro (fun q => ?_) (fun q => ?_) <;> (try simp (disch := first | omega | assumption) only [no_0, no_1, no_lt, no_le, no_eq, no_lt0, no_ge0, no_gt0, no_le0, no_eq0, no_0eq, no_eqm, no_meq, no_m0, no_mlt, no_mge, no_mgt, no_mm, no_i01, no_i10, no_in, no_or, no_ifm, no_mul, nI_add, no_sub, pk_div, iI_if, nI_clamp, oI_n, oI_s, not_true_eq_false, not_false_eq_true, forall_const, true_implies, false_and, and_false, or_false, false_or, Classical.not_not, true_or, or_true, no_b, no_eq1, eq_self, and_self, sk_301, sk_302, sl_302, sp_301, thc_1] at q))
      | with_reducible refine ev_ci (m_X11_mayLook hok (by with_reducible assumption) ?_) ?_
      | with_reducible refine ev_ci (m_X11_load hok (by first | with_reducible assumption | exact th_R (by with_reducible assumption) | exact mw_R | exact ms_R) (by with_reducible assumption) ?_) ?_
      | with_reducible refine ev_ci (m_X11_isTasting hok (by first | with_reducible assumption | exact th_R (by with_reducible assumption) | exact mw_R | exact ms_R) ?_ ?_) ?_
      | with_reducible refine ev_ci (m_X11_of hok (by first | with_reducible assumption | exact th_R (by with_reducible assumption) | exact mw_R | exact ms_R) ?_ ?_) ?_
      | with_reducible refine ev_ci (m_X11_one hok _ ?_) ?_
      | with_reducible refine ev_ci (m_X11_troubles hok (by first | with_reducible assumption | exact th_R (by with_reducible assumption) | exact mw_R | exact ms_R) (by with_reducible assumption) ?_ ?_) ?_
      | with_reducible refine ev_ci (m_X11_lacks hok (by first | with_reducible assumption | exact th_R (by with_reducible assumption) | exact mw_R | exact ms_R) (by with_reducible assumption)) ?_
      | omega
      | with_reducible assumption
      | with_reducible rfl
      | with_reducible refine lp_nx ?_ ?_ ?_ ?_
      | with_reducible refine lp_st ?_ ?_ ?_
      | with_reducible refine ls_c ?_ ?_
      | with_reducible refine vi_c ?_
      | with_reducible refine re_c ?_
      | with_reducible refine vz_c ?_
      | with_reducible refine rz_c ?_
      | exact trivial
      | with_reducible refine And.intro ?_ ?_
      | simp (disch := first | omega | assumption) only [ev_run_c, ev_run_n, ev_fj, ev_stp, ev_lk, ev_fv, ev_as, ev_sz, ev_st1, ev_st2, ev_rm, ev_pk, ev_Jof, ev_go, lv_args, List.map_cons, List.map_nil, List.zip_cons_cons, List.zip_nil_left, List.zip_nil_right, List.nil_append, List.cons_append, ↓reduceIte, reduceCtorEq, Int.reduceToNat, Nat.reduceEqDiff, Nat.reduceAdd, Nat.reduceLT, Nat.reduceLeDiff, Nat.reduceMul, Value.category, false_implies, true_and, and_true, Bool.false_eq_true, Option.some.injEq, exists_eq_left', Option.toList_some, Option.toList_none, ev_km, ev_k2, ev_k3, ev_k4, ev_k5, ev_l0, ev_l1, sh_1, sh_2, sh_3, sh_4, sh_5, at_X11_imbalance_102, at_X11_imbalance_15, at_X11_imbalance_60, at_X11_imbalance_61, at_X11_imbalance_69, at_X11_imbalance_9, at_X11_imbalance_96, ca_X11_121, ca_X11_140, ca_X11_325, ca_X11_332, ca_X11_385, ca_X11_407, ca_X11_433, ca_X11_442, cd_X11_imbalance_0, cd_X11_imbalance_102, cd_X11_imbalance_15, cd_X11_imbalance_60, cd_X11_imbalance_61, cd_X11_imbalance_69, cd_X11_imbalance_9, cd_X11_imbalance_96, fl_X11_9, no_0, no_1, no_lt, no_le, no_eq, no_lt0, no_ge0, no_gt0, no_le0, no_eq0, no_0eq, no_eqm, no_meq, no_m0, no_mlt, no_mge, no_mgt, no_mm, no_i01, no_i10, no_in, no_or, no_ifm, no_mul, nI_add, no_sub, pk_div, iI_if, nI_clamp, oI_n, oI_s, not_true_eq_false, not_false_eq_true, forall_const, true_implies, false_and, and_false, or_false, false_or, Classical.not_not, true_or, or_true, no_b, no_eq1, eq_self, and_self, sk_301, sk_302, sl_302, sp_301, thc_1]
      | exact rfl
      | (split <;> omega))
  · rw [v0_1]
    have hc := thc_0
    rw [hc]
    refine ev_triG hok (okM_X11_imbalance 0) (Nat.le_of_ble_eq_true rfl) [(15, [0, 1, 2, 3]), (69, [0, 1, 2, 3, 4])] 400 (fun pc a b _ => if pc = 15 then a ≤ N 0 else a < N 0 ∧ b ≤ N 1) (fun pc a b _ => if pc = 15 then [.ref 301, .int (nI (wrg N a)), .int (nI (lds N a)), .int (nI a)] else [.ref 301, .int (nI (wrg N a + ovl N a + sm (trb N a) b)), .int (nI (lds N (a + 1))), .int (nI a), .int (nI b)]) (fun _ _ _ _ => th μ 0) (fun pc a b _ => if pc = 15 then (16 - a) * 20 + 18 else (16 - a) * 20 + (10 - b)) ?_ ?_
    · intro x hx a b c hP
      simp only [List.mem_cons, List.not_mem_nil, or_false] at hx
      rcases hx with rfl | rfl
      · have hP : a ≤ N 0 := hP
        dsimp only
        rw [at_X11_imbalance_15]
        rcases Nat.lt_or_ge a (N 0) with h1 | h1
        · have h2 := iv_p hI a (by omega)
          have h3 := ld_le N a (N 1)
          repeat' (first
            | (with_reducible refine ev_rid ?_; simp (disch := first | omega | assumption) only [ev_run_c, ev_run_n, ev_fj, ev_stp, ev_lk, ev_fv, ev_as, ev_sz, ev_st1, ev_st2, ev_rm, ev_pk, ev_Jof, ev_go, lv_args, List.map_cons, List.map_nil, List.zip_cons_cons, List.zip_nil_left, List.zip_nil_right, List.nil_append, List.cons_append, ↓reduceIte, reduceCtorEq, Int.reduceToNat, Nat.reduceEqDiff, Nat.reduceAdd, Nat.reduceLT, Nat.reduceLeDiff, Nat.reduceMul, Value.category, false_implies, true_and, and_true, Bool.false_eq_true, Option.some.injEq, exists_eq_left', Option.toList_some, Option.toList_none, ev_km, ev_k2, ev_k3, ev_k4, ev_k5, ev_l0, ev_l1, sh_1, sh_2, sh_3, sh_4, sh_5, at_X11_imbalance_102, at_X11_imbalance_15, at_X11_imbalance_60, at_X11_imbalance_61, at_X11_imbalance_69, at_X11_imbalance_9, at_X11_imbalance_96, ca_X11_121, ca_X11_140, ca_X11_325, ca_X11_332, ca_X11_385, ca_X11_407, ca_X11_433, ca_X11_442, cd_X11_imbalance_0, cd_X11_imbalance_102, cd_X11_imbalance_15, cd_X11_imbalance_60, cd_X11_imbalance_61, cd_X11_imbalance_69, cd_X11_imbalance_9, cd_X11_imbalance_96, fl_X11_9, no_0, no_1, no_lt, no_le, no_eq, no_lt0, no_ge0, no_gt0, no_le0, no_eq0, no_0eq, no_eqm, no_meq, no_m0, no_mlt, no_mge, no_mgt, no_mm, no_i01, no_i10, no_in, no_or, no_ifm, no_mul, nI_add, no_sub, pk_div, iI_if, nI_clamp, oI_n, oI_s, not_true_eq_false, not_false_eq_true, forall_const, true_implies, false_and, and_false, or_false, false_or, Classical.not_not, true_or, or_true, no_b, no_eq1, eq_self, and_self, sk_301, sk_302, sl_302, sp_301, hN'])
            | (with_reducible refine ev_gid ?_; simp (disch := first | omega | assumption) only [ev_run_c, ev_run_n, ev_fj, ev_stp, ev_lk, ev_fv, ev_as, ev_sz, ev_st1, ev_st2, ev_rm, ev_pk, ev_Jof, ev_go, lv_args, List.map_cons, List.map_nil, List.zip_cons_cons, List.zip_nil_left, List.zip_nil_right, List.nil_append, List.cons_append, ↓reduceIte, reduceCtorEq, Int.reduceToNat, Nat.reduceEqDiff, Nat.reduceAdd, Nat.reduceLT, Nat.reduceLeDiff, Nat.reduceMul, Value.category, false_implies, true_and, and_true, Bool.false_eq_true, Option.some.injEq, exists_eq_left', Option.toList_some, Option.toList_none, ev_km, ev_k2, ev_k3, ev_k4, ev_k5, ev_l0, ev_l1, sh_1, sh_2, sh_3, sh_4, sh_5, at_X11_imbalance_102, at_X11_imbalance_15, at_X11_imbalance_60, at_X11_imbalance_61, at_X11_imbalance_69, at_X11_imbalance_9, at_X11_imbalance_96, ca_X11_121, ca_X11_140, ca_X11_325, ca_X11_332, ca_X11_385, ca_X11_407, ca_X11_433, ca_X11_442, cd_X11_imbalance_0, cd_X11_imbalance_102, cd_X11_imbalance_15, cd_X11_imbalance_60, cd_X11_imbalance_61, cd_X11_imbalance_69, cd_X11_imbalance_9, cd_X11_imbalance_96, fl_X11_9, no_0, no_1, no_lt, no_le, no_eq, no_lt0, no_ge0, no_gt0, no_le0, no_eq0, no_0eq, no_eqm, no_meq, no_m0, no_mlt, no_mge, no_mgt, no_mm, no_i01, no_i10, no_in, no_or, no_ifm, no_mul, nI_add, no_sub, pk_div, iI_if, nI_clamp, oI_n, oI_s, not_true_eq_false, not_false_eq_true, forall_const, true_implies, false_and, and_false, or_false, false_or, Classical.not_not, true_or, or_true, no_b, no_eq1, eq_self, and_self, sk_301, sk_302, sl_302, sp_301, hN'])
            | (with_reducible refine And.intro (fun q => ?_) (fun q => ?_) <;> (try simp (disch := first | omega | assumption) only [no_0, no_1, no_lt, no_le, no_eq, no_lt0, no_ge0, no_gt0, no_le0, no_eq0, no_0eq, no_eqm, no_meq, no_m0, no_mlt, no_mge, no_mgt, no_mm, no_i01, no_i10, no_in, no_or, no_ifm, no_mul, nI_add, no_sub, pk_div, iI_if, nI_clamp, oI_n, oI_s, not_true_eq_false, not_false_eq_true, forall_const, true_implies, false_and, and_false, or_false, false_or, Classical.not_not, true_or, or_true, no_b, no_eq1, eq_self, and_self, sk_301, sk_302, sl_302, sp_301, hN'] at q))
            | with_reducible refine ev_ci (m_X11_mayLook hok (by with_reducible assumption) ?_) ?_
            | with_reducible refine ev_ci (m_X11_load hok (by first | with_reducible assumption | exact th_R (by with_reducible assumption) | exact mw_R | exact ms_R) (by with_reducible assumption) ?_) ?_
            | with_reducible refine ev_ci (m_X11_isTasting hok (by first | with_reducible assumption | exact th_R (by with_reducible assumption) | exact mw_R | exact ms_R) ?_ ?_) ?_
            | with_reducible refine ev_ci (m_X11_of hok (by first | with_reducible assumption | exact th_R (by with_reducible assumption) | exact mw_R | exact ms_R) ?_ ?_) ?_
            | with_reducible refine ev_ci (m_X11_one hok _ ?_) ?_
            | with_reducible refine ev_ci (m_X11_troubles hok (by first | with_reducible assumption | exact th_R (by with_reducible assumption) | exact mw_R | exact ms_R) (by with_reducible assumption) ?_ ?_) ?_
            | with_reducible refine ev_ci (m_X11_lacks hok (by first | with_reducible assumption | exact th_R (by with_reducible assumption) | exact mw_R | exact ms_R) (by with_reducible assumption)) ?_
            | omega
            | with_reducible assumption
            | with_reducible rfl
            | refine lpG_nx a 0 0 ?_ ?_ ?_ ?_
            | (refine (?_ : wrg N a + 1 = wrg N a + ovl N a + 0); rw [ovl_y ‹_› ‹_›])
            | (refine (?_ : wrg N a + 0 = wrg N a + ovl N a + 0); rw [ovl_n (by omega)])
            | with_reducible refine lp_nx ?_ ?_ ?_ ?_
            | with_reducible refine lp_st ?_ ?_ ?_
            | with_reducible refine ls_c ?_ ?_
            | with_reducible refine vi_c ?_
            | with_reducible refine re_c ?_
            | with_reducible refine vz_c ?_
            | with_reducible refine rz_c ?_
            | exact trivial
            | with_reducible refine And.intro ?_ ?_
            | simp (disch := first | omega | assumption) only [ev_run_c, ev_run_n, ev_fj, ev_stp, ev_lk, ev_fv, ev_as, ev_sz, ev_st1, ev_st2, ev_rm, ev_pk, ev_Jof, ev_go, lv_args, List.map_cons, List.map_nil, List.zip_cons_cons, List.zip_nil_left, List.zip_nil_right, List.nil_append, List.cons_append, ↓reduceIte, reduceCtorEq, Int.reduceToNat, Nat.reduceEqDiff, Nat.reduceAdd, Nat.reduceLT, Nat.reduceLeDiff, Nat.reduceMul, Value.category, false_implies, true_and, and_true, Bool.false_eq_true, Option.some.injEq, exists_eq_left', Option.toList_some, Option.toList_none, ev_km, ev_k2, ev_k3, ev_k4, ev_k5, ev_l0, ev_l1, sh_1, sh_2, sh_3, sh_4, sh_5, at_X11_imbalance_102, at_X11_imbalance_15, at_X11_imbalance_60, at_X11_imbalance_61, at_X11_imbalance_69, at_X11_imbalance_9, at_X11_imbalance_96, ca_X11_121, ca_X11_140, ca_X11_325, ca_X11_332, ca_X11_385, ca_X11_407, ca_X11_433, ca_X11_442, cd_X11_imbalance_0, cd_X11_imbalance_102, cd_X11_imbalance_15, cd_X11_imbalance_60, cd_X11_imbalance_61, cd_X11_imbalance_69, cd_X11_imbalance_9, cd_X11_imbalance_96, fl_X11_9, no_0, no_1, no_lt, no_le, no_eq, no_lt0, no_ge0, no_gt0, no_le0, no_eq0, no_0eq, no_eqm, no_meq, no_m0, no_mlt, no_mge, no_mgt, no_mm, no_i01, no_i10, no_in, no_or, no_ifm, no_mul, nI_add, no_sub, pk_div, iI_if, nI_clamp, oI_n, oI_s, not_true_eq_false, not_false_eq_true, forall_const, true_implies, false_and, and_false, or_false, false_or, Classical.not_not, true_or, or_true, no_b, no_eq1, eq_self, and_self, sk_301, sk_302, sl_302, sp_301, hN']
            | exact rfl
            | (split <;> omega))
        · have e2 : a = N 0 := by omega
          subst e2
          have h3 : sm (fun q => 3 - N (952 + 9 * q + 5)) (N 1) ≤ N 1 * 3 := sm_le (N 1) (fun k _ => by (try dsimp only); omega)
          have h4 : lds N (N 0) ≤ N 0 * 10 := sm_le (N 0) (fun k _ => by have := ld_le N k (N 1); (try dsimp only); omega)
          have h5 : lk N (N 1) ≤ 30 := by unfold lk; omega
          repeat' (first
            | (with_reducible refine ev_rid ?_; simp (disch := first | omega | assumption) only [ev_run_c, ev_run_n, ev_fj, ev_stp, ev_lk, ev_fv, ev_as, ev_sz, ev_st1, ev_st2, ev_rm, ev_pk, ev_Jof, ev_go, lv_args, List.map_cons, List.map_nil, List.zip_cons_cons, List.zip_nil_left, List.zip_nil_right, List.nil_append, List.cons_append, ↓reduceIte, reduceCtorEq, Int.reduceToNat, Nat.reduceEqDiff, Nat.reduceAdd, Nat.reduceLT, Nat.reduceLeDiff, Nat.reduceMul, Value.category, false_implies, true_and, and_true, Bool.false_eq_true, Option.some.injEq, exists_eq_left', Option.toList_some, Option.toList_none, ev_km, ev_k2, ev_k3, ev_k4, ev_k5, ev_l0, ev_l1, sh_1, sh_2, sh_3, sh_4, sh_5, at_X11_imbalance_102, at_X11_imbalance_15, at_X11_imbalance_60, at_X11_imbalance_61, at_X11_imbalance_69, at_X11_imbalance_9, at_X11_imbalance_96, ca_X11_121, ca_X11_140, ca_X11_325, ca_X11_332, ca_X11_385, ca_X11_407, ca_X11_433, ca_X11_442, cd_X11_imbalance_0, cd_X11_imbalance_102, cd_X11_imbalance_15, cd_X11_imbalance_60, cd_X11_imbalance_61, cd_X11_imbalance_69, cd_X11_imbalance_9, cd_X11_imbalance_96, fl_X11_9, no_0, no_1, no_lt, no_le, no_eq, no_lt0, no_ge0, no_gt0, no_le0, no_eq0, no_0eq, no_eqm, no_meq, no_m0, no_mlt, no_mge, no_mgt, no_mm, no_i01, no_i10, no_in, no_or, no_ifm, no_mul, nI_add, pk_div, iI_if, nI_clamp, oI_n, oI_s, not_true_eq_false, not_false_eq_true, forall_const, true_implies, false_and, and_false, or_false, false_or, Classical.not_not, true_or, or_true, no_b, no_eq1, eq_self, and_self, sk_301, sk_302, sl_302, sp_301, hN', iI_dif, iI_na, iI_ge0, iI_0s, iI_an])
            | (with_reducible refine ev_gid ?_; simp (disch := first | omega | assumption) only [ev_run_c, ev_run_n, ev_fj, ev_stp, ev_lk, ev_fv, ev_as, ev_sz, ev_st1, ev_st2, ev_rm, ev_pk, ev_Jof, ev_go, lv_args, List.map_cons, List.map_nil, List.zip_cons_cons, List.zip_nil_left, List.zip_nil_right, List.nil_append, List.cons_append, ↓reduceIte, reduceCtorEq, Int.reduceToNat, Nat.reduceEqDiff, Nat.reduceAdd, Nat.reduceLT, Nat.reduceLeDiff, Nat.reduceMul, Value.category, false_implies, true_and, and_true, Bool.false_eq_true, Option.some.injEq, exists_eq_left', Option.toList_some, Option.toList_none, ev_km, ev_k2, ev_k3, ev_k4, ev_k5, ev_l0, ev_l1, sh_1, sh_2, sh_3, sh_4, sh_5, at_X11_imbalance_102, at_X11_imbalance_15, at_X11_imbalance_60, at_X11_imbalance_61, at_X11_imbalance_69, at_X11_imbalance_9, at_X11_imbalance_96, ca_X11_121, ca_X11_140, ca_X11_325, ca_X11_332, ca_X11_385, ca_X11_407, ca_X11_433, ca_X11_442, cd_X11_imbalance_0, cd_X11_imbalance_102, cd_X11_imbalance_15, cd_X11_imbalance_60, cd_X11_imbalance_61, cd_X11_imbalance_69, cd_X11_imbalance_9, cd_X11_imbalance_96, fl_X11_9, no_0, no_1, no_lt, no_le, no_eq, no_lt0, no_ge0, no_gt0, no_le0, no_eq0, no_0eq, no_eqm, no_meq, no_m0, no_mlt, no_mge, no_mgt, no_mm, no_i01, no_i10, no_in, no_or, no_ifm, no_mul, nI_add, pk_div, iI_if, nI_clamp, oI_n, oI_s, not_true_eq_false, not_false_eq_true, forall_const, true_implies, false_and, and_false, or_false, false_or, Classical.not_not, true_or, or_true, no_b, no_eq1, eq_self, and_self, sk_301, sk_302, sl_302, sp_301, hN', iI_dif, iI_na, iI_ge0, iI_0s, iI_an])
            | (with_reducible refine And.intro (fun q => ?_) (fun q => ?_) <;> (try simp (disch := first | omega | assumption) only [no_0, no_1, no_lt, no_le, no_eq, no_lt0, no_ge0, no_gt0, no_le0, no_eq0, no_0eq, no_eqm, no_meq, no_m0, no_mlt, no_mge, no_mgt, no_mm, no_i01, no_i10, no_in, no_or, no_ifm, no_mul, nI_add, no_sub, pk_div, iI_if, nI_clamp, oI_n, oI_s, not_true_eq_false, not_false_eq_true, forall_const, true_implies, false_and, and_false, or_false, false_or, Classical.not_not, true_or, or_true, no_b, no_eq1, eq_self, and_self, sk_301, sk_302, sl_302, sp_301, hN', iI_dif, iI_na, iI_ge0, iI_0s, iI_an] at q))
            | with_reducible refine ev_ci (m_X11_mayLook hok (by with_reducible assumption) ?_) ?_
            | with_reducible refine ev_ci (m_X11_load hok (by first | with_reducible assumption | exact th_R (by with_reducible assumption) | exact mw_R | exact ms_R) (by with_reducible assumption) ?_) ?_
            | with_reducible refine ev_ci (m_X11_isTasting hok (by first | with_reducible assumption | exact th_R (by with_reducible assumption) | exact mw_R | exact ms_R) ?_ ?_) ?_
            | with_reducible refine ev_ci (m_X11_of hok (by first | with_reducible assumption | exact th_R (by with_reducible assumption) | exact mw_R | exact ms_R) ?_ ?_) ?_
            | with_reducible refine ev_ci (m_X11_one hok _ ?_) ?_
            | with_reducible refine ev_ci (m_X11_troubles hok (by first | with_reducible assumption | exact th_R (by with_reducible assumption) | exact mw_R | exact ms_R) (by with_reducible assumption) ?_ ?_) ?_
            | with_reducible refine ev_ci (m_X11_lacks hok (by first | with_reducible assumption | exact th_R (by with_reducible assumption) | exact mw_R | exact ms_R) (by with_reducible assumption)) ?_
            | omega
            | with_reducible assumption
            | with_reducible rfl
            | with_reducible refine lp_nx ?_ ?_ ?_ ?_
            | with_reducible refine lp_st ?_ ?_ ?_
            | with_reducible refine ls_c ?_ ?_
            | with_reducible refine vi_c ?_
            | with_reducible refine re_c ?_
            | with_reducible refine vz_c ?_
            | with_reducible refine rz_c ?_
            | exact trivial
            | with_reducible refine And.intro ?_ ?_
            | simp (disch := first | omega | assumption) only [ev_run_c, ev_run_n, ev_fj, ev_stp, ev_lk, ev_fv, ev_as, ev_sz, ev_st1, ev_st2, ev_rm, ev_pk, ev_Jof, ev_go, lv_args, List.map_cons, List.map_nil, List.zip_cons_cons, List.zip_nil_left, List.zip_nil_right, List.nil_append, List.cons_append, ↓reduceIte, reduceCtorEq, Int.reduceToNat, Nat.reduceEqDiff, Nat.reduceAdd, Nat.reduceLT, Nat.reduceLeDiff, Nat.reduceMul, Value.category, false_implies, true_and, and_true, Bool.false_eq_true, Option.some.injEq, exists_eq_left', Option.toList_some, Option.toList_none, ev_km, ev_k2, ev_k3, ev_k4, ev_k5, ev_l0, ev_l1, sh_1, sh_2, sh_3, sh_4, sh_5, at_X11_imbalance_102, at_X11_imbalance_15, at_X11_imbalance_60, at_X11_imbalance_61, at_X11_imbalance_69, at_X11_imbalance_9, at_X11_imbalance_96, ca_X11_121, ca_X11_140, ca_X11_325, ca_X11_332, ca_X11_385, ca_X11_407, ca_X11_433, ca_X11_442, cd_X11_imbalance_0, cd_X11_imbalance_102, cd_X11_imbalance_15, cd_X11_imbalance_60, cd_X11_imbalance_61, cd_X11_imbalance_69, cd_X11_imbalance_9, cd_X11_imbalance_96, fl_X11_9, no_0, no_1, no_lt, no_le, no_eq, no_lt0, no_ge0, no_gt0, no_le0, no_eq0, no_0eq, no_eqm, no_meq, no_m0, no_mlt, no_mge, no_mgt, no_mm, no_i01, no_i10, no_in, no_or, no_ifm, no_mul, nI_add, pk_div, iI_if, nI_clamp, oI_n, oI_s, not_true_eq_false, not_false_eq_true, forall_const, true_implies, false_and, and_false, or_false, false_or, Classical.not_not, true_or, or_true, no_b, no_eq1, eq_self, and_self, sk_301, sk_302, sl_302, sp_301, hN', iI_dif, iI_na, iI_ge0, iI_0s, iI_an]
            | exact rfl
            | (split <;> omega))
      · have hP : a < N 0 ∧ b ≤ N 1 := hP
        dsimp only
        rw [at_X11_imbalance_69]
        rcases Nat.lt_or_ge b (N 1) with h1 | h1
        · repeat' (first
            | (with_reducible refine ev_rid ?_; simp (disch := first | omega | assumption) only [ev_run_c, ev_run_n, ev_fj, ev_stp, ev_lk, ev_fv, ev_as, ev_sz, ev_st1, ev_st2, ev_rm, ev_pk, ev_Jof, ev_go, lv_args, List.map_cons, List.map_nil, List.zip_cons_cons, List.zip_nil_left, List.zip_nil_right, List.nil_append, List.cons_append, ↓reduceIte, reduceCtorEq, Int.reduceToNat, Nat.reduceEqDiff, Nat.reduceAdd, Nat.reduceLT, Nat.reduceLeDiff, Nat.reduceMul, Value.category, false_implies, true_and, and_true, Bool.false_eq_true, Option.some.injEq, exists_eq_left', Option.toList_some, Option.toList_none, ev_km, ev_k2, ev_k3, ev_k4, ev_k5, ev_l0, ev_l1, sh_1, sh_2, sh_3, sh_4, sh_5, at_X11_imbalance_102, at_X11_imbalance_15, at_X11_imbalance_60, at_X11_imbalance_61, at_X11_imbalance_69, at_X11_imbalance_9, at_X11_imbalance_96, ca_X11_121, ca_X11_140, ca_X11_325, ca_X11_332, ca_X11_385, ca_X11_407, ca_X11_433, ca_X11_442, cd_X11_imbalance_0, cd_X11_imbalance_102, cd_X11_imbalance_15, cd_X11_imbalance_60, cd_X11_imbalance_61, cd_X11_imbalance_69, cd_X11_imbalance_9, cd_X11_imbalance_96, fl_X11_9, no_0, no_1, no_lt, no_le, no_eq, no_lt0, no_ge0, no_gt0, no_le0, no_eq0, no_0eq, no_eqm, no_meq, no_m0, no_mlt, no_mge, no_mgt, no_mm, no_i01, no_i10, no_in, no_or, no_ifm, no_mul, nI_add, no_sub, pk_div, iI_if, nI_clamp, oI_n, oI_s, not_true_eq_false, not_false_eq_true, forall_const, true_implies, false_and, and_false, or_false, false_or, Classical.not_not, true_or, or_true, no_b, no_eq1, eq_self, and_self, sk_301, sk_302, sl_302, sp_301, hN'])
            | (with_reducible refine ev_gid ?_; simp (disch := first | omega | assumption) only [ev_run_c, ev_run_n, ev_fj, ev_stp, ev_lk, ev_fv, ev_as, ev_sz, ev_st1, ev_st2, ev_rm, ev_pk, ev_Jof, ev_go, lv_args, List.map_cons, List.map_nil, List.zip_cons_cons, List.zip_nil_left, List.zip_nil_right, List.nil_append, List.cons_append, ↓reduceIte, reduceCtorEq, Int.reduceToNat, Nat.reduceEqDiff, Nat.reduceAdd, Nat.reduceLT, Nat.reduceLeDiff, Nat.reduceMul, Value.category, false_implies, true_and, and_true, Bool.false_eq_true, Option.some.injEq, exists_eq_left', Option.toList_some, Option.toList_none, ev_km, ev_k2, ev_k3, ev_k4, ev_k5, ev_l0, ev_l1, sh_1, sh_2, sh_3, sh_4, sh_5, at_X11_imbalance_102, at_X11_imbalance_15, at_X11_imbalance_60, at_X11_imbalance_61, at_X11_imbalance_69, at_X11_imbalance_9, at_X11_imbalance_96, ca_X11_121, ca_X11_140, ca_X11_325, ca_X11_332, ca_X11_385, ca_X11_407, ca_X11_433, ca_X11_442, cd_X11_imbalance_0, cd_X11_imbalance_102, cd_X11_imbalance_15, cd_X11_imbalance_60, cd_X11_imbalance_61, cd_X11_imbalance_69, cd_X11_imbalance_9, cd_X11_imbalance_96, fl_X11_9, no_0, no_1, no_lt, no_le, no_eq, no_lt0, no_ge0, no_gt0, no_le0, no_eq0, no_0eq, no_eqm, no_meq, no_m0, no_mlt, no_mge, no_mgt, no_mm, no_i01, no_i10, no_in, no_or, no_ifm, no_mul, nI_add, no_sub, pk_div, iI_if, nI_clamp, oI_n, oI_s, not_true_eq_false, not_false_eq_true, forall_const, true_implies, false_and, and_false, or_false, false_or, Classical.not_not, true_or, or_true, no_b, no_eq1, eq_self, and_self, sk_301, sk_302, sl_302, sp_301, hN'])
            | (with_reducible refine And.intro (fun q => ?_) (fun q => ?_) <;> (try simp (disch := first | omega | assumption) only [no_0, no_1, no_lt, no_le, no_eq, no_lt0, no_ge0, no_gt0, no_le0, no_eq0, no_0eq, no_eqm, no_meq, no_m0, no_mlt, no_mge, no_mgt, no_mm, no_i01, no_i10, no_in, no_or, no_ifm, no_mul, nI_add, no_sub, pk_div, iI_if, nI_clamp, oI_n, oI_s, not_true_eq_false, not_false_eq_true, forall_const, true_implies, false_and, and_false, or_false, false_or, Classical.not_not, true_or, or_true, no_b, no_eq1, eq_self, and_self, sk_301, sk_302, sl_302, sp_301, hN'] at q))
            | with_reducible refine ev_ci (m_X11_mayLook hok (by with_reducible assumption) ?_) ?_
            | with_reducible refine ev_ci (m_X11_load hok (by first | with_reducible assumption | exact th_R (by with_reducible assumption) | exact mw_R | exact ms_R) (by with_reducible assumption) ?_) ?_
            | with_reducible refine ev_ci (m_X11_isTasting hok (by first | with_reducible assumption | exact th_R (by with_reducible assumption) | exact mw_R | exact ms_R) ?_ ?_) ?_
            | with_reducible refine ev_ci (m_X11_of hok (by first | with_reducible assumption | exact th_R (by with_reducible assumption) | exact mw_R | exact ms_R) ?_ ?_) ?_
            | with_reducible refine ev_ci (m_X11_one hok _ ?_) ?_
            | with_reducible refine ev_ci (m_X11_troubles hok (by first | with_reducible assumption | exact th_R (by with_reducible assumption) | exact mw_R | exact ms_R) (by with_reducible assumption) ?_ ?_) ?_
            | with_reducible refine ev_ci (m_X11_lacks hok (by first | with_reducible assumption | exact th_R (by with_reducible assumption) | exact mw_R | exact ms_R) (by with_reducible assumption)) ?_
            | omega
            | with_reducible assumption
            | with_reducible rfl
            | refine lpG_nx a (b + 1) 0 ?_ ?_ ?_ ?_
            | exact Nat.add_assoc _ _ _
            | with_reducible refine lp_nx ?_ ?_ ?_ ?_
            | with_reducible refine lp_st ?_ ?_ ?_
            | with_reducible refine ls_c ?_ ?_
            | with_reducible refine vi_c ?_
            | with_reducible refine re_c ?_
            | with_reducible refine vz_c ?_
            | with_reducible refine rz_c ?_
            | exact trivial
            | with_reducible refine And.intro ?_ ?_
            | simp (disch := first | omega | assumption) only [ev_run_c, ev_run_n, ev_fj, ev_stp, ev_lk, ev_fv, ev_as, ev_sz, ev_st1, ev_st2, ev_rm, ev_pk, ev_Jof, ev_go, lv_args, List.map_cons, List.map_nil, List.zip_cons_cons, List.zip_nil_left, List.zip_nil_right, List.nil_append, List.cons_append, ↓reduceIte, reduceCtorEq, Int.reduceToNat, Nat.reduceEqDiff, Nat.reduceAdd, Nat.reduceLT, Nat.reduceLeDiff, Nat.reduceMul, Value.category, false_implies, true_and, and_true, Bool.false_eq_true, Option.some.injEq, exists_eq_left', Option.toList_some, Option.toList_none, ev_km, ev_k2, ev_k3, ev_k4, ev_k5, ev_l0, ev_l1, sh_1, sh_2, sh_3, sh_4, sh_5, at_X11_imbalance_102, at_X11_imbalance_15, at_X11_imbalance_60, at_X11_imbalance_61, at_X11_imbalance_69, at_X11_imbalance_9, at_X11_imbalance_96, ca_X11_121, ca_X11_140, ca_X11_325, ca_X11_332, ca_X11_385, ca_X11_407, ca_X11_433, ca_X11_442, cd_X11_imbalance_0, cd_X11_imbalance_102, cd_X11_imbalance_15, cd_X11_imbalance_60, cd_X11_imbalance_61, cd_X11_imbalance_69, cd_X11_imbalance_9, cd_X11_imbalance_96, fl_X11_9, no_0, no_1, no_lt, no_le, no_eq, no_lt0, no_ge0, no_gt0, no_le0, no_eq0, no_0eq, no_eqm, no_meq, no_m0, no_mlt, no_mge, no_mgt, no_mm, no_i01, no_i10, no_in, no_or, no_ifm, no_mul, nI_add, no_sub, pk_div, iI_if, nI_clamp, oI_n, oI_s, not_true_eq_false, not_false_eq_true, forall_const, true_implies, false_and, and_false, or_false, false_or, Classical.not_not, true_or, or_true, no_b, no_eq1, eq_self, and_self, sk_301, sk_302, sl_302, sp_301, hN']
            | exact rfl
            | (split <;> omega))
        · have e2 : b = N 1 := by omega
          subst e2
          repeat' (first
            | (with_reducible refine ev_rid ?_; simp (disch := first | omega | assumption) only [ev_run_c, ev_run_n, ev_fj, ev_stp, ev_lk, ev_fv, ev_as, ev_sz, ev_st1, ev_st2, ev_rm, ev_pk, ev_Jof, ev_go, lv_args, List.map_cons, List.map_nil, List.zip_cons_cons, List.zip_nil_left, List.zip_nil_right, List.nil_append, List.cons_append, ↓reduceIte, reduceCtorEq, Int.reduceToNat, Nat.reduceEqDiff, Nat.reduceAdd, Nat.reduceLT, Nat.reduceLeDiff, Nat.reduceMul, Value.category, false_implies, true_and, and_true, Bool.false_eq_true, Option.some.injEq, exists_eq_left', Option.toList_some, Option.toList_none, ev_km, ev_k2, ev_k3, ev_k4, ev_k5, ev_l0, ev_l1, sh_1, sh_2, sh_3, sh_4, sh_5, at_X11_imbalance_102, at_X11_imbalance_15, at_X11_imbalance_60, at_X11_imbalance_61, at_X11_imbalance_69, at_X11_imbalance_9, at_X11_imbalance_96, ca_X11_121, ca_X11_140, ca_X11_325, ca_X11_332, ca_X11_385, ca_X11_407, ca_X11_433, ca_X11_442, cd_X11_imbalance_0, cd_X11_imbalance_102, cd_X11_imbalance_15, cd_X11_imbalance_60, cd_X11_imbalance_61, cd_X11_imbalance_69, cd_X11_imbalance_9, cd_X11_imbalance_96, fl_X11_9, no_0, no_1, no_lt, no_le, no_eq, no_lt0, no_ge0, no_gt0, no_le0, no_eq0, no_0eq, no_eqm, no_meq, no_m0, no_mlt, no_mge, no_mgt, no_mm, no_i01, no_i10, no_in, no_or, no_ifm, no_mul, nI_add, no_sub, pk_div, iI_if, nI_clamp, oI_n, oI_s, not_true_eq_false, not_false_eq_true, forall_const, true_implies, false_and, and_false, or_false, false_or, Classical.not_not, true_or, or_true, no_b, no_eq1, eq_self, and_self, sk_301, sk_302, sl_302, sp_301, hN'])
            | (with_reducible refine ev_gid ?_; simp (disch := first | omega | assumption) only [ev_run_c, ev_run_n, ev_fj, ev_stp, ev_lk, ev_fv, ev_as, ev_sz, ev_st1, ev_st2, ev_rm, ev_pk, ev_Jof, ev_go, lv_args, List.map_cons, List.map_nil, List.zip_cons_cons, List.zip_nil_left, List.zip_nil_right, List.nil_append, List.cons_append, ↓reduceIte, reduceCtorEq, Int.reduceToNat, Nat.reduceEqDiff, Nat.reduceAdd, Nat.reduceLT, Nat.reduceLeDiff, Nat.reduceMul, Value.category, false_implies, true_and, and_true, Bool.false_eq_true, Option.some.injEq, exists_eq_left', Option.toList_some, Option.toList_none, ev_km, ev_k2, ev_k3, ev_k4, ev_k5, ev_l0, ev_l1, sh_1, sh_2, sh_3, sh_4, sh_5, at_X11_imbalance_102, at_X11_imbalance_15, at_X11_imbalance_60, at_X11_imbalance_61, at_X11_imbalance_69, at_X11_imbalance_9, at_X11_imbalance_96, ca_X11_121, ca_X11_140, ca_X11_325, ca_X11_332, ca_X11_385, ca_X11_407, ca_X11_433, ca_X11_442, cd_X11_imbalance_0, cd_X11_imbalance_102, cd_X11_imbalance_15, cd_X11_imbalance_60, cd_X11_imbalance_61, cd_X11_imbalance_69, cd_X11_imbalance_9, cd_X11_imbalance_96, fl_X11_9, no_0, no_1, no_lt, no_le, no_eq, no_lt0, no_ge0, no_gt0, no_le0, no_eq0, no_0eq, no_eqm, no_meq, no_m0, no_mlt, no_mge, no_mgt, no_mm, no_i01, no_i10, no_in, no_or, no_ifm, no_mul, nI_add, no_sub, pk_div, iI_if, nI_clamp, oI_n, oI_s, not_true_eq_false, not_false_eq_true, forall_const, true_implies, false_and, and_false, or_false, false_or, Classical.not_not, true_or, or_true, no_b, no_eq1, eq_self, and_self, sk_301, sk_302, sl_302, sp_301, hN'])
            | (with_reducible refine And.intro (fun q => ?_) (fun q => ?_) <;> (try simp (disch := first | omega | assumption) only [no_0, no_1, no_lt, no_le, no_eq, no_lt0, no_ge0, no_gt0, no_le0, no_eq0, no_0eq, no_eqm, no_meq, no_m0, no_mlt, no_mge, no_mgt, no_mm, no_i01, no_i10, no_in, no_or, no_ifm, no_mul, nI_add, no_sub, pk_div, iI_if, nI_clamp, oI_n, oI_s, not_true_eq_false, not_false_eq_true, forall_const, true_implies, false_and, and_false, or_false, false_or, Classical.not_not, true_or, or_true, no_b, no_eq1, eq_self, and_self, sk_301, sk_302, sl_302, sp_301, hN'] at q))
            | with_reducible refine ev_ci (m_X11_mayLook hok (by with_reducible assumption) ?_) ?_
            | with_reducible refine ev_ci (m_X11_load hok (by first | with_reducible assumption | exact th_R (by with_reducible assumption) | exact mw_R | exact ms_R) (by with_reducible assumption) ?_) ?_
            | with_reducible refine ev_ci (m_X11_isTasting hok (by first | with_reducible assumption | exact th_R (by with_reducible assumption) | exact mw_R | exact ms_R) ?_ ?_) ?_
            | with_reducible refine ev_ci (m_X11_of hok (by first | with_reducible assumption | exact th_R (by with_reducible assumption) | exact mw_R | exact ms_R) ?_ ?_) ?_
            | with_reducible refine ev_ci (m_X11_one hok _ ?_) ?_
            | with_reducible refine ev_ci (m_X11_troubles hok (by first | with_reducible assumption | exact th_R (by with_reducible assumption) | exact mw_R | exact ms_R) (by with_reducible assumption) ?_ ?_) ?_
            | with_reducible refine ev_ci (m_X11_lacks hok (by first | with_reducible assumption | exact th_R (by with_reducible assumption) | exact mw_R | exact ms_R) (by with_reducible assumption)) ?_
            | omega
            | with_reducible assumption
            | with_reducible rfl
            | refine lpG_nx (a + 1) 0 0 ?_ ?_ ?_ ?_
            | exact Nat.add_assoc _ _ _
            | with_reducible refine lp_nx ?_ ?_ ?_ ?_
            | with_reducible refine lp_st ?_ ?_ ?_
            | with_reducible refine ls_c ?_ ?_
            | with_reducible refine vi_c ?_
            | with_reducible refine re_c ?_
            | with_reducible refine vz_c ?_
            | with_reducible refine rz_c ?_
            | exact trivial
            | with_reducible refine And.intro ?_ ?_
            | simp (disch := first | omega | assumption) only [ev_run_c, ev_run_n, ev_fj, ev_stp, ev_lk, ev_fv, ev_as, ev_sz, ev_st1, ev_st2, ev_rm, ev_pk, ev_Jof, ev_go, lv_args, List.map_cons, List.map_nil, List.zip_cons_cons, List.zip_nil_left, List.zip_nil_right, List.nil_append, List.cons_append, ↓reduceIte, reduceCtorEq, Int.reduceToNat, Nat.reduceEqDiff, Nat.reduceAdd, Nat.reduceLT, Nat.reduceLeDiff, Nat.reduceMul, Value.category, false_implies, true_and, and_true, Bool.false_eq_true, Option.some.injEq, exists_eq_left', Option.toList_some, Option.toList_none, ev_km, ev_k2, ev_k3, ev_k4, ev_k5, ev_l0, ev_l1, sh_1, sh_2, sh_3, sh_4, sh_5, at_X11_imbalance_102, at_X11_imbalance_15, at_X11_imbalance_60, at_X11_imbalance_61, at_X11_imbalance_69, at_X11_imbalance_9, at_X11_imbalance_96, ca_X11_121, ca_X11_140, ca_X11_325, ca_X11_332, ca_X11_385, ca_X11_407, ca_X11_433, ca_X11_442, cd_X11_imbalance_0, cd_X11_imbalance_102, cd_X11_imbalance_15, cd_X11_imbalance_60, cd_X11_imbalance_61, cd_X11_imbalance_69, cd_X11_imbalance_9, cd_X11_imbalance_96, fl_X11_9, no_0, no_1, no_lt, no_le, no_eq, no_lt0, no_ge0, no_gt0, no_le0, no_eq0, no_0eq, no_eqm, no_meq, no_m0, no_mlt, no_mge, no_mgt, no_mm, no_i01, no_i10, no_in, no_or, no_ifm, no_mul, nI_add, no_sub, pk_div, iI_if, nI_clamp, oI_n, oI_s, not_true_eq_false, not_false_eq_true, forall_const, true_implies, false_and, and_false, or_false, false_or, Classical.not_not, true_or, or_true, no_b, no_eq1, eq_self, and_self, sk_301, sk_302, sl_302, sp_301, hN']
            | exact rfl
            | (split <;> omega))
    · rw [at_X11_imbalance_0]
      repeat' (first
        | (with_reducible refine ev_rid ?_; simp (disch := first | omega | assumption) only [ev_run_c, ev_run_n, ev_fj, ev_stp, ev_lk, ev_fv, ev_as, ev_sz, ev_st1, ev_st2, ev_rm, ev_pk, ev_Jof, ev_go, lv_args, List.map_cons, List.map_nil, List.zip_cons_cons, List.zip_nil_left, List.zip_nil_right, List.nil_append, List.cons_append, ↓reduceIte, reduceCtorEq, Int.reduceToNat, Nat.reduceEqDiff, Nat.reduceAdd, Nat.reduceLT, Nat.reduceLeDiff, Nat.reduceMul, Value.category, false_implies, true_and, and_true, Bool.false_eq_true, Option.some.injEq, exists_eq_left', Option.toList_some, Option.toList_none, ev_km, ev_k2, ev_k3, ev_k4, ev_k5, ev_l0, ev_l1, sh_1, sh_2, sh_3, sh_4, sh_5, at_X11_imbalance_102, at_X11_imbalance_15, at_X11_imbalance_60, at_X11_imbalance_61, at_X11_imbalance_69, at_X11_imbalance_9, at_X11_imbalance_96, ca_X11_121, ca_X11_140, ca_X11_325, ca_X11_332, ca_X11_385, ca_X11_407, ca_X11_433, ca_X11_442, cd_X11_imbalance_0, cd_X11_imbalance_102, cd_X11_imbalance_15, cd_X11_imbalance_60, cd_X11_imbalance_61, cd_X11_imbalance_69, cd_X11_imbalance_9, cd_X11_imbalance_96, fl_X11_9, no_0, no_1, no_lt, no_le, no_eq, no_lt0, no_ge0, no_gt0, no_le0, no_eq0, no_0eq, no_eqm, no_meq, no_m0, no_mlt, no_mge, no_mgt, no_mm, no_i01, no_i10, no_in, no_or, no_ifm, no_mul, nI_add, no_sub, pk_div, iI_if, nI_clamp, oI_n, oI_s, not_true_eq_false, not_false_eq_true, forall_const, true_implies, false_and, and_false, or_false, false_or, Classical.not_not, true_or, or_true, no_b, no_eq1, eq_self, and_self, sk_301, sk_302, sl_302, sp_301, hc])
        | (with_reducible refine ev_gid ?_; simp (disch := first | omega | assumption) only [ev_run_c, ev_run_n, ev_fj, ev_stp, ev_lk, ev_fv, ev_as, ev_sz, ev_st1, ev_st2, ev_rm, ev_pk, ev_Jof, ev_go, lv_args, List.map_cons, List.map_nil, List.zip_cons_cons, List.zip_nil_left, List.zip_nil_right, List.nil_append, List.cons_append, ↓reduceIte, reduceCtorEq, Int.reduceToNat, Nat.reduceEqDiff, Nat.reduceAdd, Nat.reduceLT, Nat.reduceLeDiff, Nat.reduceMul, Value.category, false_implies, true_and, and_true, Bool.false_eq_true, Option.some.injEq, exists_eq_left', Option.toList_some, Option.toList_none, ev_km, ev_k2, ev_k3, ev_k4, ev_k5, ev_l0, ev_l1, sh_1, sh_2, sh_3, sh_4, sh_5, at_X11_imbalance_102, at_X11_imbalance_15, at_X11_imbalance_60, at_X11_imbalance_61, at_X11_imbalance_69, at_X11_imbalance_9, at_X11_imbalance_96, ca_X11_121, ca_X11_140, ca_X11_325, ca_X11_332, ca_X11_385, ca_X11_407, ca_X11_433, ca_X11_442, cd_X11_imbalance_0, cd_X11_imbalance_102, cd_X11_imbalance_15, cd_X11_imbalance_60, cd_X11_imbalance_61, cd_X11_imbalance_69, cd_X11_imbalance_9, cd_X11_imbalance_96, fl_X11_9, no_0, no_1, no_lt, no_le, no_eq, no_lt0, no_ge0, no_gt0, no_le0, no_eq0, no_0eq, no_eqm, no_meq, no_m0, no_mlt, no_mge, no_mgt, no_mm, no_i01, no_i10, no_in, no_or, no_ifm, no_mul, nI_add, no_sub, pk_div, iI_if, nI_clamp, oI_n, oI_s, not_true_eq_false, not_false_eq_true, forall_const, true_implies, false_and, and_false, or_false, false_or, Classical.not_not, true_or, or_true, no_b, no_eq1, eq_self, and_self, sk_301, sk_302, sl_302, sp_301, hc])
        | (with_reducible refine And.intro (fun q => ?_) (fun q => ?_) <;> (try simp (disch := first | omega | assumption) only [no_0, no_1, no_lt, no_le, no_eq, no_lt0, no_ge0, no_gt0, no_le0, no_eq0, no_0eq, no_eqm, no_meq, no_m0, no_mlt, no_mge, no_mgt, no_mm, no_i01, no_i10, no_in, no_or, no_ifm, no_mul, nI_add, no_sub, pk_div, iI_if, nI_clamp, oI_n, oI_s, not_true_eq_false, not_false_eq_true, forall_const, true_implies, false_and, and_false, or_false, false_or, Classical.not_not, true_or, or_true, no_b, no_eq1, eq_self, and_self, sk_301, sk_302, sl_302, sp_301, hc] at q))
        | with_reducible refine ev_ci (m_X11_mayLook hok (by with_reducible assumption) ?_) ?_
        | with_reducible refine ev_ci (m_X11_load hok (by first | with_reducible assumption | exact th_R (by with_reducible assumption) | exact mw_R | exact ms_R) (by with_reducible assumption) ?_) ?_
        | with_reducible refine ev_ci (m_X11_isTasting hok (by first | with_reducible assumption | exact th_R (by with_reducible assumption) | exact mw_R | exact ms_R) ?_ ?_) ?_
        | with_reducible refine ev_ci (m_X11_of hok (by first | with_reducible assumption | exact th_R (by with_reducible assumption) | exact mw_R | exact ms_R) ?_ ?_) ?_
        | with_reducible refine ev_ci (m_X11_one hok _ ?_) ?_
        | with_reducible refine ev_ci (m_X11_troubles hok (by first | with_reducible assumption | exact th_R (by with_reducible assumption) | exact mw_R | exact ms_R) (by with_reducible assumption) ?_ ?_) ?_
        | with_reducible refine ev_ci (m_X11_lacks hok (by first | with_reducible assumption | exact th_R (by with_reducible assumption) | exact mw_R | exact ms_R) (by with_reducible assumption)) ?_
        | omega
        | with_reducible assumption
        | with_reducible rfl
        | refine lpG_st 0 0 0 ?_ ?_ ?_
        | with_reducible refine lp_nx ?_ ?_ ?_ ?_
        | with_reducible refine lp_st ?_ ?_ ?_
        | with_reducible refine ls_c ?_ ?_
        | with_reducible refine vi_c ?_
        | with_reducible refine re_c ?_
        | with_reducible refine vz_c ?_
        | with_reducible refine rz_c ?_
        | exact trivial
        | with_reducible refine And.intro ?_ ?_
        | simp (disch := first | omega | assumption) only [ev_run_c, ev_run_n, ev_fj, ev_stp, ev_lk, ev_fv, ev_as, ev_sz, ev_st1, ev_st2, ev_rm, ev_pk, ev_Jof, ev_go, lv_args, List.map_cons, List.map_nil, List.zip_cons_cons, List.zip_nil_left, List.zip_nil_right, List.nil_append, List.cons_append, ↓reduceIte, reduceCtorEq, Int.reduceToNat, Nat.reduceEqDiff, Nat.reduceAdd, Nat.reduceLT, Nat.reduceLeDiff, Nat.reduceMul, Value.category, false_implies, true_and, and_true, Bool.false_eq_true, Option.some.injEq, exists_eq_left', Option.toList_some, Option.toList_none, ev_km, ev_k2, ev_k3, ev_k4, ev_k5, ev_l0, ev_l1, sh_1, sh_2, sh_3, sh_4, sh_5, at_X11_imbalance_102, at_X11_imbalance_15, at_X11_imbalance_60, at_X11_imbalance_61, at_X11_imbalance_69, at_X11_imbalance_9, at_X11_imbalance_96, ca_X11_121, ca_X11_140, ca_X11_325, ca_X11_332, ca_X11_385, ca_X11_407, ca_X11_433, ca_X11_442, cd_X11_imbalance_0, cd_X11_imbalance_102, cd_X11_imbalance_15, cd_X11_imbalance_60, cd_X11_imbalance_61, cd_X11_imbalance_69, cd_X11_imbalance_9, cd_X11_imbalance_96, fl_X11_9, no_0, no_1, no_lt, no_le, no_eq, no_lt0, no_ge0, no_gt0, no_le0, no_eq0, no_0eq, no_eqm, no_meq, no_m0, no_mlt, no_mge, no_mgt, no_mm, no_i01, no_i10, no_in, no_or, no_ifm, no_mul, nI_add, no_sub, pk_div, iI_if, nI_clamp, oI_n, oI_s, not_true_eq_false, not_false_eq_true, forall_const, true_implies, false_and, and_false, or_false, false_or, Classical.not_not, true_or, or_true, no_b, no_eq1, eq_self, and_self, sk_301, sk_302, sl_302, sp_301, hc]
        | exact rfl
        | (split <;> omega))
end MFace4
