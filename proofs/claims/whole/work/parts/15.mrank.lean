/-! ===== the reference: totals, spreads, ranks ===== -/
section MRank
variable {G : ev_G} {N : Nat → Nat} {μ : ev_M}
theorem iI_leN {a : Int} {b : Nat} (ha : -2147483648 ≤ a ∧ a < 2147483648) (hb : b < 2 ^ 31) : (iI a ≤ nI b) = (a ≤ (b : Int)) := by rw [← iI_n]; exact iI_le ha (by omega)
theorem iI_ltN {a : Int} {b : Nat} (ha : -2147483648 ≤ a ∧ a < 2147483648) (hb : b < 2 ^ 31) : (iI a < nI b) = (a < (b : Int)) := by rw [← iI_n]; exact iI_lt ha (by omega)
theorem iN_le {a : Nat} {b : Int} (ha : a < 2 ^ 31) (hb : -2147483648 ≤ b ∧ b < 2147483648) : (nI a ≤ iI b) = ((a : Int) ≤ b) := by rw [← iI_n]; exact iI_le (by omega) hb
theorem iN_lt {a : Nat} {b : Int} (ha : a < 2 ^ 31) (hb : -2147483648 ≤ b ∧ b < 2147483648) : (nI a < iI b) = ((a : Int) < b) := by rw [← iI_n]; exact iI_lt (by omega) hb
theorem sm_pos {f : Nat → Nat} {n k : Nat} (hk : k < n) (h : 0 < f k) : 0 < sm f n := by
  induction n with
  | zero => omega
  | succ n ih =>
    unfold sm
    rcases Nat.lt_or_ge k n with h1 | h1
    · have := ih h1; omega
    · have : k = n := by omega
      subst this; omega
theorem sc_lt (hI : INV N) {i q : Nat} (hi : i < 16) (hq : q < 10) (h : ¬ N (8 + 59 * i + (23 + q)) = 0) : i < N 0 ∧ q < N 1 := by
  constructor
  · rcases Nat.lt_or_ge i (N 0) with h1 | h1
    · exact h1
    · exact absurd (iv_z1 hI i (23 + q) h1 hi (by omega)) h
  · rcases Nat.lt_or_ge q (N 1) with h1 | h1
    · exact h1
    · exact absurd (iv_z3 hI i q hi h1 hq).2.1 h
theorem scb_pos (hI : INV N) {i q : Nat} (hi : i < 16) (hq : q < 10) (h : ¬ N (8 + 59 * i + (23 + q)) = 0) : 0 < scb N i (N 1) :=
  sm_pos (sc_lt hI hi hq h).2 (by show 0 < if N (8 + 59 * i + (23 + q)) = 0 then 0 else 1; rw [if_neg h]; omega)
theorem asc_pos (hI : INV N) {i q : Nat} (hi : i < 16) (hq : q < 10) (h : ¬ N (8 + 59 * i + (23 + q)) = 0) : 0 < asc N (N 0) :=
  sm_pos (sc_lt hI hi hq h).1 (scb_pos hI hi hq h)
theorem scs_pos (hI : INV N) {i q : Nat} (hi : i < 16) (hq : q < 10) (h : ¬ N (8 + 59 * i + (23 + q)) = 0) : 0 < scs N q (N 0) :=
  sm_pos (sc_lt hI hi hq h).1 (by show 0 < if N (8 + 59 * i + (23 + q)) = 0 then 0 else 1; rw [if_neg h]; omega)
def ads (N : Nat → Nat) (q : Nat) : Nat → Int := smI (fun i => if N (8 + 59 * i + (23 + q)) = 0 then 0 else adj N i q)
theorem ads_le (hI : INV N) {q n : Nat} (hq : q < 10) (hn : n ≤ 16) : -3200000 ≤ ads N q n ∧ ads N q n ≤ 3200000 := by
  have := smI_le (f := fun i => if N (8 + 59 * i + (23 + q)) = 0 then 0 else adj N i q) (B := 200000) n (fun k hk => by
    have := adj_le hI (i := k) (q := q) (by omega) hq
    (try dsimp only)
    split <;> omega)
  unfold ads
  omega
theorem ads_y {q k : Nat} (h : ¬ N (8 + 59 * k + (23 + q)) = 0) : ads N q k + adj N k q = ads N q (k + 1) := by
  show _ = ads N q k + (if N (8 + 59 * k + (23 + q)) = 0 then 0 else adj N k q)
  rw [if_neg h]
theorem ads_n {q k : Nat} (h : N (8 + 59 * k + (23 + q)) = 0) : ads N q k = ads N q (k + 1) := by
  show _ = ads N q k + (if N (8 + 59 * k + (23 + q)) = 0 then 0 else adj N k q)
  rw [if_pos h, Int.add_zero]
def tot (N : Nat → Nat) (q : Nat) : Int := if scs N q (N 0) = 0 then 0 else (ads N q (N 0)).tdiv (scs N q (N 0))
theorem tot_le (hI : INV N) {q : Nat} (hq : q < 10) : -3200000 ≤ tot N q ∧ tot N q ≤ 3200000 := by
  have h1 := ads_le hI hq (iv_h hI).1
  have h2 : ((ads N q (N 0)).tdiv (scs N q (N 0))).natAbs ≤ (ads N q (N 0)).natAbs := Int.natAbs_tdiv_le_natAbs _ _
  unfold tot
  split <;> omega
theorem if_n0 {c : Prop} [Decidable c] {b : Int} (h : c) : Value.int (nI 0) = Value.int (iI (if c then 0 else b)) := by rw [if_pos h]; rfl
theorem re_n0 {c : Prop} [Decidable c] {b : Int} {μ : ev_M} (h : c) : (Sum.inl (some (Value.int (nI 0)), μ) : ev_R) = Sum.inl (some (Value.int (iI (if c then 0 else b))), μ) := by rw [if_pos h]; rfl
set_option maxHeartbeats 2000000 in
theorem m_X11_total (hok : ev_ok sh_S G) (hN : MR N μ) (hI : INV N) {q : Nat} (hq : q < 10) : ev_T sh_S G mi_X11_total [.ref 301, .int (nI q)] μ (.inl (some (.int (iI (tot N q))), μ)) := by
  have hh := iv_h hI
  have hN' : ∀ k, k < 1042 → μ.1 302 k = nI (N k) := hN
  have h2 := scs_le N q (N 0)
  have hr := ads_le hI hq (Nat.le_refl 16)
  refine ev_tri1 hok (okM_X11_total 0) (Nat.le_of_ble_eq_true rfl) 11 [0, 1, 2, 3, 4] (N 0) 400 (fun k => [.ref 301, .int (nI q), .int (nI (scs N q (N 0))), .int (iI (ads N q k)), .int (nI k)]) (fun _ => μ) (fun _ => True) ?_ ?_
  · intro k hk _
    rw [at_X11_total_11]
    have hr := ads_le hI hq (show k ≤ 16 by omega)
    rcases Nat.lt_or_ge k (N 0) with hkn | hkn
    · have h1 := iv_pq hI k q (by omega) hq
      repeat' (first
        | (with_reducible refine ev_rid ?_; simp (disch := first | omega | assumption) only [ev_run_c, ev_run_n, ev_fj, ev_stp, ev_lk, ev_fv, ev_as, ev_sz, ev_st1, ev_st2, ev_rm, ev_pk, ev_Jof, ev_go, lv_args, List.map_cons, List.map_nil, List.zip_cons_cons, List.zip_nil_left, List.zip_nil_right, List.nil_append, List.cons_append, ↓reduceIte, reduceCtorEq, Int.reduceToNat, Nat.reduceEqDiff, Nat.reduceAdd, Nat.reduceLT, Nat.reduceLeDiff, Nat.reduceMul, Value.category, false_implies, true_and, and_true, Bool.false_eq_true, Option.some.injEq, exists_eq_left', Option.toList_some, Option.toList_none, ev_km, ev_k2, ev_k3, ev_k4, ev_k5, ev_l0, ev_l1, sh_1, sh_2, sh_3, sh_4, sh_5, at_X11_total_11, at_X11_total_42, at_X11_total_48, at_X11_total_56, at_X11_total_59, ca_X11_189, ca_X11_201, ca_X11_371, cd_X11_total_0, cd_X11_total_11, cd_X11_total_42, cd_X11_total_48, cd_X11_total_56, cd_X11_total_59, fl_X11_9, no_0, no_1, no_lt, no_le, no_eq, no_lt0, no_ge0, no_gt0, no_le0, no_eq0, no_0eq, no_eqm, no_meq, no_m0, no_mlt, no_mge, no_mgt, no_mm, no_i01, no_i10, no_in, no_or, no_ifm, no_mul, nI_add, no_sub, pk_div, iI_if, nI_clamp, oI_n, oI_s, not_true_eq_false, not_false_eq_true, forall_const, true_implies, false_and, and_false, or_false, false_or, Classical.not_not, true_or, or_true, no_b, no_eq1, eq_self, and_self, sk_301, sk_302, sl_302, sp_301, hN', iI_add])
        | (with_reducible refine ev_gid ?_; simp (disch := first | omega | assumption) only [ev_run_c, ev_run_n, ev_fj, ev_stp, ev_lk, ev_fv, ev_as, ev_sz, ev_st1, ev_st2, ev_rm, ev_pk, ev_Jof, ev_go, lv_args, List.map_cons, List.map_nil, List.zip_cons_cons, List.zip_nil_left, List.zip_nil_right, List.nil_append, List.cons_append, ↓reduceIte, reduceCtorEq, Int.reduceToNat, Nat.reduceEqDiff, Nat.reduceAdd, Nat.reduceLT, Nat.reduceLeDiff, Nat.reduceMul, Value.category, false_implies, true_and, and_true, Bool.false_eq_true, Option.some.injEq, exists_eq_left', Option.toList_some, Option.toList_none, ev_km, ev_k2, ev_k3, ev_k4, ev_k5, ev_l0, ev_l1, sh_1, sh_2, sh_3, sh_4, sh_5, at_X11_total_11, at_X11_total_42, at_X11_total_48, at_X11_total_56, at_X11_total_59, ca_X11_189, ca_X11_201, ca_X11_371, cd_X11_total_0, cd_X11_total_11, cd_X11_total_42, cd_X11_total_48, cd_X11_total_56, cd_X11_total_59, fl_X11_9, no_0, no_1, no_lt, no_le, no_eq, no_lt0, no_ge0, no_gt0, no_le0, no_eq0, no_0eq, no_eqm, no_meq, no_m0, no_mlt, no_mge, no_mgt, no_mm, no_i01, no_i10, no_in, no_or, no_ifm, no_mul, nI_add, no_sub, pk_div, iI_if, nI_clamp, oI_n, oI_s, not_true_eq_false, not_false_eq_true, forall_const, true_implies, false_and, and_false, or_false, false_or, Classical.not_not, true_or, or_true, no_b, no_eq1, eq_self, and_self, sk_301, sk_302, sl_302, sp_301, hN', iI_add])
        | (with_reducible refine And.intro (fun q => ?_) (fun q => ?_) <;> (try simp (disch := first | omega | assumption) only [no_0, no_1, no_lt, no_le, no_eq, no_lt0, no_ge0, no_gt0, no_le0, no_eq0, no_0eq, no_eqm, no_meq, no_m0, no_mlt, no_mge, no_mgt, no_mm, no_i01, no_i10, no_in, no_or, no_ifm, no_mul, nI_add, no_sub, pk_div, iI_if, nI_clamp, oI_n, oI_s, not_true_eq_false, not_false_eq_true, forall_const, true_implies, false_and, and_false, or_false, false_or, Classical.not_not, true_or, or_true, no_b, no_eq1, eq_self, and_self, sk_301, sk_302, sl_302, sp_301, hN', iI_add] at q))
        | with_reducible refine ev_ci (m_X11_scores hok (by assumption) (by assumption) ?_) ?_
        | with_reducible refine ev_ci (m_X11_isScored hok (by assumption) (by assumption) ?_ ?_) ?_
        | with_reducible refine ev_ci (m_X11_adjusted hok (by assumption) (by assumption) ?_ ?_ ?_ ?_) ?_
        | omega
        | assumption
        | with_reducible rfl
        | exact ads_y ‹_›
        | exact ads_n ‹_›
        | exact scb_pos hI (by omega) hq ‹_›
        | exact asc_pos hI (i := k) (by omega) hq ‹_›
        | with_reducible refine lp_nx ?_ ?_ ?_ ?_
        | with_reducible refine lp_st ?_ ?_ ?_
        | with_reducible refine ls_c ?_ ?_
        | with_reducible refine vi_c ?_
        | with_reducible refine re_c ?_
        | with_reducible refine vz_c ?_
        | with_reducible refine rz_c ?_
        | exact trivial
        | with_reducible refine And.intro ?_ ?_
        | simp (disch := first | omega | assumption) only [ev_run_c, ev_run_n, ev_fj, ev_stp, ev_lk, ev_fv, ev_as, ev_sz, ev_st1, ev_st2, ev_rm, ev_pk, ev_Jof, ev_go, lv_args, List.map_cons, List.map_nil, List.zip_cons_cons, List.zip_nil_left, List.zip_nil_right, List.nil_append, List.cons_append, ↓reduceIte, reduceCtorEq, Int.reduceToNat, Nat.reduceEqDiff, Nat.reduceAdd, Nat.reduceLT, Nat.reduceLeDiff, Nat.reduceMul, Value.category, false_implies, true_and, and_true, Bool.false_eq_true, Option.some.injEq, exists_eq_left', Option.toList_some, Option.toList_none, ev_km, ev_k2, ev_k3, ev_k4, ev_k5, ev_l0, ev_l1, sh_1, sh_2, sh_3, sh_4, sh_5, at_X11_total_11, at_X11_total_42, at_X11_total_48, at_X11_total_56, at_X11_total_59, ca_X11_189, ca_X11_201, ca_X11_371, cd_X11_total_0, cd_X11_total_11, cd_X11_total_42, cd_X11_total_48, cd_X11_total_56, cd_X11_total_59, fl_X11_9, no_0, no_1, no_lt, no_le, no_eq, no_lt0, no_ge0, no_gt0, no_le0, no_eq0, no_0eq, no_eqm, no_meq, no_m0, no_mlt, no_mge, no_mgt, no_mm, no_i01, no_i10, no_in, no_or, no_ifm, no_mul, nI_add, no_sub, pk_div, iI_if, nI_clamp, oI_n, oI_s, not_true_eq_false, not_false_eq_true, forall_const, true_implies, false_and, and_false, or_false, false_or, Classical.not_not, true_or, or_true, no_b, no_eq1, eq_self, and_self, sk_301, sk_302, sl_302, sp_301, hN', iI_add]
        | exact rfl
        | (split <;> omega))
    · have hkn : N 0 = k := by omega
      subst hkn
      repeat' (first
        | (with_reducible refine ev_rid ?_; simp (disch := first | omega | assumption) only [ev_run_c, ev_run_n, ev_fj, ev_stp, ev_lk, ev_fv, ev_as, ev_sz, ev_st1, ev_st2, ev_rm, ev_pk, ev_Jof, ev_go, lv_args, List.map_cons, List.map_nil, List.zip_cons_cons, List.zip_nil_left, List.zip_nil_right, List.nil_append, List.cons_append, ↓reduceIte, reduceCtorEq, Int.reduceToNat, Nat.reduceEqDiff, Nat.reduceAdd, Nat.reduceLT, Nat.reduceLeDiff, Nat.reduceMul, Value.category, false_implies, true_and, and_true, Bool.false_eq_true, Option.some.injEq, exists_eq_left', Option.toList_some, Option.toList_none, ev_km, ev_k2, ev_k3, ev_k4, ev_k5, ev_l0, ev_l1, sh_1, sh_2, sh_3, sh_4, sh_5, at_X11_total_11, at_X11_total_42, at_X11_total_48, at_X11_total_56, at_X11_total_59, ca_X11_189, ca_X11_201, ca_X11_371, cd_X11_total_0, cd_X11_total_11, cd_X11_total_42, cd_X11_total_48, cd_X11_total_56, cd_X11_total_59, fl_X11_9, no_0, no_1, no_lt, no_le, no_eq, no_lt0, no_ge0, no_gt0, no_le0, no_eq0, no_0eq, no_eqm, no_meq, no_m0, no_mlt, no_mge, no_mgt, no_mm, no_i01, no_i10, no_in, no_or, no_ifm, no_mul, nI_add, no_sub, pk_div, iI_if, nI_clamp, oI_n, oI_s, not_true_eq_false, not_false_eq_true, forall_const, true_implies, false_and, and_false, or_false, false_or, Classical.not_not, true_or, or_true, no_b, no_eq1, eq_self, and_self, sk_301, sk_302, sl_302, sp_301, hN', iI_div])
        | (with_reducible refine ev_gid ?_; simp (disch := first | omega | assumption) only [ev_run_c, ev_run_n, ev_fj, ev_stp, ev_lk, ev_fv, ev_as, ev_sz, ev_st1, ev_st2, ev_rm, ev_pk, ev_Jof, ev_go, lv_args, List.map_cons, List.map_nil, List.zip_cons_cons, List.zip_nil_left, List.zip_nil_right, List.nil_append, List.cons_append, ↓reduceIte, reduceCtorEq, Int.reduceToNat, Nat.reduceEqDiff, Nat.reduceAdd, Nat.reduceLT, Nat.reduceLeDiff, Nat.reduceMul, Value.category, false_implies, true_and, and_true, Bool.false_eq_true, Option.some.injEq, exists_eq_left', Option.toList_some, Option.toList_none, ev_km, ev_k2, ev_k3, ev_k4, ev_k5, ev_l0, ev_l1, sh_1, sh_2, sh_3, sh_4, sh_5, at_X11_total_11, at_X11_total_42, at_X11_total_48, at_X11_total_56, at_X11_total_59, ca_X11_189, ca_X11_201, ca_X11_371, cd_X11_total_0, cd_X11_total_11, cd_X11_total_42, cd_X11_total_48, cd_X11_total_56, cd_X11_total_59, fl_X11_9, no_0, no_1, no_lt, no_le, no_eq, no_lt0, no_ge0, no_gt0, no_le0, no_eq0, no_0eq, no_eqm, no_meq, no_m0, no_mlt, no_mge, no_mgt, no_mm, no_i01, no_i10, no_in, no_or, no_ifm, no_mul, nI_add, no_sub, pk_div, iI_if, nI_clamp, oI_n, oI_s, not_true_eq_false, not_false_eq_true, forall_const, true_implies, false_and, and_false, or_false, false_or, Classical.not_not, true_or, or_true, no_b, no_eq1, eq_self, and_self, sk_301, sk_302, sl_302, sp_301, hN', iI_div])
        | (with_reducible refine And.intro (fun q => ?_) (fun q => ?_) <;> (try simp (disch := first | omega | assumption) only [no_0, no_1, no_lt, no_le, no_eq, no_lt0, no_ge0, no_gt0, no_le0, no_eq0, no_0eq, no_eqm, no_meq, no_m0, no_mlt, no_mge, no_mgt, no_mm, no_i01, no_i10, no_in, no_or, no_ifm, no_mul, nI_add, no_sub, pk_div, iI_if, nI_clamp, oI_n, oI_s, not_true_eq_false, not_false_eq_true, forall_const, true_implies, false_and, and_false, or_false, false_or, Classical.not_not, true_or, or_true, no_b, no_eq1, eq_self, and_self, sk_301, sk_302, sl_302, sp_301, hN', iI_div] at q))
        | with_reducible refine ev_ci (m_X11_scores hok (by assumption) (by assumption) ?_) ?_
        | with_reducible refine ev_ci (m_X11_isScored hok (by assumption) (by assumption) ?_ ?_) ?_
        | with_reducible refine ev_ci (m_X11_adjusted hok (by assumption) (by assumption) ?_ ?_ ?_ ?_) ?_
        | omega
        | assumption
        | with_reducible rfl
        | exact (re_n0 ‹_›).symm
        | exact if_neg ‹_›
        | with_reducible refine lp_nx ?_ ?_ ?_ ?_
        | with_reducible refine lp_st ?_ ?_ ?_
        | with_reducible refine ls_c ?_ ?_
        | with_reducible refine vi_c ?_
        | with_reducible refine re_c ?_
        | with_reducible refine vz_c ?_
        | with_reducible refine rz_c ?_
        | exact trivial
        | with_reducible refine And.intro ?_ ?_
        | simp (disch := first | omega | assumption) only [ev_run_c, ev_run_n, ev_fj, ev_stp, ev_lk, ev_fv, ev_as, ev_sz, ev_st1, ev_st2, ev_rm, ev_pk, ev_Jof, ev_go, lv_args, List.map_cons, List.map_nil, List.zip_cons_cons, List.zip_nil_left, List.zip_nil_right, List.nil_append, List.cons_append, ↓reduceIte, reduceCtorEq, Int.reduceToNat, Nat.reduceEqDiff, Nat.reduceAdd, Nat.reduceLT, Nat.reduceLeDiff, Nat.reduceMul, Value.category, false_implies, true_and, and_true, Bool.false_eq_true, Option.some.injEq, exists_eq_left', Option.toList_some, Option.toList_none, ev_km, ev_k2, ev_k3, ev_k4, ev_k5, ev_l0, ev_l1, sh_1, sh_2, sh_3, sh_4, sh_5, at_X11_total_11, at_X11_total_42, at_X11_total_48, at_X11_total_56, at_X11_total_59, ca_X11_189, ca_X11_201, ca_X11_371, cd_X11_total_0, cd_X11_total_11, cd_X11_total_42, cd_X11_total_48, cd_X11_total_56, cd_X11_total_59, fl_X11_9, no_0, no_1, no_lt, no_le, no_eq, no_lt0, no_ge0, no_gt0, no_le0, no_eq0, no_0eq, no_eqm, no_meq, no_m0, no_mlt, no_mge, no_mgt, no_mm, no_i01, no_i10, no_in, no_or, no_ifm, no_mul, nI_add, no_sub, pk_div, iI_if, nI_clamp, oI_n, oI_s, not_true_eq_false, not_false_eq_true, forall_const, true_implies, false_and, and_false, or_false, false_or, Classical.not_not, true_or, or_true, no_b, no_eq1, eq_self, and_self, sk_301, sk_302, sl_302, sp_301, hN', iI_div]
        | exact rfl
        | (split <;> omega))
  · rw [at_X11_total_0]
    repeat' (first
      | (with_reducible refine ev_rid ?_; simp (disch := first | omega | assumption) only [ev_run_c, ev_run_n, ev_fj, ev_stp, ev_lk, ev_fv, ev_as, ev_sz, ev_st1, ev_st2, ev_rm, ev_pk, ev_Jof, ev_go, lv_args, List.map_cons, List.map_nil, List.zip_cons_cons, List.zip_nil_left, List.zip_nil_right, List.nil_append, List.cons_append, ↓reduceIte, reduceCtorEq, Int.reduceToNat, Nat.reduceEqDiff, Nat.reduceAdd, Nat.reduceLT, Nat.reduceLeDiff, Nat.reduceMul, Value.category, false_implies, true_and, and_true, Bool.false_eq_true, Option.some.injEq, exists_eq_left', Option.toList_some, Option.toList_none, ev_km, ev_k2, ev_k3, ev_k4, ev_k5, ev_l0, ev_l1, sh_1, sh_2, sh_3, sh_4, sh_5, at_X11_total_11, at_X11_total_42, at_X11_total_48, at_X11_total_56, at_X11_total_59, ca_X11_189, ca_X11_201, ca_X11_371, cd_X11_total_0, cd_X11_total_11, cd_X11_total_42, cd_X11_total_48, cd_X11_total_56, cd_X11_total_59, fl_X11_9, no_0, no_1, no_lt, no_le, no_eq, no_lt0, no_ge0, no_gt0, no_le0, no_eq0, no_0eq, no_eqm, no_meq, no_m0, no_mlt, no_mge, no_mgt, no_mm, no_i01, no_i10, no_in, no_or, no_ifm, no_mul, nI_add, no_sub, pk_div, iI_if, nI_clamp, oI_n, oI_s, not_true_eq_false, not_false_eq_true, forall_const, true_implies, false_and, and_false, or_false, false_or, Classical.not_not, true_or, or_true, no_b, no_eq1, eq_self, and_self, sk_301, sk_302, sl_302, sp_301])
      | (with_reducible refine ev_gid ?_; simp (disch := first | omega | assumption) only [ev_run_c, ev_run_n, ev_fj, ev_stp, ev_lk, ev_fv, ev_as, ev_sz, ev_st1, ev_st2, ev_rm, ev_pk, ev_Jof, ev_go, lv_args, List.map_cons, List.map_nil, List.zip_cons_cons, List.zip_nil_left, List.zip_nil_right, List.nil_append, List.cons_append, ↓reduceIte, reduceCtorEq, Int.reduceToNat, Nat.reduceEqDiff, Nat.reduceAdd, Nat.reduceLT, Nat.reduceLeDiff, Nat.reduceMul, Value.category, false_implies, true_and, and_true, Bool.false_eq_true, Option.some.injEq, exists_eq_left', Option.toList_some, Option.toList_none, ev_km, ev_k2, ev_k3, ev_k4, ev_k5, ev_l0, ev_l1, sh_1, sh_2, sh_3, sh_4, sh_5, at_X11_total_11, at_X11_total_42, at_X11_total_48, at_X11_total_56, at_X11_total_59, ca_X11_189, ca_X11_201, ca_X11_371, cd_X11_total_0, cd_X11_total_11, cd_X11_total_42, cd_X11_total_48, cd_X11_total_56, cd_X11_total_59, fl_X11_9, no_0, no_1, no_lt, no_le, no_eq, no_lt0, no_ge0, no_gt0, no_le0, no_eq0, no_0eq, no_eqm, no_meq, no_m0, no_mlt, no_mge, no_mgt, no_mm, no_i01, no_i10, no_in, no_or, no_ifm, no_mul, nI_add, no_sub, pk_div, iI_if, nI_clamp, oI_n, oI_s, not_true_eq_false, not_false_eq_true, forall_const, true_implies, false_and, and_false, or_false, false_or, Classical.not_not, true_or, or_true, no_b, no_eq1, eq_self, and_self, sk_301, sk_302, sl_302, sp_301])
      | (with_reducible refine And.intro (fun q => ?_) (fun q => ?_) <;> (try simp (disch := first | omega | assumption) only [no_0, no_1, no_lt, no_le, no_eq, no_lt0, no_ge0, no_gt0, no_le0, no_eq0, no_0eq, no_eqm, no_meq, no_m0, no_mlt, no_mge, no_mgt, no_mm, no_i01, no_i10, no_in, no_or, no_ifm, no_mul, nI_add, no_sub, pk_div, iI_if, nI_clamp, oI_n, oI_s, not_true_eq_false, not_false_eq_true, forall_const, true_implies, false_and, and_false, or_false, false_or, Classical.not_not, true_or, or_true, no_b, no_eq1, eq_self, and_self, sk_301, sk_302, sl_302, sp_301] at q))
      | with_reducible refine ev_ci (m_X11_scores hok (by assumption) (by assumption) ?_) ?_
      | with_reducible refine ev_ci (m_X11_isScored hok (by assumption) (by assumption) ?_ ?_) ?_
      | with_reducible refine ev_ci (m_X11_adjusted hok (by assumption) (by assumption) ?_ ?_ ?_ ?_) ?_
      | omega
      | assumption
      | with_reducible rfl
      | with_reducible refine lp_nx ?_ ?_ ?_ ?_
      | with_reducible refine lp_st ?_ ?_ ?_
      | with_reducible refine ls_c ?_ ?_
      | with_reducible refine vi_c ?_
      | with_reducible refine re_c ?_
      | with_reducible refine vz_c ?_
      | with_reducible refine rz_c ?_
      | exact trivial
      | with_reducible refine And.intro ?_ ?_
      | simp (disch := first | omega | assumption) only [ev_run_c, ev_run_n, ev_fj, ev_stp, ev_lk, ev_fv, ev_as, ev_sz, ev_st1, ev_st2, ev_rm, ev_pk, ev_Jof, ev_go, lv_args, List.map_cons, List.map_nil, List.zip_cons_cons, List.zip_nil_left, List.zip_nil_right, List.nil_append, List.cons_append, ↓reduceIte, reduceCtorEq, Int.reduceToNat, Nat.reduceEqDiff, Nat.reduceAdd, Nat.reduceLT, Nat.reduceLeDiff, Nat.reduceMul, Value.category, false_implies, true_and, and_true, Bool.false_eq_true, Option.some.injEq, exists_eq_left', Option.toList_some, Option.toList_none, ev_km, ev_k2, ev_k3, ev_k4, ev_k5, ev_l0, ev_l1, sh_1, sh_2, sh_3, sh_4, sh_5, at_X11_total_11, at_X11_total_42, at_X11_total_48, at_X11_total_56, at_X11_total_59, ca_X11_189, ca_X11_201, ca_X11_371, cd_X11_total_0, cd_X11_total_11, cd_X11_total_42, cd_X11_total_48, cd_X11_total_56, cd_X11_total_59, fl_X11_9, no_0, no_1, no_lt, no_le, no_eq, no_lt0, no_ge0, no_gt0, no_le0, no_eq0, no_0eq, no_eqm, no_meq, no_m0, no_mlt, no_mge, no_mgt, no_mm, no_i01, no_i10, no_in, no_or, no_ifm, no_mul, nI_add, no_sub, pk_div, iI_if, nI_clamp, oI_n, oI_s, not_true_eq_false, not_false_eq_true, forall_const, true_implies, false_and, and_false, or_false, false_or, Classical.not_not, true_or, or_true, no_b, no_eq1, eq_self, and_self, sk_301, sk_302, sl_302, sp_301]
      | exact rfl
      | (split <;> omega))
/-- an adjusted score's number, least and greatest -/
def spr (N : Nat → Nat) (q : Nat) : Nat → Nat × Int × Int
  | 0 => (0, 0, 0)
  | n + 1 => if N (8 + 59 * n + (23 + q)) = 0 then spr N q n else ((spr N q n).1 + 1, (if (spr N q n).1 = 0 then adj N n q else if adj N n q < (spr N q n).2.1 then adj N n q else (spr N q n).2.1), (if (spr N q n).1 = 0 then adj N n q else if (spr N q n).2.2 < adj N n q then adj N n q else (spr N q n).2.2))
theorem spr_y {q k : Nat} (h : ¬ N (8 + 59 * k + (23 + q)) = 0) : spr N q (k + 1) = ((spr N q k).1 + 1, (if (spr N q k).1 = 0 then adj N k q else if adj N k q < (spr N q k).2.1 then adj N k q else (spr N q k).2.1), (if (spr N q k).1 = 0 then adj N k q else if (spr N q k).2.2 < adj N k q then adj N k q else (spr N q k).2.2)) := by
  show (if N (8 + 59 * k + (23 + q)) = 0 then _ else _) = _
  rw [if_neg h]
theorem spr_n {q k : Nat} (h : N (8 + 59 * k + (23 + q)) = 0) : spr N q (k + 1) = spr N q k := by
  show (if N (8 + 59 * k + (23 + q)) = 0 then _ else _) = _
  rw [if_pos h]
theorem spr_le (hI : INV N) {q n : Nat} (hq : q < 10) (hn : n ≤ 16) : (spr N q n).1 ≤ n ∧ -200000 ≤ (spr N q n).2.1 ∧ (spr N q n).2.1 ≤ 200000 ∧ -200000 ≤ (spr N q n).2.2 ∧ (spr N q n).2.2 ≤ 200000 := by
  induction n with
  | zero => simp [spr]
  | succ n ih =>
    have h1 := ih (by omega)
    have h2 := adj_le hI (i := n) (q := q) (by omega) hq
    by_cases h : N (8 + 59 * n + (23 + q)) = 0
    · rw [spr_n h]; omega
    · rw [spr_y h]
      dsimp only
      refine ⟨by omega, ?_, ?_, ?_, ?_⟩ <;> (repeat' split) <;> omega
def spd (N : Nat → Nat) (q : Nat) : Int := (spr N q (N 0)).2.2 - (spr N q (N 0)).2.1
theorem spd_le (hI : INV N) {q : Nat} (hq : q < 10) : -400000 ≤ spd N q ∧ spd N q ≤ 400000 := by
  have := spr_le hI hq (iv_h hI).1
  unfold spd
  omega
set_option maxHeartbeats 2000000 in
theorem m_X11_spread (hok : ev_ok sh_S G) (hN : MR N μ) (hI : INV N) {q : Nat} (hq : q < 10) : ev_T sh_S G mi_X11_spread [.ref 301, .int (nI q)] μ (.inl (some (.int (iI (spd N q))), μ)) := by
  have hh := iv_h hI
  have hN' : ∀ k, k < 1042 → μ.1 302 k = nI (N k) := hN
  refine ev_tri1 hok (okM_X11_spread 0) (Nat.le_of_ble_eq_true rfl) 10 [0, 1, 2, 3, 4, 5] (N 0) 400 (fun k => [.ref 301, .int (nI q), .int (nI (spr N q k).1), .int (iI (spr N q k).2.1), .int (iI (spr N q k).2.2), .int (nI k)]) (fun _ => μ) (fun _ => True) ?_ ?_
  · intro k hk _
    rw [at_X11_spread_10]
    have hr := spr_le hI hq (show k ≤ 16 by omega)
    rcases Nat.lt_or_ge k (N 0) with hkn | hkn
    · have h1 := iv_pq hI k q (by omega) hq
      have h2 := adj_le hI (i := k) (q := q) (by omega) hq
      by_cases h : N (8 + 59 * k + (23 + q)) = 0
      · repeat' (first
          | (with_reducible refine ev_rid ?_; simp (disch := first | omega | assumption) only [ev_run_c, ev_run_n, ev_fj, ev_stp, ev_lk, ev_fv, ev_as, ev_sz, ev_st1, ev_st2, ev_rm, ev_pk, ev_Jof, ev_go, lv_args, List.map_cons, List.map_nil, List.zip_cons_cons, List.zip_nil_left, List.zip_nil_right, List.nil_append, List.cons_append, ↓reduceIte, reduceCtorEq, Int.reduceToNat, Nat.reduceEqDiff, Nat.reduceAdd, Nat.reduceLT, Nat.reduceLeDiff, Nat.reduceMul, Value.category, false_implies, true_and, and_true, Bool.false_eq_true, Option.some.injEq, exists_eq_left', Option.toList_some, Option.toList_none, ev_km, ev_k2, ev_k3, ev_k4, ev_k5, ev_l0, ev_l1, sh_1, sh_2, sh_3, sh_4, sh_5, at_X11_spread_10, at_X11_spread_34, at_X11_spread_52, at_X11_spread_58, at_X11_spread_68, at_X11_spread_75, at_X11_spread_80, at_X11_spread_86, ca_X11_201, ca_X11_371, ca_X11_374, ca_X11_379, cd_X11_spread_0, cd_X11_spread_10, cd_X11_spread_34, cd_X11_spread_52, cd_X11_spread_58, cd_X11_spread_68, cd_X11_spread_75, cd_X11_spread_80, cd_X11_spread_86, fl_X11_9, no_0, no_1, no_lt, no_le, no_eq, no_lt0, no_ge0, no_gt0, no_le0, no_eq0, no_0eq, no_eqm, no_meq, no_m0, no_mlt, no_mge, no_mgt, no_mm, no_i01, no_i10, no_in, no_or, no_ifm, no_mul, nI_add, no_sub, pk_div, iI_if, nI_clamp, oI_n, oI_s, not_true_eq_false, not_false_eq_true, forall_const, true_implies, false_and, and_false, or_false, false_or, Classical.not_not, true_or, or_true, no_b, no_eq1, eq_self, and_self, sk_301, sk_302, sl_302, sp_301, hN', spr_n h, h])
          | (with_reducible refine ev_gid ?_; simp (disch := first | omega | assumption) only [ev_run_c, ev_run_n, ev_fj, ev_stp, ev_lk, ev_fv, ev_as, ev_sz, ev_st1, ev_st2, ev_rm, ev_pk, ev_Jof, ev_go, lv_args, List.map_cons, List.map_nil, List.zip_cons_cons, List.zip_nil_left, List.zip_nil_right, List.nil_append, List.cons_append, ↓reduceIte, reduceCtorEq, Int.reduceToNat, Nat.reduceEqDiff, Nat.reduceAdd, Nat.reduceLT, Nat.reduceLeDiff, Nat.reduceMul, Value.category, false_implies, true_and, and_true, Bool.false_eq_true, Option.some.injEq, exists_eq_left', Option.toList_some, Option.toList_none, ev_km, ev_k2, ev_k3, ev_k4, ev_k5, ev_l0, ev_l1, sh_1, sh_2, sh_3, sh_4, sh_5, at_X11_spread_10, at_X11_spread_34, at_X11_spread_52, at_X11_spread_58, at_X11_spread_68, at_X11_spread_75, at_X11_spread_80, at_X11_spread_86, ca_X11_201, ca_X11_371, ca_X11_374, ca_X11_379, cd_X11_spread_0, cd_X11_spread_10, cd_X11_spread_34, cd_X11_spread_52, cd_X11_spread_58, cd_X11_spread_68, cd_X11_spread_75, cd_X11_spread_80, cd_X11_spread_86, fl_X11_9, no_0, no_1, no_lt, no_le, no_eq, no_lt0, no_ge0, no_gt0, no_le0, no_eq0, no_0eq, no_eqm, no_meq, no_m0, no_mlt, no_mge, no_mgt, no_mm, no_i01, no_i10, no_in, no_or, no_ifm, no_mul, nI_add, no_sub, pk_div, iI_if, nI_clamp, oI_n, oI_s, not_true_eq_false, not_false_eq_true, forall_const, true_implies, false_and, and_false, or_false, false_or, Classical.not_not, true_or, or_true, no_b, no_eq1, eq_self, and_self, sk_301, sk_302, sl_302, sp_301, hN', spr_n h, h])
          | (with_reducible refine And.intro (fun q => ?_) (fun q => ?_) <;> (try simp (disch := first | omega | assumption) only [no_0, no_1, no_lt, no_le, no_eq, no_lt0, no_ge0, no_gt0, no_le0, no_eq0, no_0eq, no_eqm, no_meq, no_m0, no_mlt, no_mge, no_mgt, no_mm, no_i01, no_i10, no_in, no_or, no_ifm, no_mul, nI_add, no_sub, pk_div, iI_if, nI_clamp, oI_n, oI_s, not_true_eq_false, not_false_eq_true, forall_const, true_implies, false_and, and_false, or_false, false_or, Classical.not_not, true_or, or_true, no_b, no_eq1, eq_self, and_self, sk_301, sk_302, sl_302, sp_301, hN', spr_n h, h] at q))
          | with_reducible refine ev_ci (m_X11_isScored hok (by assumption) (by assumption) ?_ ?_) ?_
          | with_reducible refine ev_ci (m_X11_adjusted hok (by assumption) (by assumption) ?_ ?_ ?_ ?_) ?_
          | omega
          | assumption
          | with_reducible rfl
          | with_reducible refine lp_nx ?_ ?_ ?_ ?_
          | with_reducible refine lp_st ?_ ?_ ?_
          | with_reducible refine ls_c ?_ ?_
          | with_reducible refine vi_c ?_
          | with_reducible refine re_c ?_
          | with_reducible refine vz_c ?_
          | with_reducible refine rz_c ?_
          | exact trivial
          | with_reducible refine And.intro ?_ ?_
          | simp (disch := first | omega | assumption) only [ev_run_c, ev_run_n, ev_fj, ev_stp, ev_lk, ev_fv, ev_as, ev_sz, ev_st1, ev_st2, ev_rm, ev_pk, ev_Jof, ev_go, lv_args, List.map_cons, List.map_nil, List.zip_cons_cons, List.zip_nil_left, List.zip_nil_right, List.nil_append, List.cons_append, ↓reduceIte, reduceCtorEq, Int.reduceToNat, Nat.reduceEqDiff, Nat.reduceAdd, Nat.reduceLT, Nat.reduceLeDiff, Nat.reduceMul, Value.category, false_implies, true_and, and_true, Bool.false_eq_true, Option.some.injEq, exists_eq_left', Option.toList_some, Option.toList_none, ev_km, ev_k2, ev_k3, ev_k4, ev_k5, ev_l0, ev_l1, sh_1, sh_2, sh_3, sh_4, sh_5, at_X11_spread_10, at_X11_spread_34, at_X11_spread_52, at_X11_spread_58, at_X11_spread_68, at_X11_spread_75, at_X11_spread_80, at_X11_spread_86, ca_X11_201, ca_X11_371, ca_X11_374, ca_X11_379, cd_X11_spread_0, cd_X11_spread_10, cd_X11_spread_34, cd_X11_spread_52, cd_X11_spread_58, cd_X11_spread_68, cd_X11_spread_75, cd_X11_spread_80, cd_X11_spread_86, fl_X11_9, no_0, no_1, no_lt, no_le, no_eq, no_lt0, no_ge0, no_gt0, no_le0, no_eq0, no_0eq, no_eqm, no_meq, no_m0, no_mlt, no_mge, no_mgt, no_mm, no_i01, no_i10, no_in, no_or, no_ifm, no_mul, nI_add, no_sub, pk_div, iI_if, nI_clamp, oI_n, oI_s, not_true_eq_false, not_false_eq_true, forall_const, true_implies, false_and, and_false, or_false, false_or, Classical.not_not, true_or, or_true, no_b, no_eq1, eq_self, and_self, sk_301, sk_302, sl_302, sp_301, hN', spr_n h, h]
          | exact rfl
          | (split <;> omega))
      · by_cases h3 : (spr N q k).1 = 0
        · repeat' (first
            | (with_reducible refine ev_rid ?_; simp (disch := first | omega | assumption) only [ev_run_c, ev_run_n, ev_fj, ev_stp, ev_lk, ev_fv, ev_as, ev_sz, ev_st1, ev_st2, ev_rm, ev_pk, ev_Jof, ev_go, lv_args, List.map_cons, List.map_nil, List.zip_cons_cons, List.zip_nil_left, List.zip_nil_right, List.nil_append, List.cons_append, ↓reduceIte, reduceCtorEq, Int.reduceToNat, Nat.reduceEqDiff, Nat.reduceAdd, Nat.reduceLT, Nat.reduceLeDiff, Nat.reduceMul, Value.category, false_implies, true_and, and_true, Bool.false_eq_true, Option.some.injEq, exists_eq_left', Option.toList_some, Option.toList_none, ev_km, ev_k2, ev_k3, ev_k4, ev_k5, ev_l0, ev_l1, sh_1, sh_2, sh_3, sh_4, sh_5, at_X11_spread_10, at_X11_spread_34, at_X11_spread_52, at_X11_spread_58, at_X11_spread_68, at_X11_spread_75, at_X11_spread_80, at_X11_spread_86, ca_X11_201, ca_X11_371, ca_X11_374, ca_X11_379, cd_X11_spread_0, cd_X11_spread_10, cd_X11_spread_34, cd_X11_spread_52, cd_X11_spread_58, cd_X11_spread_68, cd_X11_spread_75, cd_X11_spread_80, cd_X11_spread_86, fl_X11_9, no_0, no_1, no_lt, no_le, no_eq, no_lt0, no_ge0, no_gt0, no_le0, no_eq0, no_0eq, no_eqm, no_meq, no_m0, no_mlt, no_mge, no_mgt, no_mm, no_i01, no_i10, no_in, no_or, no_ifm, no_mul, nI_add, no_sub, pk_div, iI_if, nI_clamp, oI_n, oI_s, not_true_eq_false, not_false_eq_true, forall_const, true_implies, false_and, and_false, or_false, false_or, Classical.not_not, true_or, or_true, no_b, no_eq1, eq_self, and_self, sk_301, sk_302, sl_302, sp_301, hN', spr_y h, h, h3])
            | (with_reducible refine ev_gid ?_; simp (disch := first | omega | assumption) only [ev_run_c, ev_run_n, ev_fj, ev_stp, ev_lk, ev_fv, ev_as, ev_sz, ev_st1, ev_st2, ev_rm, ev_pk, ev_Jof, ev_go, lv_args, List.map_cons, List.map_nil, List.zip_cons_cons, List.zip_nil_left, List.zip_nil_right, List.nil_append, List.cons_append, ↓reduceIte, reduceCtorEq, Int.reduceToNat, Nat.reduceEqDiff, Nat.reduceAdd, Nat.reduceLT, Nat.reduceLeDiff, Nat.reduceMul, Value.category, false_implies, true_and, and_true, Bool.false_eq_true, Option.some.injEq, exists_eq_left', Option.toList_some, Option.toList_none, ev_km, ev_k2, ev_k3, ev_k4, ev_k5, ev_l0, ev_l1, sh_1, sh_2, sh_3, sh_4, sh_5, at_X11_spread_10, at_X11_spread_34, at_X11_spread_52, at_X11_spread_58, at_X11_spread_68, at_X11_spread_75, at_X11_spread_80, at_X11_spread_86, ca_X11_201, ca_X11_371, ca_X11_374, ca_X11_379, cd_X11_spread_0, cd_X11_spread_10, cd_X11_spread_34, cd_X11_spread_52, cd_X11_spread_58, cd_X11_spread_68, cd_X11_spread_75, cd_X11_spread_80, cd_X11_spread_86, fl_X11_9, no_0, no_1, no_lt, no_le, no_eq, no_lt0, no_ge0, no_gt0, no_le0, no_eq0, no_0eq, no_eqm, no_meq, no_m0, no_mlt, no_mge, no_mgt, no_mm, no_i01, no_i10, no_in, no_or, no_ifm, no_mul, nI_add, no_sub, pk_div, iI_if, nI_clamp, oI_n, oI_s, not_true_eq_false, not_false_eq_true, forall_const, true_implies, false_and, and_false, or_false, false_or, Classical.not_not, true_or, or_true, no_b, no_eq1, eq_self, and_self, sk_301, sk_302, sl_302, sp_301, hN', spr_y h, h, h3])
            | (with_reducible refine And.intro (fun q => ?_) (fun q => ?_) <;> (try simp (disch := first | omega | assumption) only [no_0, no_1, no_lt, no_le, no_eq, no_lt0, no_ge0, no_gt0, no_le0, no_eq0, no_0eq, no_eqm, no_meq, no_m0, no_mlt, no_mge, no_mgt, no_mm, no_i01, no_i10, no_in, no_or, no_ifm, no_mul, nI_add, no_sub, pk_div, iI_if, nI_clamp, oI_n, oI_s, not_true_eq_false, not_false_eq_true, forall_const, true_implies, false_and, and_false, or_false, false_or, Classical.not_not, true_or, or_true, no_b, no_eq1, eq_self, and_self, sk_301, sk_302, sl_302, sp_301, hN', spr_y h, h, h3] at q))
            | with_reducible refine ev_ci (m_X11_isScored hok (by assumption) (by assumption) ?_ ?_) ?_
            | with_reducible refine ev_ci (m_X11_adjusted hok (by assumption) (by assumption) ?_ ?_ ?_ ?_) ?_
            | omega
            | assumption
            | with_reducible rfl
            | exact scb_pos hI (by omega) hq ‹_›
            | exact asc_pos hI (i := k) (by omega) hq ‹_›
            | with_reducible refine lp_nx ?_ ?_ ?_ ?_
            | with_reducible refine lp_st ?_ ?_ ?_
            | with_reducible refine ls_c ?_ ?_
            | with_reducible refine vi_c ?_
            | with_reducible refine re_c ?_
            | with_reducible refine vz_c ?_
            | with_reducible refine rz_c ?_
            | exact trivial
            | with_reducible refine And.intro ?_ ?_
            | simp (disch := first | omega | assumption) only [ev_run_c, ev_run_n, ev_fj, ev_stp, ev_lk, ev_fv, ev_as, ev_sz, ev_st1, ev_st2, ev_rm, ev_pk, ev_Jof, ev_go, lv_args, List.map_cons, List.map_nil, List.zip_cons_cons, List.zip_nil_left, List.zip_nil_right, List.nil_append, List.cons_append, ↓reduceIte, reduceCtorEq, Int.reduceToNat, Nat.reduceEqDiff, Nat.reduceAdd, Nat.reduceLT, Nat.reduceLeDiff, Nat.reduceMul, Value.category, false_implies, true_and, and_true, Bool.false_eq_true, Option.some.injEq, exists_eq_left', Option.toList_some, Option.toList_none, ev_km, ev_k2, ev_k3, ev_k4, ev_k5, ev_l0, ev_l1, sh_1, sh_2, sh_3, sh_4, sh_5, at_X11_spread_10, at_X11_spread_34, at_X11_spread_52, at_X11_spread_58, at_X11_spread_68, at_X11_spread_75, at_X11_spread_80, at_X11_spread_86, ca_X11_201, ca_X11_371, ca_X11_374, ca_X11_379, cd_X11_spread_0, cd_X11_spread_10, cd_X11_spread_34, cd_X11_spread_52, cd_X11_spread_58, cd_X11_spread_68, cd_X11_spread_75, cd_X11_spread_80, cd_X11_spread_86, fl_X11_9, no_0, no_1, no_lt, no_le, no_eq, no_lt0, no_ge0, no_gt0, no_le0, no_eq0, no_0eq, no_eqm, no_meq, no_m0, no_mlt, no_mge, no_mgt, no_mm, no_i01, no_i10, no_in, no_or, no_ifm, no_mul, nI_add, no_sub, pk_div, iI_if, nI_clamp, oI_n, oI_s, not_true_eq_false, not_false_eq_true, forall_const, true_implies, false_and, and_false, or_false, false_or, Classical.not_not, true_or, or_true, no_b, no_eq1, eq_self, and_self, sk_301, sk_302, sl_302, sp_301, hN', spr_y h, h, h3]
            | exact rfl
            | (split <;> omega))
        · repeat' (first
            | (with_reducible refine ev_rid ?_; simp (disch := first | omega | assumption) only [ev_run_c, ev_run_n, ev_fj, ev_stp, ev_lk, ev_fv, ev_as, ev_sz, ev_st1, ev_st2, ev_rm, ev_pk, ev_Jof, ev_go, lv_args, List.map_cons, List.map_nil, List.zip_cons_cons, List.zip_nil_left, List.zip_nil_right, List.nil_append, List.cons_append, ↓reduceIte, reduceCtorEq, Int.reduceToNat, Nat.reduceEqDiff, Nat.reduceAdd, Nat.reduceLT, Nat.reduceLeDiff, Nat.reduceMul, Value.category, false_implies, true_and, and_true, Bool.false_eq_true, Option.some.injEq, exists_eq_left', Option.toList_some, Option.toList_none, ev_km, ev_k2, ev_k3, ev_k4, ev_k5, ev_l0, ev_l1, sh_1, sh_2, sh_3, sh_4, sh_5, at_X11_spread_10, at_X11_spread_34, at_X11_spread_52, at_X11_spread_58, at_X11_spread_68, at_X11_spread_75, at_X11_spread_80, at_X11_spread_86, ca_X11_201, ca_X11_371, ca_X11_374, ca_X11_379, cd_X11_spread_0, cd_X11_spread_10, cd_X11_spread_34, cd_X11_spread_52, cd_X11_spread_58, cd_X11_spread_68, cd_X11_spread_75, cd_X11_spread_80, cd_X11_spread_86, fl_X11_9, no_0, no_1, no_lt, no_le, no_eq, no_lt0, no_ge0, no_gt0, no_le0, no_eq0, no_0eq, no_eqm, no_meq, no_m0, no_mlt, no_mge, no_mgt, no_mm, no_i01, no_i10, no_in, no_or, no_ifm, no_mul, nI_add, no_sub, pk_div, iI_if, nI_clamp, oI_n, oI_s, not_true_eq_false, not_false_eq_true, forall_const, true_implies, false_and, and_false, or_false, false_or, Classical.not_not, true_or, or_true, no_b, no_eq1, eq_self, and_self, sk_301, sk_302, sl_302, sp_301, hN', spr_y h, h, h3, iI_lt])
            | (with_reducible refine ev_gid ?_; simp (disch := first | omega | assumption) only [ev_run_c, ev_run_n, ev_fj, ev_stp, ev_lk, ev_fv, ev_as, ev_sz, ev_st1, ev_st2, ev_rm, ev_pk, ev_Jof, ev_go, lv_args, List.map_cons, List.map_nil, List.zip_cons_cons, List.zip_nil_left, List.zip_nil_right, List.nil_append, List.cons_append, ↓reduceIte, reduceCtorEq, Int.reduceToNat, Nat.reduceEqDiff, Nat.reduceAdd, Nat.reduceLT, Nat.reduceLeDiff, Nat.reduceMul, Value.category, false_implies, true_and, and_true, Bool.false_eq_true, Option.some.injEq, exists_eq_left', Option.toList_some, Option.toList_none, ev_km, ev_k2, ev_k3, ev_k4, ev_k5, ev_l0, ev_l1, sh_1, sh_2, sh_3, sh_4, sh_5, at_X11_spread_10, at_X11_spread_34, at_X11_spread_52, at_X11_spread_58, at_X11_spread_68, at_X11_spread_75, at_X11_spread_80, at_X11_spread_86, ca_X11_201, ca_X11_371, ca_X11_374, ca_X11_379, cd_X11_spread_0, cd_X11_spread_10, cd_X11_spread_34, cd_X11_spread_52, cd_X11_spread_58, cd_X11_spread_68, cd_X11_spread_75, cd_X11_spread_80, cd_X11_spread_86, fl_X11_9, no_0, no_1, no_lt, no_le, no_eq, no_lt0, no_ge0, no_gt0, no_le0, no_eq0, no_0eq, no_eqm, no_meq, no_m0, no_mlt, no_mge, no_mgt, no_mm, no_i01, no_i10, no_in, no_or, no_ifm, no_mul, nI_add, no_sub, pk_div, iI_if, nI_clamp, oI_n, oI_s, not_true_eq_false, not_false_eq_true, forall_const, true_implies, false_and, and_false, or_false, false_or, Classical.not_not, true_or, or_true, no_b, no_eq1, eq_self, and_self, sk_301, sk_302, sl_302, sp_301, hN', spr_y h, h, h3, iI_lt])
            | (with_reducible refine And.intro (fun q => ?_) (fun q => ?_) <;> (try simp (disch := first | omega | assumption) only [no_0, no_1, no_lt, no_le, no_eq, no_lt0, no_ge0, no_gt0, no_le0, no_eq0, no_0eq, no_eqm, no_meq, no_m0, no_mlt, no_mge, no_mgt, no_mm, no_i01, no_i10, no_in, no_or, no_ifm, no_mul, nI_add, no_sub, pk_div, iI_if, nI_clamp, oI_n, oI_s, not_true_eq_false, not_false_eq_true, forall_const, true_implies, false_and, and_false, or_false, false_or, Classical.not_not, true_or, or_true, no_b, no_eq1, eq_self, and_self, sk_301, sk_302, sl_302, sp_301, hN', spr_y h, h, h3, iI_lt] at q))
            | with_reducible refine ev_ci (m_X11_isScored hok (by assumption) (by assumption) ?_ ?_) ?_
            | with_reducible refine ev_ci (m_X11_adjusted hok (by assumption) (by assumption) ?_ ?_ ?_ ?_) ?_
            | omega
            | assumption
            | with_reducible rfl
            | exact scb_pos hI (by omega) hq ‹_›
            | exact asc_pos hI (i := k) (by omega) hq ‹_›
            | with_reducible refine lp_nx ?_ ?_ ?_ ?_
            | with_reducible refine lp_st ?_ ?_ ?_
            | with_reducible refine ls_c ?_ ?_
            | with_reducible refine vi_c ?_
            | with_reducible refine re_c ?_
            | with_reducible refine vz_c ?_
            | with_reducible refine rz_c ?_
            | exact trivial
            | with_reducible refine And.intro ?_ ?_
            | simp (disch := first | omega | assumption) only [ev_run_c, ev_run_n, ev_fj, ev_stp, ev_lk, ev_fv, ev_as, ev_sz, ev_st1, ev_st2, ev_rm, ev_pk, ev_Jof, ev_go, lv_args, List.map_cons, List.map_nil, List.zip_cons_cons, List.zip_nil_left, List.zip_nil_right, List.nil_append, List.cons_append, ↓reduceIte, reduceCtorEq, Int.reduceToNat, Nat.reduceEqDiff, Nat.reduceAdd, Nat.reduceLT, Nat.reduceLeDiff, Nat.reduceMul, Value.category, false_implies, true_and, and_true, Bool.false_eq_true, Option.some.injEq, exists_eq_left', Option.toList_some, Option.toList_none, ev_km, ev_k2, ev_k3, ev_k4, ev_k5, ev_l0, ev_l1, sh_1, sh_2, sh_3, sh_4, sh_5, at_X11_spread_10, at_X11_spread_34, at_X11_spread_52, at_X11_spread_58, at_X11_spread_68, at_X11_spread_75, at_X11_spread_80, at_X11_spread_86, ca_X11_201, ca_X11_371, ca_X11_374, ca_X11_379, cd_X11_spread_0, cd_X11_spread_10, cd_X11_spread_34, cd_X11_spread_52, cd_X11_spread_58, cd_X11_spread_68, cd_X11_spread_75, cd_X11_spread_80, cd_X11_spread_86, fl_X11_9, no_0, no_1, no_lt, no_le, no_eq, no_lt0, no_ge0, no_gt0, no_le0, no_eq0, no_0eq, no_eqm, no_meq, no_m0, no_mlt, no_mge, no_mgt, no_mm, no_i01, no_i10, no_in, no_or, no_ifm, no_mul, nI_add, no_sub, pk_div, iI_if, nI_clamp, oI_n, oI_s, not_true_eq_false, not_false_eq_true, forall_const, true_implies, false_and, and_false, or_false, false_or, Classical.not_not, true_or, or_true, no_b, no_eq1, eq_self, and_self, sk_301, sk_302, sl_302, sp_301, hN', spr_y h, h, h3, iI_lt]
            | exact rfl
            | (split <;> omega))
    · have hkn : N 0 = k := by omega
      subst hkn
      repeat' (first
        | (with_reducible refine ev_rid ?_; simp (disch := first | omega | assumption) only [ev_run_c, ev_run_n, ev_fj, ev_stp, ev_lk, ev_fv, ev_as, ev_sz, ev_st1, ev_st2, ev_rm, ev_pk, ev_Jof, ev_go, lv_args, List.map_cons, List.map_nil, List.zip_cons_cons, List.zip_nil_left, List.zip_nil_right, List.nil_append, List.cons_append, ↓reduceIte, reduceCtorEq, Int.reduceToNat, Nat.reduceEqDiff, Nat.reduceAdd, Nat.reduceLT, Nat.reduceLeDiff, Nat.reduceMul, Value.category, false_implies, true_and, and_true, Bool.false_eq_true, Option.some.injEq, exists_eq_left', Option.toList_some, Option.toList_none, ev_km, ev_k2, ev_k3, ev_k4, ev_k5, ev_l0, ev_l1, sh_1, sh_2, sh_3, sh_4, sh_5, at_X11_spread_10, at_X11_spread_34, at_X11_spread_52, at_X11_spread_58, at_X11_spread_68, at_X11_spread_75, at_X11_spread_80, at_X11_spread_86, ca_X11_201, ca_X11_371, ca_X11_374, ca_X11_379, cd_X11_spread_0, cd_X11_spread_10, cd_X11_spread_34, cd_X11_spread_52, cd_X11_spread_58, cd_X11_spread_68, cd_X11_spread_75, cd_X11_spread_80, cd_X11_spread_86, fl_X11_9, no_0, no_1, no_lt, no_le, no_eq, no_lt0, no_ge0, no_gt0, no_le0, no_eq0, no_0eq, no_eqm, no_meq, no_m0, no_mlt, no_mge, no_mgt, no_mm, no_i01, no_i10, no_in, no_or, no_ifm, no_mul, nI_add, no_sub, pk_div, iI_if, nI_clamp, oI_n, oI_s, not_true_eq_false, not_false_eq_true, forall_const, true_implies, false_and, and_false, or_false, false_or, Classical.not_not, true_or, or_true, no_b, no_eq1, eq_self, and_self, sk_301, sk_302, sl_302, sp_301, hN', iI_sub])
        | (with_reducible refine ev_gid ?_; simp (disch := first | omega | assumption) only [ev_run_c, ev_run_n, ev_fj, ev_stp, ev_lk, ev_fv, ev_as, ev_sz, ev_st1, ev_st2, ev_rm, ev_pk, ev_Jof, ev_go, lv_args, List.map_cons, List.map_nil, List.zip_cons_cons, List.zip_nil_left, List.zip_nil_right, List.nil_append, List.cons_append, ↓reduceIte, reduceCtorEq, Int.reduceToNat, Nat.reduceEqDiff, Nat.reduceAdd, Nat.reduceLT, Nat.reduceLeDiff, Nat.reduceMul, Value.category, false_implies, true_and, and_true, Bool.false_eq_true, Option.some.injEq, exists_eq_left', Option.toList_some, Option.toList_none, ev_km, ev_k2, ev_k3, ev_k4, ev_k5, ev_l0, ev_l1, sh_1, sh_2, sh_3, sh_4, sh_5, at_X11_spread_10, at_X11_spread_34, at_X11_spread_52, at_X11_spread_58, at_X11_spread_68, at_X11_spread_75, at_X11_spread_80, at_X11_spread_86, ca_X11_201, ca_X11_371, ca_X11_374, ca_X11_379, cd_X11_spread_0, cd_X11_spread_10, cd_X11_spread_34, cd_X11_spread_52, cd_X11_spread_58, cd_X11_spread_68, cd_X11_spread_75, cd_X11_spread_80, cd_X11_spread_86, fl_X11_9, no_0, no_1, no_lt, no_le, no_eq, no_lt0, no_ge0, no_gt0, no_le0, no_eq0, no_0eq, no_eqm, no_meq, no_m0, no_mlt, no_mge, no_mgt, no_mm, no_i01, no_i10, no_in, no_or, no_ifm, no_mul, nI_add, no_sub, pk_div, iI_if, nI_clamp, oI_n, oI_s, not_true_eq_false, not_false_eq_true, forall_const, true_implies, false_and, and_false, or_false, false_or, Classical.not_not, true_or, or_true, no_b, no_eq1, eq_self, and_self, sk_301, sk_302, sl_302, sp_301, hN', iI_sub])
        | (with_reducible refine And.intro (fun q => ?_) (fun q => ?_) <;> (try simp (disch := first | omega | assumption) only [no_0, no_1, no_lt, no_le, no_eq, no_lt0, no_ge0, no_gt0, no_le0, no_eq0, no_0eq, no_eqm, no_meq, no_m0, no_mlt, no_mge, no_mgt, no_mm, no_i01, no_i10, no_in, no_or, no_ifm, no_mul, nI_add, no_sub, pk_div, iI_if, nI_clamp, oI_n, oI_s, not_true_eq_false, not_false_eq_true, forall_const, true_implies, false_and, and_false, or_false, false_or, Classical.not_not, true_or, or_true, no_b, no_eq1, eq_self, and_self, sk_301, sk_302, sl_302, sp_301, hN', iI_sub] at q))
        | with_reducible refine ev_ci (m_X11_isScored hok (by assumption) (by assumption) ?_ ?_) ?_
        | with_reducible refine ev_ci (m_X11_adjusted hok (by assumption) (by assumption) ?_ ?_ ?_ ?_) ?_
        | omega
        | assumption
        | with_reducible rfl
        | with_reducible refine lp_nx ?_ ?_ ?_ ?_
        | with_reducible refine lp_st ?_ ?_ ?_
        | with_reducible refine ls_c ?_ ?_
        | with_reducible refine vi_c ?_
        | with_reducible refine re_c ?_
        | with_reducible refine vz_c ?_
        | with_reducible refine rz_c ?_
        | exact trivial
        | with_reducible refine And.intro ?_ ?_
        | simp (disch := first | omega | assumption) only [ev_run_c, ev_run_n, ev_fj, ev_stp, ev_lk, ev_fv, ev_as, ev_sz, ev_st1, ev_st2, ev_rm, ev_pk, ev_Jof, ev_go, lv_args, List.map_cons, List.map_nil, List.zip_cons_cons, List.zip_nil_left, List.zip_nil_right, List.nil_append, List.cons_append, ↓reduceIte, reduceCtorEq, Int.reduceToNat, Nat.reduceEqDiff, Nat.reduceAdd, Nat.reduceLT, Nat.reduceLeDiff, Nat.reduceMul, Value.category, false_implies, true_and, and_true, Bool.false_eq_true, Option.some.injEq, exists_eq_left', Option.toList_some, Option.toList_none, ev_km, ev_k2, ev_k3, ev_k4, ev_k5, ev_l0, ev_l1, sh_1, sh_2, sh_3, sh_4, sh_5, at_X11_spread_10, at_X11_spread_34, at_X11_spread_52, at_X11_spread_58, at_X11_spread_68, at_X11_spread_75, at_X11_spread_80, at_X11_spread_86, ca_X11_201, ca_X11_371, ca_X11_374, ca_X11_379, cd_X11_spread_0, cd_X11_spread_10, cd_X11_spread_34, cd_X11_spread_52, cd_X11_spread_58, cd_X11_spread_68, cd_X11_spread_75, cd_X11_spread_80, cd_X11_spread_86, fl_X11_9, no_0, no_1, no_lt, no_le, no_eq, no_lt0, no_ge0, no_gt0, no_le0, no_eq0, no_0eq, no_eqm, no_meq, no_m0, no_mlt, no_mge, no_mgt, no_mm, no_i01, no_i10, no_in, no_or, no_ifm, no_mul, nI_add, no_sub, pk_div, iI_if, nI_clamp, oI_n, oI_s, not_true_eq_false, not_false_eq_true, forall_const, true_implies, false_and, and_false, or_false, false_or, Classical.not_not, true_or, or_true, no_b, no_eq1, eq_self, and_self, sk_301, sk_302, sl_302, sp_301, hN', iI_sub]
        | exact rfl
        | (split <;> omega))
  · rw [at_X11_spread_0]
    repeat' (first
      | (with_reducible refine ev_rid ?_; simp (disch := first | omega | assumption) only [ev_run_c, ev_run_n, ev_fj, ev_stp, ev_lk, ev_fv, ev_as, ev_sz, ev_st1, ev_st2, ev_rm, ev_pk, ev_Jof, ev_go, lv_args, List.map_cons, List.map_nil, List.zip_cons_cons, List.zip_nil_left, List.zip_nil_right, List.nil_append, List.cons_append, ↓reduceIte, reduceCtorEq, Int.reduceToNat, Nat.reduceEqDiff, Nat.reduceAdd, Nat.reduceLT, Nat.reduceLeDiff, Nat.reduceMul, Value.category, false_implies, true_and, and_true, Bool.false_eq_true, Option.some.injEq, exists_eq_left', Option.toList_some, Option.toList_none, ev_km, ev_k2, ev_k3, ev_k4, ev_k5, ev_l0, ev_l1, sh_1, sh_2, sh_3, sh_4, sh_5, at_X11_spread_10, at_X11_spread_34, at_X11_spread_52, at_X11_spread_58, at_X11_spread_68, at_X11_spread_75, at_X11_spread_80, at_X11_spread_86, ca_X11_201, ca_X11_371, ca_X11_374, ca_X11_379, cd_X11_spread_0, cd_X11_spread_10, cd_X11_spread_34, cd_X11_spread_52, cd_X11_spread_58, cd_X11_spread_68, cd_X11_spread_75, cd_X11_spread_80, cd_X11_spread_86, fl_X11_9, no_0, no_1, no_lt, no_le, no_eq, no_lt0, no_ge0, no_gt0, no_le0, no_eq0, no_0eq, no_eqm, no_meq, no_m0, no_mlt, no_mge, no_mgt, no_mm, no_i01, no_i10, no_in, no_or, no_ifm, no_mul, nI_add, no_sub, pk_div, iI_if, nI_clamp, oI_n, oI_s, not_true_eq_false, not_false_eq_true, forall_const, true_implies, false_and, and_false, or_false, false_or, Classical.not_not, true_or, or_true, no_b, no_eq1, eq_self, and_self, sk_301, sk_302, sl_302, sp_301])
      | (with_reducible refine ev_gid ?_; simp (disch := first | omega | assumption) only [ev_run_c, ev_run_n, ev_fj, ev_stp, ev_lk, ev_fv, ev_as, ev_sz, ev_st1, ev_st2, ev_rm, ev_pk, ev_Jof, ev_go, lv_args, List.map_cons, List.map_nil, List.zip_cons_cons, List.zip_nil_left, List.zip_nil_right, List.nil_append, List.cons_append, ↓reduceIte, reduceCtorEq, Int.reduceToNat, Nat.reduceEqDiff, Nat.reduceAdd, Nat.reduceLT, Nat.reduceLeDiff, Nat.reduceMul, Value.category, false_implies, true_and, and_true, Bool.false_eq_true, Option.some.injEq, exists_eq_left', Option.toList_some, Option.toList_none, ev_km, ev_k2, ev_k3, ev_k4, ev_k5, ev_l0, ev_l1, sh_1, sh_2, sh_3, sh_4, sh_5, at_X11_spread_10, at_X11_spread_34, at_X11_spread_52, at_X11_spread_58, at_X11_spread_68, at_X11_spread_75, at_X11_spread_80, at_X11_spread_86, ca_X11_201, ca_X11_371, ca_X11_374, ca_X11_379, cd_X11_spread_0, cd_X11_spread_10, cd_X11_spread_34, cd_X11_spread_52, cd_X11_spread_58, cd_X11_spread_68, cd_X11_spread_75, cd_X11_spread_80, cd_X11_spread_86, fl_X11_9, no_0, no_1, no_lt, no_le, no_eq, no_lt0, no_ge0, no_gt0, no_le0, no_eq0, no_0eq, no_eqm, no_meq, no_m0, no_mlt, no_mge, no_mgt, no_mm, no_i01, no_i10, no_in, no_or, no_ifm, no_mul, nI_add, no_sub, pk_div, iI_if, nI_clamp, oI_n, oI_s, not_true_eq_false, not_false_eq_true, forall_const, true_implies, false_and, and_false, or_false, false_or, Classical.not_not, true_or, or_true, no_b, no_eq1, eq_self, and_self, sk_301, sk_302, sl_302, sp_301])
      | (with_reducible refine And.intro (fun q => ?_) (fun q => ?_) <;> (try simp (disch := first | omega | assumption) only [no_0, no_1, no_lt, no_le, no_eq, no_lt0, no_ge0, no_gt0, no_le0, no_eq0, no_0eq, no_eqm, no_meq, no_m0, no_mlt, no_mge, no_mgt, no_mm, no_i01, no_i10, no_in, no_or, no_ifm, no_mul, nI_add, no_sub, pk_div, iI_if, nI_clamp, oI_n, oI_s, not_true_eq_false, not_false_eq_true, forall_const, true_implies, false_and, and_false, or_false, false_or, Classical.not_not, true_or, or_true, no_b, no_eq1, eq_self, and_self, sk_301, sk_302, sl_302, sp_301] at q))
      | with_reducible refine ev_ci (m_X11_isScored hok (by assumption) (by assumption) ?_ ?_) ?_
      | with_reducible refine ev_ci (m_X11_adjusted hok (by assumption) (by assumption) ?_ ?_ ?_ ?_) ?_
      | omega
      | assumption
      | with_reducible rfl
      | with_reducible refine lp_nx ?_ ?_ ?_ ?_
      | with_reducible refine lp_st ?_ ?_ ?_
      | with_reducible refine ls_c ?_ ?_
      | with_reducible refine vi_c ?_
      | with_reducible refine re_c ?_
      | with_reducible refine vz_c ?_
      | with_reducible refine rz_c ?_
      | exact trivial
      | with_reducible refine And.intro ?_ ?_
      | simp (disch := first | omega | assumption) only [ev_run_c, ev_run_n, ev_fj, ev_stp, ev_lk, ev_fv, ev_as, ev_sz, ev_st1, ev_st2, ev_rm, ev_pk, ev_Jof, ev_go, lv_args, List.map_cons, List.map_nil, List.zip_cons_cons, List.zip_nil_left, List.zip_nil_right, List.nil_append, List.cons_append, ↓reduceIte, reduceCtorEq, Int.reduceToNat, Nat.reduceEqDiff, Nat.reduceAdd, Nat.reduceLT, Nat.reduceLeDiff, Nat.reduceMul, Value.category, false_implies, true_and, and_true, Bool.false_eq_true, Option.some.injEq, exists_eq_left', Option.toList_some, Option.toList_none, ev_km, ev_k2, ev_k3, ev_k4, ev_k5, ev_l0, ev_l1, sh_1, sh_2, sh_3, sh_4, sh_5, at_X11_spread_10, at_X11_spread_34, at_X11_spread_52, at_X11_spread_58, at_X11_spread_68, at_X11_spread_75, at_X11_spread_80, at_X11_spread_86, ca_X11_201, ca_X11_371, ca_X11_374, ca_X11_379, cd_X11_spread_0, cd_X11_spread_10, cd_X11_spread_34, cd_X11_spread_52, cd_X11_spread_58, cd_X11_spread_68, cd_X11_spread_75, cd_X11_spread_80, cd_X11_spread_86, fl_X11_9, no_0, no_1, no_lt, no_le, no_eq, no_lt0, no_ge0, no_gt0, no_le0, no_eq0, no_0eq, no_eqm, no_meq, no_m0, no_mlt, no_mge, no_mgt, no_mm, no_i01, no_i10, no_in, no_or, no_ifm, no_mul, nI_add, no_sub, pk_div, iI_if, nI_clamp, oI_n, oI_s, not_true_eq_false, not_false_eq_true, forall_const, true_implies, false_and, and_false, or_false, false_or, Classical.not_not, true_or, or_true, no_b, no_eq1, eq_self, and_self, sk_301, sk_302, sl_302, sp_301]
      | exact rfl
      | (split <;> omega))
theorem m_X11_mustTalk (hok : ev_ok sh_S G) (hN : MR N μ) (hI : INV N) {q : Nat} (hq : q < 10) : ev_T sh_S G mi_X11_mustTalk [.ref 301, .int (nI q)] μ (.inl (some (.int (nI (if (N 2 : Int) < spd N q then 1 else 0))), μ)) := by
  have hh := iv_h hI
  have hN' : ∀ k, k < 1042 → μ.1 302 k = nI (N k) := hN
  have h1 := spd_le hI hq
  refine ev_tri hok (okM_X11_mustTalk 0) (Nat.le_of_ble_eq_true rfl) 400 ?_
  rw [at_X11_mustTalk_0]
  repeat' (first
    | (with_reducible refine ev_rid ?_; simp (disch := first | omega | assumption) only [ev_run_c, ev_run_n, ev_fj, ev_stp, ev_lk, ev_fv, ev_as, ev_sz, ev_st1, ev_st2, ev_rm, ev_pk, ev_Jof, ev_go, lv_args, List.map_cons, List.map_nil, List.zip_cons_cons, List.zip_nil_left, List.zip_nil_right, List.nil_append, List.cons_append, ↓reduceIte, reduceCtorEq, Int.reduceToNat, Nat.reduceEqDiff, Nat.reduceAdd, Nat.reduceLT, Nat.reduceLeDiff, Nat.reduceMul, Value.category, false_implies, true_and, and_true, Bool.false_eq_true, Option.some.injEq, exists_eq_left', Option.toList_some, Option.toList_none, ev_km, ev_k2, ev_k3, ev_k4, ev_k5, ev_l0, ev_l1, sh_1, sh_2, sh_3, sh_4, sh_5, at_X11_mustTalk_18, at_X11_mustTalk_19, ca_X11_382, cd_X11_mustTalk_0, cd_X11_mustTalk_18, cd_X11_mustTalk_19, fl_X11_9, no_0, no_1, no_lt, no_le, no_eq, no_lt0, no_ge0, no_gt0, no_le0, no_eq0, no_0eq, no_eqm, no_meq, no_m0, no_mlt, no_mge, no_mgt, no_mm, no_i01, no_i10, no_in, no_or, no_ifm, no_mul, nI_add, no_sub, pk_div, iI_if, nI_clamp, oI_n, oI_s, not_true_eq_false, not_false_eq_true, forall_const, true_implies, false_and, and_false, or_false, false_or, Classical.not_not, true_or, or_true, no_b, no_eq1, eq_self, and_self, sk_301, sk_302, sl_302, sp_301, hN', iI_leN, iI_ltN, iN_le, iN_lt])
    | (with_reducible refine ev_gid ?_; simp (disch := first | omega | assumption) only [ev_run_c, ev_run_n, ev_fj, ev_stp, ev_lk, ev_fv, ev_as, ev_sz, ev_st1, ev_st2, ev_rm, ev_pk, ev_Jof, ev_go, lv_args, List.map_cons, List.map_nil, List.zip_cons_cons, List.zip_nil_left, List.zip_nil_right, List.nil_append, List.cons_append, ↓reduceIte, reduceCtorEq, Int.reduceToNat, Nat.reduceEqDiff, Nat.reduceAdd, Nat.reduceLT, Nat.reduceLeDiff, Nat.reduceMul, Value.category, false_implies, true_and, and_true, Bool.false_eq_true, Option.some.injEq, exists_eq_left', Option.toList_some, Option.toList_none, ev_km, ev_k2, ev_k3, ev_k4, ev_k5, ev_l0, ev_l1, sh_1, sh_2, sh_3, sh_4, sh_5, at_X11_mustTalk_18, at_X11_mustTalk_19, ca_X11_382, cd_X11_mustTalk_0, cd_X11_mustTalk_18, cd_X11_mustTalk_19, fl_X11_9, no_0, no_1, no_lt, no_le, no_eq, no_lt0, no_ge0, no_gt0, no_le0, no_eq0, no_0eq, no_eqm, no_meq, no_m0, no_mlt, no_mge, no_mgt, no_mm, no_i01, no_i10, no_in, no_or, no_ifm, no_mul, nI_add, no_sub, pk_div, iI_if, nI_clamp, oI_n, oI_s, not_true_eq_false, not_false_eq_true, forall_const, true_implies, false_and, and_false, or_false, false_or, Classical.not_not, true_or, or_true, no_b, no_eq1, eq_self, and_self, sk_301, sk_302, sl_302, sp_301, hN', iI_leN, iI_ltN, iN_le, iN_lt])
    | (with_reducible refine And.intro (fun q => ?_) (fun q => ?_) <;> (try simp (disch := first | omega | assumption) only [no_0, no_1, no_lt, no_le, no_eq, no_lt0, no_ge0, no_gt0, no_le0, no_eq0, no_0eq, no_eqm, no_meq, no_m0, no_mlt, no_mge, no_mgt, no_mm, no_i01, no_i10, no_in, no_or, no_ifm, no_mul, nI_add, no_sub, pk_div, iI_if, nI_clamp, oI_n, oI_s, not_true_eq_false, not_false_eq_true, forall_const, true_implies, false_and, and_false, or_false, false_or, Classical.not_not, true_or, or_true, no_b, no_eq1, eq_self, and_self, sk_301, sk_302, sl_302, sp_301, hN', iI_leN, iI_ltN, iN_le, iN_lt] at q))
    | with_reducible refine ev_ci (m_X11_spread hok (by assumption) (by assumption) ?_) ?_
    | omega
    | assumption
    | with_reducible rfl
    | with_reducible refine lp_nx ?_ ?_ ?_ ?_
    | with_reducible refine lp_st ?_ ?_ ?_
    | with_reducible refine ls_c ?_ ?_
    | with_reducible refine vi_c ?_
    | with_reducible refine re_c ?_
    | with_reducible refine vz_c ?_
    | with_reducible refine rz_c ?_
    | exact trivial
    | with_reducible refine And.intro ?_ ?_
    | simp (disch := first | omega | assumption) only [ev_run_c, ev_run_n, ev_fj, ev_stp, ev_lk, ev_fv, ev_as, ev_sz, ev_st1, ev_st2, ev_rm, ev_pk, ev_Jof, ev_go, lv_args, List.map_cons, List.map_nil, List.zip_cons_cons, List.zip_nil_left, List.zip_nil_right, List.nil_append, List.cons_append, ↓reduceIte, reduceCtorEq, Int.reduceToNat, Nat.reduceEqDiff, Nat.reduceAdd, Nat.reduceLT, Nat.reduceLeDiff, Nat.reduceMul, Value.category, false_implies, true_and, and_true, Bool.false_eq_true, Option.some.injEq, exists_eq_left', Option.toList_some, Option.toList_none, ev_km, ev_k2, ev_k3, ev_k4, ev_k5, ev_l0, ev_l1, sh_1, sh_2, sh_3, sh_4, sh_5, at_X11_mustTalk_18, at_X11_mustTalk_19, ca_X11_382, cd_X11_mustTalk_0, cd_X11_mustTalk_18, cd_X11_mustTalk_19, fl_X11_9, no_0, no_1, no_lt, no_le, no_eq, no_lt0, no_ge0, no_gt0, no_le0, no_eq0, no_0eq, no_eqm, no_meq, no_m0, no_mlt, no_mge, no_mgt, no_mm, no_i01, no_i10, no_in, no_or, no_ifm, no_mul, nI_add, no_sub, pk_div, iI_if, nI_clamp, oI_n, oI_s, not_true_eq_false, not_false_eq_true, forall_const, true_implies, false_and, and_false, or_false, false_or, Classical.not_not, true_or, or_true, no_b, no_eq1, eq_self, and_self, sk_301, sk_302, sl_302, sp_301, hN', iI_leN, iI_ltN, iN_le, iN_lt]
    | exact rfl
    | (split <;> omega))
def ahd (N : Nat → Nat) (p o : Nat) : Nat :=
  if scs N p (N 0) = 0 then (if scs N o (N 0) = 0 then (if p < o then 1 else 0) else 0)
  else if scs N o (N 0) = 0 then 1
  else if tot N p = tot N o then (if p < o then 1 else 0)
  else if tot N o < tot N p then 1 else 0
theorem tot_0 {q : Nat} (h : scs N q (N 0) = 0) : tot N q = 0 := if_pos h
set_option maxHeartbeats 2000000 in
theorem m_X11_isAhead (hok : ev_ok sh_S G) (hN : MR N μ) (hI : INV N) {p o : Nat} (hp : p < 10) (ho : o < 10) : ev_T sh_S G mi_X11_isAhead [.ref 301, .int (nI p), .int (nI o)] μ (.inl (some (.int (nI (ahd N p o))), μ)) := by
  have hh := iv_h hI
  have h1 := tot_le hI hp
  have h2 := tot_le hI ho
  have h3 := scs_le N p (N 0)
  have h4 := scs_le N o (N 0)
  by_cases e1 : scs N p (N 0) = 0 <;> by_cases e2 : scs N o (N 0) = 0
  · have e : ahd N p o = if p < o then 1 else 0 := by unfold ahd; rw [if_pos e1, if_pos e2]
    have e3 := tot_0 e1
    have e4 := tot_0 e2
    rw [e]
    refine ev_tri hok (okM_X11_isAhead 0) (Nat.le_of_ble_eq_true rfl) 400 ?_
    rw [at_X11_isAhead_0]
    repeat' (first
      | (with_reducible refine ev_rid ?_; simp (disch := first | omega | assumption) only [ev_run_c, ev_run_n, ev_fj, ev_stp, ev_lk, ev_fv, ev_as, ev_sz, ev_st1, ev_st2, ev_rm, ev_pk, ev_Jof, ev_go, lv_args, List.map_cons, List.map_nil, List.zip_cons_cons, List.zip_nil_left, List.zip_nil_right, List.nil_append, List.cons_append, ↓reduceIte, reduceCtorEq, Int.reduceToNat, Nat.reduceEqDiff, Nat.reduceAdd, Nat.reduceLT, Nat.reduceLeDiff, Nat.reduceMul, Value.category, false_implies, true_and, and_true, Bool.false_eq_true, Option.some.injEq, exists_eq_left', Option.toList_some, Option.toList_none, ev_km, ev_k2, ev_k3, ev_k4, ev_k5, ev_l0, ev_l1, sh_1, sh_2, sh_3, sh_4, sh_5, at_X11_isAhead_12, at_X11_isAhead_13, at_X11_isAhead_27, at_X11_isAhead_28, at_X11_isAhead_33, at_X11_isAhead_60, at_X11_isAhead_64, at_X11_isAhead_73, at_X11_isAhead_74, ca_X11_189, ca_X11_388, cd_X11_isAhead_0, cd_X11_isAhead_12, cd_X11_isAhead_13, cd_X11_isAhead_27, cd_X11_isAhead_28, cd_X11_isAhead_33, cd_X11_isAhead_60, cd_X11_isAhead_64, cd_X11_isAhead_73, cd_X11_isAhead_74, no_0, no_1, no_lt, no_le, no_eq, no_lt0, no_ge0, no_gt0, no_le0, no_eq0, no_0eq, no_eqm, no_meq, no_m0, no_mlt, no_mge, no_mgt, no_mm, no_i01, no_i10, no_in, no_or, no_ifm, no_mul, nI_add, no_sub, pk_div, iI_if, nI_clamp, oI_n, oI_s, not_true_eq_false, not_false_eq_true, forall_const, true_implies, false_and, and_false, or_false, false_or, Classical.not_not, true_or, or_true, no_b, no_eq1, eq_self, and_self, sk_301, sk_302, sl_302, sp_301, e1, e2, e3, e4, iI_sub, iI_eq0, iI_lt0, iI_ge0, iI_gt0, iI_le0])
      | (with_reducible refine ev_gid ?_; simp (disch := first | omega | assumption) only [ev_run_c, ev_run_n, ev_fj, ev_stp, ev_lk, ev_fv, ev_as, ev_sz, ev_st1, ev_st2, ev_rm, ev_pk, ev_Jof, ev_go, lv_args, List.map_cons, List.map_nil, List.zip_cons_cons, List.zip_nil_left, List.zip_nil_right, List.nil_append, List.cons_append, ↓reduceIte, reduceCtorEq, Int.reduceToNat, Nat.reduceEqDiff, Nat.reduceAdd, Nat.reduceLT, Nat.reduceLeDiff, Nat.reduceMul, Value.category, false_implies, true_and, and_true, Bool.false_eq_true, Option.some.injEq, exists_eq_left', Option.toList_some, Option.toList_none, ev_km, ev_k2, ev_k3, ev_k4, ev_k5, ev_l0, ev_l1, sh_1, sh_2, sh_3, sh_4, sh_5, at_X11_isAhead_12, at_X11_isAhead_13, at_X11_isAhead_27, at_X11_isAhead_28, at_X11_isAhead_33, at_X11_isAhead_60, at_X11_isAhead_64, at_X11_isAhead_73, at_X11_isAhead_74, ca_X11_189, ca_X11_388, cd_X11_isAhead_0, cd_X11_isAhead_12, cd_X11_isAhead_13, cd_X11_isAhead_27, cd_X11_isAhead_28, cd_X11_isAhead_33, cd_X11_isAhead_60, cd_X11_isAhead_64, cd_X11_isAhead_73, cd_X11_isAhead_74, no_0, no_1, no_lt, no_le, no_eq, no_lt0, no_ge0, no_gt0, no_le0, no_eq0, no_0eq, no_eqm, no_meq, no_m0, no_mlt, no_mge, no_mgt, no_mm, no_i01, no_i10, no_in, no_or, no_ifm, no_mul, nI_add, no_sub, pk_div, iI_if, nI_clamp, oI_n, oI_s, not_true_eq_false, not_false_eq_true, forall_const, true_implies, false_and, and_false, or_false, false_or, Classical.not_not, true_or, or_true, no_b, no_eq1, eq_self, and_self, sk_301, sk_302, sl_302, sp_301, e1, e2, e3, e4, iI_sub, iI_eq0, iI_lt0, iI_ge0, iI_gt0, iI_le0])
      | (with_reducible refine And.intro (fun q => ?_) (fun q => ?_) <;> (try simp (disch := first | omega | assumption) only [no_0, no_1, no_lt, no_le, no_eq, no_lt0, no_ge0, no_gt0, no_le0, no_eq0, no_0eq, no_eqm, no_meq, no_m0, no_mlt, no_mge, no_mgt, no_mm, no_i01, no_i10, no_in, no_or, no_ifm, no_mul, nI_add, no_sub, pk_div, iI_if, nI_clamp, oI_n, oI_s, not_true_eq_false, not_false_eq_true, forall_const, true_implies, false_and, and_false, or_false, false_or, Classical.not_not, true_or, or_true, no_b, no_eq1, eq_self, and_self, sk_301, sk_302, sl_302, sp_301, e1, e2, e3, e4, iI_sub, iI_eq0, iI_lt0, iI_ge0, iI_gt0, iI_le0] at q))
      | with_reducible refine ev_ci (m_X11_scores hok (by assumption) (by assumption) ?_) ?_
      | with_reducible refine ev_ci (m_X11_total hok (by assumption) (by assumption) ?_) ?_
      | omega
      | assumption
      | with_reducible rfl
      | with_reducible refine lp_nx ?_ ?_ ?_ ?_
      | with_reducible refine lp_st ?_ ?_ ?_
      | with_reducible refine ls_c ?_ ?_
      | with_reducible refine vi_c ?_
      | with_reducible refine re_c ?_
      | with_reducible refine vz_c ?_
      | with_reducible refine rz_c ?_
      | exact trivial
      | with_reducible refine And.intro ?_ ?_
      | simp (disch := first | omega | assumption) only [ev_run_c, ev_run_n, ev_fj, ev_stp, ev_lk, ev_fv, ev_as, ev_sz, ev_st1, ev_st2, ev_rm, ev_pk, ev_Jof, ev_go, lv_args, List.map_cons, List.map_nil, List.zip_cons_cons, List.zip_nil_left, List.zip_nil_right, List.nil_append, List.cons_append, ↓reduceIte, reduceCtorEq, Int.reduceToNat, Nat.reduceEqDiff, Nat.reduceAdd, Nat.reduceLT, Nat.reduceLeDiff, Nat.reduceMul, Value.category, false_implies, true_and, and_true, Bool.false_eq_true, Option.some.injEq, exists_eq_left', Option.toList_some, Option.toList_none, ev_km, ev_k2, ev_k3, ev_k4, ev_k5, ev_l0, ev_l1, sh_1, sh_2, sh_3, sh_4, sh_5, at_X11_isAhead_12, at_X11_isAhead_13, at_X11_isAhead_27, at_X11_isAhead_28, at_X11_isAhead_33, at_X11_isAhead_60, at_X11_isAhead_64, at_X11_isAhead_73, at_X11_isAhead_74, ca_X11_189, ca_X11_388, cd_X11_isAhead_0, cd_X11_isAhead_12, cd_X11_isAhead_13, cd_X11_isAhead_27, cd_X11_isAhead_28, cd_X11_isAhead_33, cd_X11_isAhead_60, cd_X11_isAhead_64, cd_X11_isAhead_73, cd_X11_isAhead_74, no_0, no_1, no_lt, no_le, no_eq, no_lt0, no_ge0, no_gt0, no_le0, no_eq0, no_0eq, no_eqm, no_meq, no_m0, no_mlt, no_mge, no_mgt, no_mm, no_i01, no_i10, no_in, no_or, no_ifm, no_mul, nI_add, no_sub, pk_div, iI_if, nI_clamp, oI_n, oI_s, not_true_eq_false, not_false_eq_true, forall_const, true_implies, false_and, and_false, or_false, false_or, Classical.not_not, true_or, or_true, no_b, no_eq1, eq_self, and_self, sk_301, sk_302, sl_302, sp_301, e1, e2, e3, e4, iI_sub, iI_eq0, iI_lt0, iI_ge0, iI_gt0, iI_le0]
      | exact rfl
      | (split <;> omega))
  · have e : ahd N p o = 0 := by unfold ahd; rw [if_pos e1, if_neg e2]
    rw [e]
    refine ev_tri hok (okM_X11_isAhead 0) (Nat.le_of_ble_eq_true rfl) 400 ?_
    rw [at_X11_isAhead_0]
    repeat' (first
      | (with_reducible refine ev_rid ?_; simp (disch := first | omega | assumption) only [ev_run_c, ev_run_n, ev_fj, ev_stp, ev_lk, ev_fv, ev_as, ev_sz, ev_st1, ev_st2, ev_rm, ev_pk, ev_Jof, ev_go, lv_args, List.map_cons, List.map_nil, List.zip_cons_cons, List.zip_nil_left, List.zip_nil_right, List.nil_append, List.cons_append, ↓reduceIte, reduceCtorEq, Int.reduceToNat, Nat.reduceEqDiff, Nat.reduceAdd, Nat.reduceLT, Nat.reduceLeDiff, Nat.reduceMul, Value.category, false_implies, true_and, and_true, Bool.false_eq_true, Option.some.injEq, exists_eq_left', Option.toList_some, Option.toList_none, ev_km, ev_k2, ev_k3, ev_k4, ev_k5, ev_l0, ev_l1, sh_1, sh_2, sh_3, sh_4, sh_5, at_X11_isAhead_12, at_X11_isAhead_13, at_X11_isAhead_27, at_X11_isAhead_28, at_X11_isAhead_33, at_X11_isAhead_60, at_X11_isAhead_64, at_X11_isAhead_73, at_X11_isAhead_74, ca_X11_189, ca_X11_388, cd_X11_isAhead_0, cd_X11_isAhead_12, cd_X11_isAhead_13, cd_X11_isAhead_27, cd_X11_isAhead_28, cd_X11_isAhead_33, cd_X11_isAhead_60, cd_X11_isAhead_64, cd_X11_isAhead_73, cd_X11_isAhead_74, no_0, no_1, no_lt, no_le, no_eq, no_lt0, no_ge0, no_gt0, no_le0, no_eq0, no_0eq, no_eqm, no_meq, no_m0, no_mlt, no_mge, no_mgt, no_mm, no_i01, no_i10, no_in, no_or, no_ifm, no_mul, nI_add, no_sub, pk_div, iI_if, nI_clamp, oI_n, oI_s, not_true_eq_false, not_false_eq_true, forall_const, true_implies, false_and, and_false, or_false, false_or, Classical.not_not, true_or, or_true, no_b, no_eq1, eq_self, and_self, sk_301, sk_302, sl_302, sp_301, e1])
      | (with_reducible refine ev_gid ?_; simp (disch := first | omega | assumption) only [ev_run_c, ev_run_n, ev_fj, ev_stp, ev_lk, ev_fv, ev_as, ev_sz, ev_st1, ev_st2, ev_rm, ev_pk, ev_Jof, ev_go, lv_args, List.map_cons, List.map_nil, List.zip_cons_cons, List.zip_nil_left, List.zip_nil_right, List.nil_append, List.cons_append, ↓reduceIte, reduceCtorEq, Int.reduceToNat, Nat.reduceEqDiff, Nat.reduceAdd, Nat.reduceLT, Nat.reduceLeDiff, Nat.reduceMul, Value.category, false_implies, true_and, and_true, Bool.false_eq_true, Option.some.injEq, exists_eq_left', Option.toList_some, Option.toList_none, ev_km, ev_k2, ev_k3, ev_k4, ev_k5, ev_l0, ev_l1, sh_1, sh_2, sh_3, sh_4, sh_5, at_X11_isAhead_12, at_X11_isAhead_13, at_X11_isAhead_27, at_X11_isAhead_28, at_X11_isAhead_33, at_X11_isAhead_60, at_X11_isAhead_64, at_X11_isAhead_73, at_X11_isAhead_74, ca_X11_189, ca_X11_388, cd_X11_isAhead_0, cd_X11_isAhead_12, cd_X11_isAhead_13, cd_X11_isAhead_27, cd_X11_isAhead_28, cd_X11_isAhead_33, cd_X11_isAhead_60, cd_X11_isAhead_64, cd_X11_isAhead_73, cd_X11_isAhead_74, no_0, no_1, no_lt, no_le, no_eq, no_lt0, no_ge0, no_gt0, no_le0, no_eq0, no_0eq, no_eqm, no_meq, no_m0, no_mlt, no_mge, no_mgt, no_mm, no_i01, no_i10, no_in, no_or, no_ifm, no_mul, nI_add, no_sub, pk_div, iI_if, nI_clamp, oI_n, oI_s, not_true_eq_false, not_false_eq_true, forall_const, true_implies, false_and, and_false, or_false, false_or, Classical.not_not, true_or, or_true, no_b, no_eq1, eq_self, and_self, sk_301, sk_302, sl_302, sp_301, e1])
      | (with_reducible refine And.intro (fun q => ?_) (fun q => ?_) <;> (try simp (disch := first | omega | assumption) only [no_0, no_1, no_lt, no_le, no_eq, no_lt0, no_ge0, no_gt0, no_le0, no_eq0, no_0eq, no_eqm, no_meq, no_m0, no_mlt, no_mge, no_mgt, no_mm, no_i01, no_i10, no_in, no_or, no_ifm, no_mul, nI_add, no_sub, pk_div, iI_if, nI_clamp, oI_n, oI_s, not_true_eq_false, not_false_eq_true, forall_const, true_implies, false_and, and_false, or_false, false_or, Classical.not_not, true_or, or_true, no_b, no_eq1, eq_self, and_self, sk_301, sk_302, sl_302, sp_301, e1] at q))
      | with_reducible refine ev_ci (m_X11_scores hok (by assumption) (by assumption) ?_) ?_
      | with_reducible refine ev_ci (m_X11_total hok (by assumption) (by assumption) ?_) ?_
      | omega
      | assumption
      | with_reducible rfl
      | with_reducible refine lp_nx ?_ ?_ ?_ ?_
      | with_reducible refine lp_st ?_ ?_ ?_
      | with_reducible refine ls_c ?_ ?_
      | with_reducible refine vi_c ?_
      | with_reducible refine re_c ?_
      | with_reducible refine vz_c ?_
      | with_reducible refine rz_c ?_
      | exact trivial
      | with_reducible refine And.intro ?_ ?_
      | simp (disch := first | omega | assumption) only [ev_run_c, ev_run_n, ev_fj, ev_stp, ev_lk, ev_fv, ev_as, ev_sz, ev_st1, ev_st2, ev_rm, ev_pk, ev_Jof, ev_go, lv_args, List.map_cons, List.map_nil, List.zip_cons_cons, List.zip_nil_left, List.zip_nil_right, List.nil_append, List.cons_append, ↓reduceIte, reduceCtorEq, Int.reduceToNat, Nat.reduceEqDiff, Nat.reduceAdd, Nat.reduceLT, Nat.reduceLeDiff, Nat.reduceMul, Value.category, false_implies, true_and, and_true, Bool.false_eq_true, Option.some.injEq, exists_eq_left', Option.toList_some, Option.toList_none, ev_km, ev_k2, ev_k3, ev_k4, ev_k5, ev_l0, ev_l1, sh_1, sh_2, sh_3, sh_4, sh_5, at_X11_isAhead_12, at_X11_isAhead_13, at_X11_isAhead_27, at_X11_isAhead_28, at_X11_isAhead_33, at_X11_isAhead_60, at_X11_isAhead_64, at_X11_isAhead_73, at_X11_isAhead_74, ca_X11_189, ca_X11_388, cd_X11_isAhead_0, cd_X11_isAhead_12, cd_X11_isAhead_13, cd_X11_isAhead_27, cd_X11_isAhead_28, cd_X11_isAhead_33, cd_X11_isAhead_60, cd_X11_isAhead_64, cd_X11_isAhead_73, cd_X11_isAhead_74, no_0, no_1, no_lt, no_le, no_eq, no_lt0, no_ge0, no_gt0, no_le0, no_eq0, no_0eq, no_eqm, no_meq, no_m0, no_mlt, no_mge, no_mgt, no_mm, no_i01, no_i10, no_in, no_or, no_ifm, no_mul, nI_add, no_sub, pk_div, iI_if, nI_clamp, oI_n, oI_s, not_true_eq_false, not_false_eq_true, forall_const, true_implies, false_and, and_false, or_false, false_or, Classical.not_not, true_or, or_true, no_b, no_eq1, eq_self, and_self, sk_301, sk_302, sl_302, sp_301, e1]
      | exact rfl
      | (split <;> omega))
  · have e : ahd N p o = 1 := by unfold ahd; rw [if_neg e1, if_pos e2]
    rw [e]
    refine ev_tri hok (okM_X11_isAhead 0) (Nat.le_of_ble_eq_true rfl) 400 ?_
    rw [at_X11_isAhead_0]
    repeat' (first
      | (with_reducible refine ev_rid ?_; simp (disch := first | omega | assumption) only [ev_run_c, ev_run_n, ev_fj, ev_stp, ev_lk, ev_fv, ev_as, ev_sz, ev_st1, ev_st2, ev_rm, ev_pk, ev_Jof, ev_go, lv_args, List.map_cons, List.map_nil, List.zip_cons_cons, List.zip_nil_left, List.zip_nil_right, List.nil_append, List.cons_append, ↓reduceIte, reduceCtorEq, Int.reduceToNat, Nat.reduceEqDiff, Nat.reduceAdd, Nat.reduceLT, Nat.reduceLeDiff, Nat.reduceMul, Value.category, false_implies, true_and, and_true, Bool.false_eq_true, Option.some.injEq, exists_eq_left', Option.toList_some, Option.toList_none, ev_km, ev_k2, ev_k3, ev_k4, ev_k5, ev_l0, ev_l1, sh_1, sh_2, sh_3, sh_4, sh_5, at_X11_isAhead_12, at_X11_isAhead_13, at_X11_isAhead_27, at_X11_isAhead_28, at_X11_isAhead_33, at_X11_isAhead_60, at_X11_isAhead_64, at_X11_isAhead_73, at_X11_isAhead_74, ca_X11_189, ca_X11_388, cd_X11_isAhead_0, cd_X11_isAhead_12, cd_X11_isAhead_13, cd_X11_isAhead_27, cd_X11_isAhead_28, cd_X11_isAhead_33, cd_X11_isAhead_60, cd_X11_isAhead_64, cd_X11_isAhead_73, cd_X11_isAhead_74, no_0, no_1, no_lt, no_le, no_eq, no_lt0, no_ge0, no_gt0, no_le0, no_eq0, no_0eq, no_eqm, no_meq, no_m0, no_mlt, no_mge, no_mgt, no_mm, no_i01, no_i10, no_in, no_or, no_ifm, no_mul, nI_add, no_sub, pk_div, iI_if, nI_clamp, oI_n, oI_s, not_true_eq_false, not_false_eq_true, forall_const, true_implies, false_and, and_false, or_false, false_or, Classical.not_not, true_or, or_true, no_b, no_eq1, eq_self, and_self, sk_301, sk_302, sl_302, sp_301, e2])
      | (with_reducible refine ev_gid ?_; simp (disch := first | omega | assumption) only [ev_run_c, ev_run_n, ev_fj, ev_stp, ev_lk, ev_fv, ev_as, ev_sz, ev_st1, ev_st2, ev_rm, ev_pk, ev_Jof, ev_go, lv_args, List.map_cons, List.map_nil, List.zip_cons_cons, List.zip_nil_left, List.zip_nil_right, List.nil_append, List.cons_append, ↓reduceIte, reduceCtorEq, Int.reduceToNat, Nat.reduceEqDiff, Nat.reduceAdd, Nat.reduceLT, Nat.reduceLeDiff, Nat.reduceMul, Value.category, false_implies, true_and, and_true, Bool.false_eq_true, Option.some.injEq, exists_eq_left', Option.toList_some, Option.toList_none, ev_km, ev_k2, ev_k3, ev_k4, ev_k5, ev_l0, ev_l1, sh_1, sh_2, sh_3, sh_4, sh_5, at_X11_isAhead_12, at_X11_isAhead_13, at_X11_isAhead_27, at_X11_isAhead_28, at_X11_isAhead_33, at_X11_isAhead_60, at_X11_isAhead_64, at_X11_isAhead_73, at_X11_isAhead_74, ca_X11_189, ca_X11_388, cd_X11_isAhead_0, cd_X11_isAhead_12, cd_X11_isAhead_13, cd_X11_isAhead_27, cd_X11_isAhead_28, cd_X11_isAhead_33, cd_X11_isAhead_60, cd_X11_isAhead_64, cd_X11_isAhead_73, cd_X11_isAhead_74, no_0, no_1, no_lt, no_le, no_eq, no_lt0, no_ge0, no_gt0, no_le0, no_eq0, no_0eq, no_eqm, no_meq, no_m0, no_mlt, no_mge, no_mgt, no_mm, no_i01, no_i10, no_in, no_or, no_ifm, no_mul, nI_add, no_sub, pk_div, iI_if, nI_clamp, oI_n, oI_s, not_true_eq_false, not_false_eq_true, forall_const, true_implies, false_and, and_false, or_false, false_or, Classical.not_not, true_or, or_true, no_b, no_eq1, eq_self, and_self, sk_301, sk_302, sl_302, sp_301, e2])
      | (with_reducible refine And.intro (fun q => ?_) (fun q => ?_) <;> (try simp (disch := first | omega | assumption) only [no_0, no_1, no_lt, no_le, no_eq, no_lt0, no_ge0, no_gt0, no_le0, no_eq0, no_0eq, no_eqm, no_meq, no_m0, no_mlt, no_mge, no_mgt, no_mm, no_i01, no_i10, no_in, no_or, no_ifm, no_mul, nI_add, no_sub, pk_div, iI_if, nI_clamp, oI_n, oI_s, not_true_eq_false, not_false_eq_true, forall_const, true_implies, false_and, and_false, or_false, false_or, Classical.not_not, true_or, or_true, no_b, no_eq1, eq_self, and_self, sk_301, sk_302, sl_302, sp_301, e2] at q))
      | with_reducible refine ev_ci (m_X11_scores hok (by assumption) (by assumption) ?_) ?_
      | with_reducible refine ev_ci (m_X11_total hok (by assumption) (by assumption) ?_) ?_
      | omega
      | assumption
      | with_reducible rfl
      | with_reducible refine lp_nx ?_ ?_ ?_ ?_
      | with_reducible refine lp_st ?_ ?_ ?_
      | with_reducible refine ls_c ?_ ?_
      | with_reducible refine vi_c ?_
      | with_reducible refine re_c ?_
      | with_reducible refine vz_c ?_
      | with_reducible refine rz_c ?_
      | exact trivial
      | with_reducible refine And.intro ?_ ?_
      | simp (disch := first | omega | assumption) only [ev_run_c, ev_run_n, ev_fj, ev_stp, ev_lk, ev_fv, ev_as, ev_sz, ev_st1, ev_st2, ev_rm, ev_pk, ev_Jof, ev_go, lv_args, List.map_cons, List.map_nil, List.zip_cons_cons, List.zip_nil_left, List.zip_nil_right, List.nil_append, List.cons_append, ↓reduceIte, reduceCtorEq, Int.reduceToNat, Nat.reduceEqDiff, Nat.reduceAdd, Nat.reduceLT, Nat.reduceLeDiff, Nat.reduceMul, Value.category, false_implies, true_and, and_true, Bool.false_eq_true, Option.some.injEq, exists_eq_left', Option.toList_some, Option.toList_none, ev_km, ev_k2, ev_k3, ev_k4, ev_k5, ev_l0, ev_l1, sh_1, sh_2, sh_3, sh_4, sh_5, at_X11_isAhead_12, at_X11_isAhead_13, at_X11_isAhead_27, at_X11_isAhead_28, at_X11_isAhead_33, at_X11_isAhead_60, at_X11_isAhead_64, at_X11_isAhead_73, at_X11_isAhead_74, ca_X11_189, ca_X11_388, cd_X11_isAhead_0, cd_X11_isAhead_12, cd_X11_isAhead_13, cd_X11_isAhead_27, cd_X11_isAhead_28, cd_X11_isAhead_33, cd_X11_isAhead_60, cd_X11_isAhead_64, cd_X11_isAhead_73, cd_X11_isAhead_74, no_0, no_1, no_lt, no_le, no_eq, no_lt0, no_ge0, no_gt0, no_le0, no_eq0, no_0eq, no_eqm, no_meq, no_m0, no_mlt, no_mge, no_mgt, no_mm, no_i01, no_i10, no_in, no_or, no_ifm, no_mul, nI_add, no_sub, pk_div, iI_if, nI_clamp, oI_n, oI_s, not_true_eq_false, not_false_eq_true, forall_const, true_implies, false_and, and_false, or_false, false_or, Classical.not_not, true_or, or_true, no_b, no_eq1, eq_self, and_self, sk_301, sk_302, sl_302, sp_301, e2]
      | exact rfl
      | (split <;> omega))
  · have e : ahd N p o = if tot N p = tot N o then (if p < o then 1 else 0) else if tot N o < tot N p then 1 else 0 := by unfold ahd; rw [if_neg e1, if_neg e2]
    rw [e]
    refine ev_tri hok (okM_X11_isAhead 0) (Nat.le_of_ble_eq_true rfl) 400 ?_
    rw [at_X11_isAhead_0]
    repeat' (first
      | (with_reducible refine ev_rid ?_; simp (disch := first | omega | assumption) only [ev_run_c, ev_run_n, ev_fj, ev_stp, ev_lk, ev_fv, ev_as, ev_sz, ev_st1, ev_st2, ev_rm, ev_pk, ev_Jof, ev_go, lv_args, List.map_cons, List.map_nil, List.zip_cons_cons, List.zip_nil_left, List.zip_nil_right, List.nil_append, List.cons_append, ↓reduceIte, reduceCtorEq, Int.reduceToNat, Nat.reduceEqDiff, Nat.reduceAdd, Nat.reduceLT, Nat.reduceLeDiff, Nat.reduceMul, Value.category, false_implies, true_and, and_true, Bool.false_eq_true, Option.some.injEq, exists_eq_left', Option.toList_some, Option.toList_none, ev_km, ev_k2, ev_k3, ev_k4, ev_k5, ev_l0, ev_l1, sh_1, sh_2, sh_3, sh_4, sh_5, at_X11_isAhead_12, at_X11_isAhead_13, at_X11_isAhead_27, at_X11_isAhead_28, at_X11_isAhead_33, at_X11_isAhead_60, at_X11_isAhead_64, at_X11_isAhead_73, at_X11_isAhead_74, ca_X11_189, ca_X11_388, cd_X11_isAhead_0, cd_X11_isAhead_12, cd_X11_isAhead_13, cd_X11_isAhead_27, cd_X11_isAhead_28, cd_X11_isAhead_33, cd_X11_isAhead_60, cd_X11_isAhead_64, cd_X11_isAhead_73, cd_X11_isAhead_74, no_0, no_1, no_lt, no_le, no_eq, no_lt0, no_ge0, no_gt0, no_le0, no_eq0, no_0eq, no_eqm, no_meq, no_m0, no_mlt, no_mge, no_mgt, no_mm, no_i01, no_i10, no_in, no_or, no_ifm, no_mul, nI_add, no_sub, pk_div, iI_if, nI_clamp, oI_n, oI_s, not_true_eq_false, not_false_eq_true, forall_const, true_implies, false_and, and_false, or_false, false_or, Classical.not_not, true_or, or_true, no_b, no_eq1, eq_self, and_self, sk_301, sk_302, sl_302, sp_301, iI_sub, iI_eq0, iI_lt0, iI_ge0, iI_gt0, iI_le0])
      | (with_reducible refine ev_gid ?_; simp (disch := first | omega | assumption) only [ev_run_c, ev_run_n, ev_fj, ev_stp, ev_lk, ev_fv, ev_as, ev_sz, ev_st1, ev_st2, ev_rm, ev_pk, ev_Jof, ev_go, lv_args, List.map_cons, List.map_nil, List.zip_cons_cons, List.zip_nil_left, List.zip_nil_right, List.nil_append, List.cons_append, ↓reduceIte, reduceCtorEq, Int.reduceToNat, Nat.reduceEqDiff, Nat.reduceAdd, Nat.reduceLT, Nat.reduceLeDiff, Nat.reduceMul, Value.category, false_implies, true_and, and_true, Bool.false_eq_true, Option.some.injEq, exists_eq_left', Option.toList_some, Option.toList_none, ev_km, ev_k2, ev_k3, ev_k4, ev_k5, ev_l0, ev_l1, sh_1, sh_2, sh_3, sh_4, sh_5, at_X11_isAhead_12, at_X11_isAhead_13, at_X11_isAhead_27, at_X11_isAhead_28, at_X11_isAhead_33, at_X11_isAhead_60, at_X11_isAhead_64, at_X11_isAhead_73, at_X11_isAhead_74, ca_X11_189, ca_X11_388, cd_X11_isAhead_0, cd_X11_isAhead_12, cd_X11_isAhead_13, cd_X11_isAhead_27, cd_X11_isAhead_28, cd_X11_isAhead_33, cd_X11_isAhead_60, cd_X11_isAhead_64, cd_X11_isAhead_73, cd_X11_isAhead_74, no_0, no_1, no_lt, no_le, no_eq, no_lt0, no_ge0, no_gt0, no_le0, no_eq0, no_0eq, no_eqm, no_meq, no_m0, no_mlt, no_mge, no_mgt, no_mm, no_i01, no_i10, no_in, no_or, no_ifm, no_mul, nI_add, no_sub, pk_div, iI_if, nI_clamp, oI_n, oI_s, not_true_eq_false, not_false_eq_true, forall_const, true_implies, false_and, and_false, or_false, false_or, Classical.not_not, true_or, or_true, no_b, no_eq1, eq_self, and_self, sk_301, sk_302, sl_302, sp_301, iI_sub, iI_eq0, iI_lt0, iI_ge0, iI_gt0, iI_le0])
      | (with_reducible refine And.intro (fun q => ?_) (fun q => ?_) <;> (try simp (disch := first | omega | assumption) only [no_0, no_1, no_lt, no_le, no_eq, no_lt0, no_ge0, no_gt0, no_le0, no_eq0, no_0eq, no_eqm, no_meq, no_m0, no_mlt, no_mge, no_mgt, no_mm, no_i01, no_i10, no_in, no_or, no_ifm, no_mul, nI_add, no_sub, pk_div, iI_if, nI_clamp, oI_n, oI_s, not_true_eq_false, not_false_eq_true, forall_const, true_implies, false_and, and_false, or_false, false_or, Classical.not_not, true_or, or_true, no_b, no_eq1, eq_self, and_self, sk_301, sk_302, sl_302, sp_301, iI_sub, iI_eq0, iI_lt0, iI_ge0, iI_gt0, iI_le0] at q))
      | with_reducible refine ev_ci (m_X11_scores hok (by assumption) (by assumption) ?_) ?_
      | with_reducible refine ev_ci (m_X11_total hok (by assumption) (by assumption) ?_) ?_
      | omega
      | assumption
      | with_reducible rfl
      | ((repeat' split) <;> omega)
      | with_reducible refine lp_nx ?_ ?_ ?_ ?_
      | with_reducible refine lp_st ?_ ?_ ?_
      | with_reducible refine ls_c ?_ ?_
      | with_reducible refine vi_c ?_
      | with_reducible refine re_c ?_
      | with_reducible refine vz_c ?_
      | with_reducible refine rz_c ?_
      | exact trivial
      | with_reducible refine And.intro ?_ ?_
      | simp (disch := first | omega | assumption) only [ev_run_c, ev_run_n, ev_fj, ev_stp, ev_lk, ev_fv, ev_as, ev_sz, ev_st1, ev_st2, ev_rm, ev_pk, ev_Jof, ev_go, lv_args, List.map_cons, List.map_nil, List.zip_cons_cons, List.zip_nil_left, List.zip_nil_right, List.nil_append, List.cons_append, ↓reduceIte, reduceCtorEq, Int.reduceToNat, Nat.reduceEqDiff, Nat.reduceAdd, Nat.reduceLT, Nat.reduceLeDiff, Nat.reduceMul, Value.category, false_implies, true_and, and_true, Bool.false_eq_true, Option.some.injEq, exists_eq_left', Option.toList_some, Option.toList_none, ev_km, ev_k2, ev_k3, ev_k4, ev_k5, ev_l0, ev_l1, sh_1, sh_2, sh_3, sh_4, sh_5, at_X11_isAhead_12, at_X11_isAhead_13, at_X11_isAhead_27, at_X11_isAhead_28, at_X11_isAhead_33, at_X11_isAhead_60, at_X11_isAhead_64, at_X11_isAhead_73, at_X11_isAhead_74, ca_X11_189, ca_X11_388, cd_X11_isAhead_0, cd_X11_isAhead_12, cd_X11_isAhead_13, cd_X11_isAhead_27, cd_X11_isAhead_28, cd_X11_isAhead_33, cd_X11_isAhead_60, cd_X11_isAhead_64, cd_X11_isAhead_73, cd_X11_isAhead_74, no_0, no_1, no_lt, no_le, no_eq, no_lt0, no_ge0, no_gt0, no_le0, no_eq0, no_0eq, no_eqm, no_meq, no_m0, no_mlt, no_mge, no_mgt, no_mm, no_i01, no_i10, no_in, no_or, no_ifm, no_mul, nI_add, no_sub, pk_div, iI_if, nI_clamp, oI_n, oI_s, not_true_eq_false, not_false_eq_true, forall_const, true_implies, false_and, and_false, or_false, false_or, Classical.not_not, true_or, or_true, no_b, no_eq1, eq_self, and_self, sk_301, sk_302, sl_302, sp_301, iI_sub, iI_eq0, iI_lt0, iI_ge0, iI_gt0, iI_le0]
      | exact rfl
      | (split <;> omega))
def rnk (N : Nat → Nat) (q : Nat) : Nat → Nat := sm (fun o => if o = q then 0 else ahd N o q)
theorem ahd_le (N : Nat → Nat) (p o : Nat) : ahd N p o ≤ 1 := by unfold ahd; (repeat' split) <;> omega
theorem rnk_le (N : Nat → Nat) (q n : Nat) : rnk N q n ≤ n := by
  have := sm_le (f := fun o => if o = q then 0 else ahd N o q) (B := 1) n (fun k _ => by have := ahd_le N k q; (try dsimp only); split <;> omega)
  unfold rnk; omega
theorem rnk_1 {q k : Nat} (h : k = q) : rnk N q (k + 1) = rnk N q k := by show rnk N q k + (if k = q then 0 else ahd N k q) = _; rw [if_pos h, Nat.add_zero]
theorem rnk_2 {q k : Nat} (h : ¬ k = q) : rnk N q (k + 1) = rnk N q k + ahd N k q := by show rnk N q k + (if k = q then 0 else ahd N k q) = _; rw [if_neg h]
theorem m_X11_rank (hok : ev_ok sh_S G) (hN : MR N μ) (hI : INV N) {q : Nat} (hq : q < 10) : ev_T sh_S G mi_X11_rank [.ref 301, .int (nI q)] μ (.inl (some (.int (nI (rnk N q (N 1)))), μ)) := by
  have hh := iv_h hI
  have hN' : ∀ k, k < 1042 → μ.1 302 k = nI (N k) := hN
  refine ev_tri1 hok (okM_X11_rank 0) (Nat.le_of_ble_eq_true rfl) 4 [0, 1, 2, 3] (N 1) 400 (fun k => [.ref 301, .int (nI q), .int (nI (rnk N q k)), .int (nI k)]) (fun _ => μ) (fun _ => True) ?_ ?_
  · intro k hk _
    rw [at_X11_rank_4]
    rcases Nat.lt_or_ge k (N 1) with hkn | hkn
    · have h1 := ahd_le N k q
      by_cases h : k = q
      · repeat' (first
          | (with_reducible refine ev_rid ?_; simp (disch := first | omega | assumption) only [ev_run_c, ev_run_n, ev_fj, ev_stp, ev_lk, ev_fv, ev_as, ev_sz, ev_st1, ev_st2, ev_rm, ev_pk, ev_Jof, ev_go, lv_args, List.map_cons, List.map_nil, List.zip_cons_cons, List.zip_nil_left, List.zip_nil_right, List.nil_append, List.cons_append, ↓reduceIte, reduceCtorEq, Int.reduceToNat, Nat.reduceEqDiff, Nat.reduceAdd, Nat.reduceLT, Nat.reduceLeDiff, Nat.reduceMul, Value.category, false_implies, true_and, and_true, Bool.false_eq_true, Option.some.injEq, exists_eq_left', Option.toList_some, Option.toList_none, ev_km, ev_k2, ev_k3, ev_k4, ev_k5, ev_l0, ev_l1, sh_1, sh_2, sh_3, sh_4, sh_5, at_X11_rank_33, at_X11_rank_34, at_X11_rank_4, at_X11_rank_45, ca_X11_325, ca_X11_391, cd_X11_rank_0, cd_X11_rank_33, cd_X11_rank_34, cd_X11_rank_4, cd_X11_rank_45, fl_X11_9, no_0, no_1, no_lt, no_le, no_eq, no_lt0, no_ge0, no_gt0, no_le0, no_eq0, no_0eq, no_eqm, no_meq, no_m0, no_mlt, no_mge, no_mgt, no_mm, no_i01, no_i10, no_in, no_or, no_ifm, no_mul, nI_add, no_sub, pk_div, iI_if, nI_clamp, oI_n, oI_s, not_true_eq_false, not_false_eq_true, forall_const, true_implies, false_and, and_false, or_false, false_or, Classical.not_not, true_or, or_true, no_b, no_eq1, eq_self, and_self, sk_301, sk_302, sl_302, sp_301, hN', rnk_1 h])
          | (with_reducible refine ev_gid ?_; simp (disch := first | omega | assumption) only [ev_run_c, ev_run_n, ev_fj, ev_stp, ev_lk, ev_fv, ev_as, ev_sz, ev_st1, ev_st2, ev_rm, ev_pk, ev_Jof, ev_go, lv_args, List.map_cons, List.map_nil, List.zip_cons_cons, List.zip_nil_left, List.zip_nil_right, List.nil_append, List.cons_append, ↓reduceIte, reduceCtorEq, Int.reduceToNat, Nat.reduceEqDiff, Nat.reduceAdd, Nat.reduceLT, Nat.reduceLeDiff, Nat.reduceMul, Value.category, false_implies, true_and, and_true, Bool.false_eq_true, Option.some.injEq, exists_eq_left', Option.toList_some, Option.toList_none, ev_km, ev_k2, ev_k3, ev_k4, ev_k5, ev_l0, ev_l1, sh_1, sh_2, sh_3, sh_4, sh_5, at_X11_rank_33, at_X11_rank_34, at_X11_rank_4, at_X11_rank_45, ca_X11_325, ca_X11_391, cd_X11_rank_0, cd_X11_rank_33, cd_X11_rank_34, cd_X11_rank_4, cd_X11_rank_45, fl_X11_9, no_0, no_1, no_lt, no_le, no_eq, no_lt0, no_ge0, no_gt0, no_le0, no_eq0, no_0eq, no_eqm, no_meq, no_m0, no_mlt, no_mge, no_mgt, no_mm, no_i01, no_i10, no_in, no_or, no_ifm, no_mul, nI_add, no_sub, pk_div, iI_if, nI_clamp, oI_n, oI_s, not_true_eq_false, not_false_eq_true, forall_const, true_implies, false_and, and_false, or_false, false_or, Classical.not_not, true_or, or_true, no_b, no_eq1, eq_self, and_self, sk_301, sk_302, sl_302, sp_301, hN', rnk_1 h])
          | (with_reducible refine And.intro (fun q => ?_) (fun q => ?_) <;> (try simp (disch := first | omega | assumption) only [no_0, no_1, no_lt, no_le, no_eq, no_lt0, no_ge0, no_gt0, no_le0, no_eq0, no_0eq, no_eqm, no_meq, no_m0, no_mlt, no_mge, no_mgt, no_mm, no_i01, no_i10, no_in, no_or, no_ifm, no_mul, nI_add, no_sub, pk_div, iI_if, nI_clamp, oI_n, oI_s, not_true_eq_false, not_false_eq_true, forall_const, true_implies, false_and, and_false, or_false, false_or, Classical.not_not, true_or, or_true, no_b, no_eq1, eq_self, and_self, sk_301, sk_302, sl_302, sp_301, hN', rnk_1 h] at q))
          | with_reducible refine ev_ci (m_X11_isAhead hok (by assumption) (by assumption) ?_ ?_) ?_
          | with_reducible refine ev_ci (m_X11_one hok _ ?_) ?_
          | omega
          | assumption
          | with_reducible rfl
          | with_reducible refine lp_nx ?_ ?_ ?_ ?_
          | with_reducible refine lp_st ?_ ?_ ?_
          | with_reducible refine ls_c ?_ ?_
          | with_reducible refine vi_c ?_
          | with_reducible refine re_c ?_
          | with_reducible refine vz_c ?_
          | with_reducible refine rz_c ?_
          | exact trivial
          | with_reducible refine And.intro ?_ ?_
          | simp (disch := first | omega | assumption) only [ev_run_c, ev_run_n, ev_fj, ev_stp, ev_lk, ev_fv, ev_as, ev_sz, ev_st1, ev_st2, ev_rm, ev_pk, ev_Jof, ev_go, lv_args, List.map_cons, List.map_nil, List.zip_cons_cons, List.zip_nil_left, List.zip_nil_right, List.nil_append, List.cons_append, ↓reduceIte, reduceCtorEq, Int.reduceToNat, Nat.reduceEqDiff, Nat.reduceAdd, Nat.reduceLT, Nat.reduceLeDiff, Nat.reduceMul, Value.category, false_implies, true_and, and_true, Bool.false_eq_true, Option.some.injEq, exists_eq_left', Option.toList_some, Option.toList_none, ev_km, ev_k2, ev_k3, ev_k4, ev_k5, ev_l0, ev_l1, sh_1, sh_2, sh_3, sh_4, sh_5, at_X11_rank_33, at_X11_rank_34, at_X11_rank_4, at_X11_rank_45, ca_X11_325, ca_X11_391, cd_X11_rank_0, cd_X11_rank_33, cd_X11_rank_34, cd_X11_rank_4, cd_X11_rank_45, fl_X11_9, no_0, no_1, no_lt, no_le, no_eq, no_lt0, no_ge0, no_gt0, no_le0, no_eq0, no_0eq, no_eqm, no_meq, no_m0, no_mlt, no_mge, no_mgt, no_mm, no_i01, no_i10, no_in, no_or, no_ifm, no_mul, nI_add, no_sub, pk_div, iI_if, nI_clamp, oI_n, oI_s, not_true_eq_false, not_false_eq_true, forall_const, true_implies, false_and, and_false, or_false, false_or, Classical.not_not, true_or, or_true, no_b, no_eq1, eq_self, and_self, sk_301, sk_302, sl_302, sp_301, hN', rnk_1 h]
          | exact rfl
          | (split <;> omega))
      · have h2 := rnk_2 (N := N) h
        repeat' (first
          | (with_reducible refine ev_rid ?_; simp (disch := first | omega | assumption) only [ev_run_c, ev_run_n, ev_fj, ev_stp, ev_lk, ev_fv, ev_as, ev_sz, ev_st1, ev_st2, ev_rm, ev_pk, ev_Jof, ev_go, lv_args, List.map_cons, List.map_nil, List.zip_cons_cons, List.zip_nil_left, List.zip_nil_right, List.nil_append, List.cons_append, ↓reduceIte, reduceCtorEq, Int.reduceToNat, Nat.reduceEqDiff, Nat.reduceAdd, Nat.reduceLT, Nat.reduceLeDiff, Nat.reduceMul, Value.category, false_implies, true_and, and_true, Bool.false_eq_true, Option.some.injEq, exists_eq_left', Option.toList_some, Option.toList_none, ev_km, ev_k2, ev_k3, ev_k4, ev_k5, ev_l0, ev_l1, sh_1, sh_2, sh_3, sh_4, sh_5, at_X11_rank_33, at_X11_rank_34, at_X11_rank_4, at_X11_rank_45, ca_X11_325, ca_X11_391, cd_X11_rank_0, cd_X11_rank_33, cd_X11_rank_34, cd_X11_rank_4, cd_X11_rank_45, fl_X11_9, no_0, no_1, no_lt, no_le, no_eq, no_lt0, no_ge0, no_gt0, no_le0, no_eq0, no_0eq, no_eqm, no_meq, no_m0, no_mlt, no_mge, no_mgt, no_mm, no_i01, no_i10, no_in, no_or, no_ifm, no_mul, nI_add, no_sub, pk_div, iI_if, nI_clamp, oI_n, oI_s, not_true_eq_false, not_false_eq_true, forall_const, true_implies, false_and, and_false, or_false, false_or, Classical.not_not, true_or, or_true, no_b, no_eq1, eq_self, and_self, sk_301, sk_302, sl_302, sp_301, hN', h])
          | (with_reducible refine ev_gid ?_; simp (disch := first | omega | assumption) only [ev_run_c, ev_run_n, ev_fj, ev_stp, ev_lk, ev_fv, ev_as, ev_sz, ev_st1, ev_st2, ev_rm, ev_pk, ev_Jof, ev_go, lv_args, List.map_cons, List.map_nil, List.zip_cons_cons, List.zip_nil_left, List.zip_nil_right, List.nil_append, List.cons_append, ↓reduceIte, reduceCtorEq, Int.reduceToNat, Nat.reduceEqDiff, Nat.reduceAdd, Nat.reduceLT, Nat.reduceLeDiff, Nat.reduceMul, Value.category, false_implies, true_and, and_true, Bool.false_eq_true, Option.some.injEq, exists_eq_left', Option.toList_some, Option.toList_none, ev_km, ev_k2, ev_k3, ev_k4, ev_k5, ev_l0, ev_l1, sh_1, sh_2, sh_3, sh_4, sh_5, at_X11_rank_33, at_X11_rank_34, at_X11_rank_4, at_X11_rank_45, ca_X11_325, ca_X11_391, cd_X11_rank_0, cd_X11_rank_33, cd_X11_rank_34, cd_X11_rank_4, cd_X11_rank_45, fl_X11_9, no_0, no_1, no_lt, no_le, no_eq, no_lt0, no_ge0, no_gt0, no_le0, no_eq0, no_0eq, no_eqm, no_meq, no_m0, no_mlt, no_mge, no_mgt, no_mm, no_i01, no_i10, no_in, no_or, no_ifm, no_mul, nI_add, no_sub, pk_div, iI_if, nI_clamp, oI_n, oI_s, not_true_eq_false, not_false_eq_true, forall_const, true_implies, false_and, and_false, or_false, false_or, Classical.not_not, true_or, or_true, no_b, no_eq1, eq_self, and_self, sk_301, sk_302, sl_302, sp_301, hN', h])
          | (with_reducible refine And.intro (fun q => ?_) (fun q => ?_) <;> (try simp (disch := first | omega | assumption) only [no_0, no_1, no_lt, no_le, no_eq, no_lt0, no_ge0, no_gt0, no_le0, no_eq0, no_0eq, no_eqm, no_meq, no_m0, no_mlt, no_mge, no_mgt, no_mm, no_i01, no_i10, no_in, no_or, no_ifm, no_mul, nI_add, no_sub, pk_div, iI_if, nI_clamp, oI_n, oI_s, not_true_eq_false, not_false_eq_true, forall_const, true_implies, false_and, and_false, or_false, false_or, Classical.not_not, true_or, or_true, no_b, no_eq1, eq_self, and_self, sk_301, sk_302, sl_302, sp_301, hN', h] at q))
          | with_reducible refine ev_ci (m_X11_isAhead hok (by assumption) (by assumption) ?_ ?_) ?_
          | with_reducible refine ev_ci (m_X11_one hok _ ?_) ?_
          | omega
          | assumption
          | with_reducible rfl
          | with_reducible refine lp_nx ?_ ?_ ?_ ?_
          | with_reducible refine lp_st ?_ ?_ ?_
          | with_reducible refine ls_c ?_ ?_
          | with_reducible refine vi_c ?_
          | with_reducible refine re_c ?_
          | with_reducible refine vz_c ?_
          | with_reducible refine rz_c ?_
          | exact trivial
          | with_reducible refine And.intro ?_ ?_
          | simp (disch := first | omega | assumption) only [ev_run_c, ev_run_n, ev_fj, ev_stp, ev_lk, ev_fv, ev_as, ev_sz, ev_st1, ev_st2, ev_rm, ev_pk, ev_Jof, ev_go, lv_args, List.map_cons, List.map_nil, List.zip_cons_cons, List.zip_nil_left, List.zip_nil_right, List.nil_append, List.cons_append, ↓reduceIte, reduceCtorEq, Int.reduceToNat, Nat.reduceEqDiff, Nat.reduceAdd, Nat.reduceLT, Nat.reduceLeDiff, Nat.reduceMul, Value.category, false_implies, true_and, and_true, Bool.false_eq_true, Option.some.injEq, exists_eq_left', Option.toList_some, Option.toList_none, ev_km, ev_k2, ev_k3, ev_k4, ev_k5, ev_l0, ev_l1, sh_1, sh_2, sh_3, sh_4, sh_5, at_X11_rank_33, at_X11_rank_34, at_X11_rank_4, at_X11_rank_45, ca_X11_325, ca_X11_391, cd_X11_rank_0, cd_X11_rank_33, cd_X11_rank_34, cd_X11_rank_4, cd_X11_rank_45, fl_X11_9, no_0, no_1, no_lt, no_le, no_eq, no_lt0, no_ge0, no_gt0, no_le0, no_eq0, no_0eq, no_eqm, no_meq, no_m0, no_mlt, no_mge, no_mgt, no_mm, no_i01, no_i10, no_in, no_or, no_ifm, no_mul, nI_add, no_sub, pk_div, iI_if, nI_clamp, oI_n, oI_s, not_true_eq_false, not_false_eq_true, forall_const, true_implies, false_and, and_false, or_false, false_or, Classical.not_not, true_or, or_true, no_b, no_eq1, eq_self, and_self, sk_301, sk_302, sl_302, sp_301, hN', h]
          | exact rfl
          | (split <;> omega))
    · have hkn : N 1 = k := by omega
      subst hkn
      repeat' (first
        | (with_reducible refine ev_rid ?_; simp (disch := first | omega | assumption) only [ev_run_c, ev_run_n, ev_fj, ev_stp, ev_lk, ev_fv, ev_as, ev_sz, ev_st1, ev_st2, ev_rm, ev_pk, ev_Jof, ev_go, lv_args, List.map_cons, List.map_nil, List.zip_cons_cons, List.zip_nil_left, List.zip_nil_right, List.nil_append, List.cons_append, ↓reduceIte, reduceCtorEq, Int.reduceToNat, Nat.reduceEqDiff, Nat.reduceAdd, Nat.reduceLT, Nat.reduceLeDiff, Nat.reduceMul, Value.category, false_implies, true_and, and_true, Bool.false_eq_true, Option.some.injEq, exists_eq_left', Option.toList_some, Option.toList_none, ev_km, ev_k2, ev_k3, ev_k4, ev_k5, ev_l0, ev_l1, sh_1, sh_2, sh_3, sh_4, sh_5, at_X11_rank_33, at_X11_rank_34, at_X11_rank_4, at_X11_rank_45, ca_X11_325, ca_X11_391, cd_X11_rank_0, cd_X11_rank_33, cd_X11_rank_34, cd_X11_rank_4, cd_X11_rank_45, fl_X11_9, no_0, no_1, no_lt, no_le, no_eq, no_lt0, no_ge0, no_gt0, no_le0, no_eq0, no_0eq, no_eqm, no_meq, no_m0, no_mlt, no_mge, no_mgt, no_mm, no_i01, no_i10, no_in, no_or, no_ifm, no_mul, nI_add, no_sub, pk_div, iI_if, nI_clamp, oI_n, oI_s, not_true_eq_false, not_false_eq_true, forall_const, true_implies, false_and, and_false, or_false, false_or, Classical.not_not, true_or, or_true, no_b, no_eq1, eq_self, and_self, sk_301, sk_302, sl_302, sp_301, hN'])
        | (with_reducible refine ev_gid ?_; simp (disch := first | omega | assumption) only [ev_run_c, ev_run_n, ev_fj, ev_stp, ev_lk, ev_fv, ev_as, ev_sz, ev_st1, ev_st2, ev_rm, ev_pk, ev_Jof, ev_go, lv_args, List.map_cons, List.map_nil, List.zip_cons_cons, List.zip_nil_left, List.zip_nil_right, List.nil_append, List.cons_append, ↓reduceIte, reduceCtorEq, Int.reduceToNat, Nat.reduceEqDiff, Nat.reduceAdd, Nat.reduceLT, Nat.reduceLeDiff, Nat.reduceMul, Value.category, false_implies, true_and, and_true, Bool.false_eq_true, Option.some.injEq, exists_eq_left', Option.toList_some, Option.toList_none, ev_km, ev_k2, ev_k3, ev_k4, ev_k5, ev_l0, ev_l1, sh_1, sh_2, sh_3, sh_4, sh_5, at_X11_rank_33, at_X11_rank_34, at_X11_rank_4, at_X11_rank_45, ca_X11_325, ca_X11_391, cd_X11_rank_0, cd_X11_rank_33, cd_X11_rank_34, cd_X11_rank_4, cd_X11_rank_45, fl_X11_9, no_0, no_1, no_lt, no_le, no_eq, no_lt0, no_ge0, no_gt0, no_le0, no_eq0, no_0eq, no_eqm, no_meq, no_m0, no_mlt, no_mge, no_mgt, no_mm, no_i01, no_i10, no_in, no_or, no_ifm, no_mul, nI_add, no_sub, pk_div, iI_if, nI_clamp, oI_n, oI_s, not_true_eq_false, not_false_eq_true, forall_const, true_implies, false_and, and_false, or_false, false_or, Classical.not_not, true_or, or_true, no_b, no_eq1, eq_self, and_self, sk_301, sk_302, sl_302, sp_301, hN'])
        | (with_reducible refine And.intro (fun q => ?_) (fun q => ?_) <;> (try simp (disch := first | omega | assumption) only [no_0, no_1, no_lt, no_le, no_eq, no_lt0, no_ge0, no_gt0, no_le0, no_eq0, no_0eq, no_eqm, no_meq, no_m0, no_mlt, no_mge, no_mgt, no_mm, no_i01, no_i10, no_in, no_or, no_ifm, no_mul, nI_add, no_sub, pk_div, iI_if, nI_clamp, oI_n, oI_s, not_true_eq_false, not_false_eq_true, forall_const, true_implies, false_and, and_false, or_false, false_or, Classical.not_not, true_or, or_true, no_b, no_eq1, eq_self, and_self, sk_301, sk_302, sl_302, sp_301, hN'] at q))
        | with_reducible refine ev_ci (m_X11_isAhead hok (by assumption) (by assumption) ?_ ?_) ?_
        | with_reducible refine ev_ci (m_X11_one hok _ ?_) ?_
        | omega
        | assumption
        | with_reducible rfl
        | with_reducible refine lp_nx ?_ ?_ ?_ ?_
        | with_reducible refine lp_st ?_ ?_ ?_
        | with_reducible refine ls_c ?_ ?_
        | with_reducible refine vi_c ?_
        | with_reducible refine re_c ?_
        | with_reducible refine vz_c ?_
        | with_reducible refine rz_c ?_
        | exact trivial
        | with_reducible refine And.intro ?_ ?_
        | simp (disch := first | omega | assumption) only [ev_run_c, ev_run_n, ev_fj, ev_stp, ev_lk, ev_fv, ev_as, ev_sz, ev_st1, ev_st2, ev_rm, ev_pk, ev_Jof, ev_go, lv_args, List.map_cons, List.map_nil, List.zip_cons_cons, List.zip_nil_left, List.zip_nil_right, List.nil_append, List.cons_append, ↓reduceIte, reduceCtorEq, Int.reduceToNat, Nat.reduceEqDiff, Nat.reduceAdd, Nat.reduceLT, Nat.reduceLeDiff, Nat.reduceMul, Value.category, false_implies, true_and, and_true, Bool.false_eq_true, Option.some.injEq, exists_eq_left', Option.toList_some, Option.toList_none, ev_km, ev_k2, ev_k3, ev_k4, ev_k5, ev_l0, ev_l1, sh_1, sh_2, sh_3, sh_4, sh_5, at_X11_rank_33, at_X11_rank_34, at_X11_rank_4, at_X11_rank_45, ca_X11_325, ca_X11_391, cd_X11_rank_0, cd_X11_rank_33, cd_X11_rank_34, cd_X11_rank_4, cd_X11_rank_45, fl_X11_9, no_0, no_1, no_lt, no_le, no_eq, no_lt0, no_ge0, no_gt0, no_le0, no_eq0, no_0eq, no_eqm, no_meq, no_m0, no_mlt, no_mge, no_mgt, no_mm, no_i01, no_i10, no_in, no_or, no_ifm, no_mul, nI_add, no_sub, pk_div, iI_if, nI_clamp, oI_n, oI_s, not_true_eq_false, not_false_eq_true, forall_const, true_implies, false_and, and_false, or_false, false_or, Classical.not_not, true_or, or_true, no_b, no_eq1, eq_self, and_self, sk_301, sk_302, sl_302, sp_301, hN']
        | exact rfl
        | (split <;> omega))
  · rw [at_X11_rank_0]
    repeat' (first
      | (with_reducible refine ev_rid ?_; simp (disch := first | omega | assumption) only [ev_run_c, ev_run_n, ev_fj, ev_stp, ev_lk, ev_fv, ev_as, ev_sz, ev_st1, ev_st2, ev_rm, ev_pk, ev_Jof, ev_go, lv_args, List.map_cons, List.map_nil, List.zip_cons_cons, List.zip_nil_left, List.zip_nil_right, List.nil_append, List.cons_append, ↓reduceIte, reduceCtorEq, Int.reduceToNat, Nat.reduceEqDiff, Nat.reduceAdd, Nat.reduceLT, Nat.reduceLeDiff, Nat.reduceMul, Value.category, false_implies, true_and, and_true, Bool.false_eq_true, Option.some.injEq, exists_eq_left', Option.toList_some, Option.toList_none, ev_km, ev_k2, ev_k3, ev_k4, ev_k5, ev_l0, ev_l1, sh_1, sh_2, sh_3, sh_4, sh_5, at_X11_rank_33, at_X11_rank_34, at_X11_rank_4, at_X11_rank_45, ca_X11_325, ca_X11_391, cd_X11_rank_0, cd_X11_rank_33, cd_X11_rank_34, cd_X11_rank_4, cd_X11_rank_45, fl_X11_9, no_0, no_1, no_lt, no_le, no_eq, no_lt0, no_ge0, no_gt0, no_le0, no_eq0, no_0eq, no_eqm, no_meq, no_m0, no_mlt, no_mge, no_mgt, no_mm, no_i01, no_i10, no_in, no_or, no_ifm, no_mul, nI_add, no_sub, pk_div, iI_if, nI_clamp, oI_n, oI_s, not_true_eq_false, not_false_eq_true, forall_const, true_implies, false_and, and_false, or_false, false_or, Classical.not_not, true_or, or_true, no_b, no_eq1, eq_self, and_self, sk_301, sk_302, sl_302, sp_301])
      | (with_reducible refine ev_gid ?_; simp (disch := first | omega | assumption) only [ev_run_c, ev_run_n, ev_fj, ev_stp, ev_lk, ev_fv, ev_as, ev_sz, ev_st1, ev_st2, ev_rm, ev_pk, ev_Jof, ev_go, lv_args, List.map_cons, List.map_nil, List.zip_cons_cons, List.zip_nil_left, List.zip_nil_right, List.nil_append, List.cons_append, ↓reduceIte, reduceCtorEq, Int.reduceToNat, Nat.reduceEqDiff, Nat.reduceAdd, Nat.reduceLT, Nat.reduceLeDiff, Nat.reduceMul, Value.category, false_implies, true_and, and_true, Bool.false_eq_true, Option.some.injEq, exists_eq_left', Option.toList_some, Option.toList_none, ev_km, ev_k2, ev_k3, ev_k4, ev_k5, ev_l0, ev_l1, sh_1, sh_2, sh_3, sh_4, sh_5, at_X11_rank_33, at_X11_rank_34, at_X11_rank_4, at_X11_rank_45, ca_X11_325, ca_X11_391, cd_X11_rank_0, cd_X11_rank_33, cd_X11_rank_34, cd_X11_rank_4, cd_X11_rank_45, fl_X11_9, no_0, no_1, no_lt, no_le, no_eq, no_lt0, no_ge0, no_gt0, no_le0, no_eq0, no_0eq, no_eqm, no_meq, no_m0, no_mlt, no_mge, no_mgt, no_mm, no_i01, no_i10, no_in, no_or, no_ifm, no_mul, nI_add, no_sub, pk_div, iI_if, nI_clamp, oI_n, oI_s, not_true_eq_false, not_false_eq_true, forall_const, true_implies, false_and, and_false, or_false, false_or, Classical.not_not, true_or, or_true, no_b, no_eq1, eq_self, and_self, sk_301, sk_302, sl_302, sp_301])
      | (with_reducible refine And.intro (fun q => ?_) (fun q => ?_) <;> (try simp (disch := first | omega | assumption) only [no_0, no_1, no_lt, no_le, no_eq, no_lt0, no_ge0, no_gt0, no_le0, no_eq0, no_0eq, no_eqm, no_meq, no_m0, no_mlt, no_mge, no_mgt, no_mm, no_i01, no_i10, no_in, no_or, no_ifm, no_mul, nI_add, no_sub, pk_div, iI_if, nI_clamp, oI_n, oI_s, not_true_eq_false, not_false_eq_true, forall_const, true_implies, false_and, and_false, or_false, false_or, Classical.not_not, true_or, or_true, no_b, no_eq1, eq_self, and_self, sk_301, sk_302, sl_302, sp_301] at q))
      | with_reducible refine ev_ci (m_X11_isAhead hok (by assumption) (by assumption) ?_ ?_) ?_
      | with_reducible refine ev_ci (m_X11_one hok _ ?_) ?_
      | omega
      | assumption
      | with_reducible rfl
      | with_reducible refine lp_nx ?_ ?_ ?_ ?_
      | with_reducible refine lp_st ?_ ?_ ?_
      | with_reducible refine ls_c ?_ ?_
      | with_reducible refine vi_c ?_
      | with_reducible refine re_c ?_
      | with_reducible refine vz_c ?_
      | with_reducible refine rz_c ?_
      | exact trivial
      | with_reducible refine And.intro ?_ ?_
      | simp (disch := first | omega | assumption) only [ev_run_c, ev_run_n, ev_fj, ev_stp, ev_lk, ev_fv, ev_as, ev_sz, ev_st1, ev_st2, ev_rm, ev_pk, ev_Jof, ev_go, lv_args, List.map_cons, List.map_nil, List.zip_cons_cons, List.zip_nil_left, List.zip_nil_right, List.nil_append, List.cons_append, ↓reduceIte, reduceCtorEq, Int.reduceToNat, Nat.reduceEqDiff, Nat.reduceAdd, Nat.reduceLT, Nat.reduceLeDiff, Nat.reduceMul, Value.category, false_implies, true_and, and_true, Bool.false_eq_true, Option.some.injEq, exists_eq_left', Option.toList_some, Option.toList_none, ev_km, ev_k2, ev_k3, ev_k4, ev_k5, ev_l0, ev_l1, sh_1, sh_2, sh_3, sh_4, sh_5, at_X11_rank_33, at_X11_rank_34, at_X11_rank_4, at_X11_rank_45, ca_X11_325, ca_X11_391, cd_X11_rank_0, cd_X11_rank_33, cd_X11_rank_34, cd_X11_rank_4, cd_X11_rank_45, fl_X11_9, no_0, no_1, no_lt, no_le, no_eq, no_lt0, no_ge0, no_gt0, no_le0, no_eq0, no_0eq, no_eqm, no_meq, no_m0, no_mlt, no_mge, no_mgt, no_mm, no_i01, no_i10, no_in, no_or, no_ifm, no_mul, nI_add, no_sub, pk_div, iI_if, nI_clamp, oI_n, oI_s, not_true_eq_false, not_false_eq_true, forall_const, true_implies, false_and, and_false, or_false, false_or, Classical.not_not, true_or, or_true, no_b, no_eq1, eq_self, and_self, sk_301, sk_302, sl_302, sp_301]
      | exact rfl
      | (split <;> omega))
end MRank
