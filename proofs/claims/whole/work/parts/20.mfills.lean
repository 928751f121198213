/-! ===== the reference: fills, talks ===== -/
section MFills
variable {G : ev_G} {N g : Nat → Nat} {μ : ev_M}
/-- the row and the pancakes given up, written anew -/
def ms (μ : ev_M) (N g : Nat → Nat) : ev_M := (fun a j => if a = 302 ∧ j < 1042 then nI (N j) else if a = 308 ∧ j < 10 then nI (g j) else μ.1 a j, μ.2)
def gz (μ : ev_M) (k : Nat) : ev_M := (fun a j => if a = 308 ∧ j < k then nI 0 else μ.1 a j, μ.2)
theorem gz_0 : gz μ 0 = μ := Prod.ext (funext fun a => funext fun j => if_neg (by omega)) rfl
theorem gz_s {k : Nat} : (ev_up (gz μ k).1 308 k (nI 0), (gz μ k).2) = gz μ (k + 1) := by
  refine Prod.ext (funext fun a => funext fun j => ?_) rfl
  show (if a = 308 ∧ j = k then nI 0 else if a = 308 ∧ j < k then nI 0 else μ.1 a j) = if a = 308 ∧ j < k + 1 then nI 0 else μ.1 a j
  by_cases h : a = 308 ∧ j < k + 1
  · rw [if_pos h]
    by_cases h2 : a = 308 ∧ j = k
    · rw [if_pos h2]
    · rw [if_neg h2, if_pos (by omega)]
  · rw [if_neg h, if_neg (by omega), if_neg (by omega)]
theorem gz_e (hN : MR N μ) : gz μ 10 = ms μ N (fun _ => 0) := by
  refine Prod.ext (funext fun a => funext fun j => ?_) rfl
  show (if a = 308 ∧ j < 10 then nI 0 else μ.1 a j) = if a = 302 ∧ j < 1042 then nI (N j) else if a = 308 ∧ j < 10 then nI 0 else μ.1 a j
  by_cases h : a = 302 ∧ j < 1042
  · rw [if_pos h, if_neg (by omega), h.1, hN j h.2]
  · rw [if_neg h]
theorem gz_R {k : Nat} (hN : MR N μ) : MR N (gz μ k) := fun j hj => by
  show (if 302 = 308 ∧ j < k then nI 0 else μ.1 302 j) = _
  rw [if_neg (by omega)]; exact hN j hj
theorem ms_R : MR N (ms μ N g) := fun k hk => if_pos ⟨rfl, hk⟩
theorem ms_G : MG g (ms μ N g) := fun k hk => by
  show (if 308 = 302 ∧ k < 1042 then nI (N k) else if 308 = 308 ∧ k < 10 then nI (g k) else μ.1 308 k) = _
  rw [if_neg (by omega), if_pos ⟨rfl, hk⟩]
theorem ms_302 {j : Nat} (h : j < 1042) : (ms μ N g).1 302 j = nI (N j) := if_pos ⟨rfl, h⟩
theorem ms_mw {N' : Nat → Nat} : mw (ms μ N g) N' = ms μ N' g := by
  refine Prod.ext (funext fun a => funext fun j => ?_) rfl
  show (if a = 302 ∧ j < 1042 then nI (N' j) else if a = 302 ∧ j < 1042 then nI (N j) else _) = if a = 302 ∧ j < 1042 then nI (N' j) else _
  split <;> rfl
theorem ms_w {k v : Nat} (hk : k < 1042) : (ev_up (ms μ N g).1 302 k (nI v), (ms μ N g).2) = ms μ (up N k v) g := by rw [mw_up ms_R hk, ms_mw]
theorem ms_g {k v : Nat} (hk : k < 10) : (ev_up (ms μ N g).1 308 k (nI v), (ms μ N g).2) = ms μ N (up g k v) := by
  refine Prod.ext (funext fun a => funext fun j => ?_) rfl
  show (if a = 308 ∧ j = k then nI v else if a = 302 ∧ j < 1042 then nI (N j) else if a = 308 ∧ j < 10 then nI (g j) else μ.1 a j) = if a = 302 ∧ j < 1042 then nI (N j) else if a = 308 ∧ j < 10 then nI (if j = k then v else g j) else μ.1 a j
  by_cases h : a = 302 ∧ j < 1042
  · rw [if_neg (by omega), if_pos h, if_pos h]
  · rw [if_neg h, if_neg h]
    by_cases h2 : a = 308 ∧ j = k
    · rw [if_pos h2, if_pos (by omega), if_pos h2.2]
    · rw [if_neg h2]
      by_cases h3 : a = 308 ∧ j < 10
      · rw [if_pos h3, if_pos h3, if_neg (by omega)]
      · rw [if_neg h3, if_neg h3]
theorem nar_0 : vp_nar .boolean (nI 0) = nI 0 := by decide +kernel
theorem nar_1 : vp_nar .boolean (nI 1) = nI 1 := by decide +kernel
/-- the row after filling, and what it gives up -/
def flN (N : Nat → Nat) : Nat → Nat := (itf (N, fun _ => 0) 41).1
def flG (N : Nat → Nat) : Nat → Nat := (itf (N, fun _ => 0) 41).2
theorem flN_ok (hI : INV N) : INV (flN N) ∧ flN N 0 = N 0 ∧ flN N 1 = N 1 ∧ N 4 ≤ flN N 4 := by
  obtain ⟨h1, -, h2, h3, h4, -⟩ := itf_ok (s := (N, fun _ => 0)) hI (fun _ _ => by (try dsimp only); omega) 41
  exact ⟨h1, h2, h3, h4⟩
set_option maxHeartbeats 1000000 in
theorem m_X11_fills (hok : ev_ok sh_S G) (hN : MR N μ) (hI : INV N) : ev_T sh_S G mi_X11_fills [.ref 301] μ (.inl (some (.int (nI (flN N 4 - N 4))), ms μ (flN N) (flG N))) := by
  have hh := iv_h hI
  have hg0 : ∀ k, k < 10 → (fun _ => 0 : Nat → Nat) k < 2 := fun _ _ => by (try dsimp only); omega
  have hN' : ∀ k, k < 1042 → μ.1 302 k = nI (N k) := hN
  obtain ⟨n, hn, hend, hfin, hgo'⟩ := itf_ex (s := (N, fun _ => 0)) hI hg0
  have hf1 : flN N = (itf (N, fun _ => 0) n).1 := by unfold flN; rw [hfin]
  have hf2 : flG N = (itf (N, fun _ => 0) n).2 := by unfold flG; rw [hfin]
  have hgo : ∀ k, k < n → fs (itf (N, fun _ => 0) k) = some (itf (N, fun _ => 0) (k + 1)) := fun k hk => by
    obtain ⟨s', h⟩ := hgo' k hk
    rw [itf_s h, h]
  have hin : ∀ k, INV (itf (N, fun _ => 0) k).1 ∧ (∀ j, j < 10 → (itf (N, fun _ => 0) k).2 j < 2) ∧ (itf (N, fun _ => 0) k).1 0 = N 0 ∧ (itf (N, fun _ => 0) k).1 1 = N 1 ∧ N 4 ≤ (itf (N, fun _ => 0) k).1 4 := fun k => by
    obtain ⟨a, b, c, d, e, -⟩ := itf_ok (s := (N, fun _ => 0)) hI hg0 k
    exact ⟨a, b, c, d, e⟩
  have h00 : itf (N, fun _ => 0) 0 = (N, fun _ => 0) := rfl
  rw [hf1, hf2]
  clear hf1 hf2 hgo' hfin
  generalize itf (N, fun _ => 0) = S at *
  refine ev_triG hok (okM_X11_fills 0) (Nat.le_of_ble_eq_true rfl) [(9, [0, 1, 2]), (33, [0, 1, 2])] 400 (fun pc a _ _ => if pc = 9 then a ≤ 10 else a ≤ n) (fun pc a _ _ => if pc = 9 then [.ref 301, .int (nI (N 4)), .int (nI a)] else [.ref 301, .int (nI (N 4)), .int (oI (ned (S a).1 (S a).2 ((S a).1 1)))]) (fun pc a _ _ => if pc = 9 then gz μ a else ms μ (S a).1 (S a).2) (fun pc a _ _ => if pc = 9 then 100 + (10 - a) else n - a) ?_ ?_
  · intro x hx a b c hP
    simp only [List.mem_cons, List.not_mem_nil, or_false] at hx
    rcases hx with rfl | rfl
    · have hP : a ≤ 10 := hP
      dsimp only
      rw [at_X11_fills_9]
      rcases Nat.lt_or_ge a 10 with h1 | h1
      · repeat' (first
          | (with_reducible refine ev_rid ?_; simp (disch := first | omega | assumption) only [ev_run_c, ev_run_n, ev_fj, ev_stp, ev_lk, ev_fv, ev_as, ev_sz, ev_st1, ev_st2, ev_rm, ev_pk, ev_Jof, ev_go, lv_args, List.map_cons, List.map_nil, List.zip_cons_cons, List.zip_nil_left, List.zip_nil_right, List.nil_append, List.cons_append, ↓reduceIte, reduceCtorEq, Int.reduceToNat, Nat.reduceEqDiff, Nat.reduceAdd, Nat.reduceLT, Nat.reduceLeDiff, Nat.reduceMul, Value.category, false_implies, true_and, and_true, Bool.false_eq_true, Option.some.injEq, exists_eq_left', Option.toList_some, Option.toList_none, ev_km, ev_k2, ev_k3, ev_k4, ev_k5, ev_l0, ev_l1, sh_1, sh_2, sh_3, sh_4, sh_5, at_X11_fills_28, at_X11_fills_33, at_X11_fills_70, at_X11_fills_85, at_X11_fills_9, at_X11_fills_93, ca_X11_174, ca_X11_341, ca_X11_344, ca_X11_347, cd_X11_fills_0, cd_X11_fills_28, cd_X11_fills_33, cd_X11_fills_70, cd_X11_fills_85, cd_X11_fills_9, cd_X11_fills_93, fl_X11_34, fl_X11_9, ev_b_10, no_0, no_1, no_lt, no_le, no_eq, no_lt0, no_ge0, no_gt0, no_le0, no_eq0, no_0eq, no_eqm, no_meq, no_m0, no_mlt, no_mge, no_mgt, no_mm, no_i01, no_i10, no_in, no_or, no_ifm, no_mul, nI_add, no_sub, pk_div, iI_if, nI_clamp, oI_n, oI_s, not_true_eq_false, not_false_eq_true, forall_const, true_implies, false_and, and_false, or_false, false_or, Classical.not_not, true_or, or_true, no_b, no_eq1, eq_self, and_self, sk_301, sk_302, sl_302, sp_301, sk_308, sl_308, sp_308, nar_0, gz_s])
          | (with_reducible refine ev_gid ?_; simp (disch := first | omega | assumption) only [ev_run_c, ev_run_n, ev_fj, ev_stp, ev_lk, ev_fv, ev_as, ev_sz, ev_st1, ev_st2, ev_rm, ev_pk, ev_Jof, ev_go, lv_args, List.map_cons, List.map_nil, List.zip_cons_cons, List.zip_nil_left, List.zip_nil_right, List.nil_append, List.cons_append, ↓reduceIte, reduceCtorEq, Int.reduceToNat, Nat.reduceEqDiff, Nat.reduceAdd, Nat.reduceLT, Nat.reduceLeDiff, Nat.reduceMul, Value.category, false_implies, true_and, and_true, Bool.false_eq_true, Option.some.injEq, exists_eq_left', Option.toList_some, Option.toList_none, ev_km, ev_k2, ev_k3, ev_k4, ev_k5, ev_l0, ev_l1, sh_1, sh_2, sh_3, sh_4, sh_5, at_X11_fills_28, at_X11_fills_33, at_X11_fills_70, at_X11_fills_85, at_X11_fills_9, at_X11_fills_93, ca_X11_174, ca_X11_341, ca_X11_344, ca_X11_347, cd_X11_fills_0, cd_X11_fills_28, cd_X11_fills_33, cd_X11_fills_70, cd_X11_fills_85, cd_X11_fills_9, cd_X11_fills_93, fl_X11_34, fl_X11_9, ev_b_10, no_0, no_1, no_lt, no_le, no_eq, no_lt0, no_ge0, no_gt0, no_le0, no_eq0, no_0eq, no_eqm, no_meq, no_m0, no_mlt, no_mge, no_mgt, no_mm, no_i01, no_i10, no_in, no_or, no_ifm, no_mul, nI_add, no_sub, pk_div, iI_if, nI_clamp, oI_n, oI_s, not_true_eq_false, not_false_eq_true, forall_const, true_implies, false_and, and_false, or_false, false_or, Classical.not_not, true_or, or_true, no_b, no_eq1, eq_self, and_self, sk_301, sk_302, sl_302, sp_301, sk_308, sl_308, sp_308, nar_0, gz_s])
          | (with_reducible refine And.intro (fun q => ?_) (fun q => ?_) <;> (try simp (disch := first | omega | assumption) only [no_0, no_1, no_lt, no_le, no_eq, no_lt0, no_ge0, no_gt0, no_le0, no_eq0, no_0eq, no_eqm, no_meq, no_m0, no_mlt, no_mge, no_mgt, no_mm, no_i01, no_i10, no_in, no_or, no_ifm, no_mul, nI_add, no_sub, pk_div, iI_if, nI_clamp, oI_n, oI_s, not_true_eq_false, not_false_eq_true, forall_const, true_implies, false_and, and_false, or_false, false_or, Classical.not_not, true_or, or_true, no_b, no_eq1, eq_self, and_self, sk_301, sk_302, sl_302, sp_301, sk_308, sl_308, sp_308, nar_0, gz_s] at q))
          | with_reducible refine ev_ci (m_X11_neediest hok (by first | assumption | exact ms_R) (by assumption) (by first | assumption | exact ms_G) (by assumption)) ?_
          | with_reducible refine ev_ci (m_X11_best hok (by first | assumption | exact mw_R | exact ms_R) (by assumption) ?_) ?_
          | with_reducible refine ev_ci (m_X11_best hok (by assumption) (by assumption) ?_) ?_
          | with_reducible refine ev_ci (m_X11_seats hok (by first | assumption | exact mw_R | exact ms_R) ?_ ?_) ?_
          | with_reducible refine ev_ci (m_X11_seats hok (by first | assumption | exact mw_R) ?_ ?_) ?_
          | with_reducible refine ev_ci (m_X11_moves_s hok (by first | assumption | exact ms_R) (by assumption) ?_ (by assumption)) ?_
          | with_reducible refine ev_ci (m_X11_moves_n hok (by first | assumption | exact ms_R) (by assumption) ?_ (by assumption)) ?_
          | omega
          | with_reducible assumption
          | with_reducible rfl
          | refine lpG_nx (a + 1) 0 0 ?_ ?_ ?_ ?_
          | with_reducible refine lp_nx ?_ ?_ ?_ ?_
          | with_reducible refine lp_st ?_ ?_ ?_
          | with_reducible refine ls_c ?_ ?_
          | with_reducible refine vi_c ?_
          | with_reducible refine re_c ?_
          | with_reducible refine vz_c ?_
          | with_reducible refine rz_c ?_
          | exact trivial
          | with_reducible refine And.intro ?_ ?_
          | simp (disch := first | omega | assumption) only [ev_run_c, ev_run_n, ev_fj, ev_stp, ev_lk, ev_fv, ev_as, ev_sz, ev_st1, ev_st2, ev_rm, ev_pk, ev_Jof, ev_go, lv_args, List.map_cons, List.map_nil, List.zip_cons_cons, List.zip_nil_left, List.zip_nil_right, List.nil_append, List.cons_append, ↓reduceIte, reduceCtorEq, Int.reduceToNat, Nat.reduceEqDiff, Nat.reduceAdd, Nat.reduceLT, Nat.reduceLeDiff, Nat.reduceMul, Value.category, false_implies, true_and, and_true, Bool.false_eq_true, Option.some.injEq, exists_eq_left', Option.toList_some, Option.toList_none, ev_km, ev_k2, ev_k3, ev_k4, ev_k5, ev_l0, ev_l1, sh_1, sh_2, sh_3, sh_4, sh_5, at_X11_fills_28, at_X11_fills_33, at_X11_fills_70, at_X11_fills_85, at_X11_fills_9, at_X11_fills_93, ca_X11_174, ca_X11_341, ca_X11_344, ca_X11_347, cd_X11_fills_0, cd_X11_fills_28, cd_X11_fills_33, cd_X11_fills_70, cd_X11_fills_85, cd_X11_fills_9, cd_X11_fills_93, fl_X11_34, fl_X11_9, ev_b_10, no_0, no_1, no_lt, no_le, no_eq, no_lt0, no_ge0, no_gt0, no_le0, no_eq0, no_0eq, no_eqm, no_meq, no_m0, no_mlt, no_mge, no_mgt, no_mm, no_i01, no_i10, no_in, no_or, no_ifm, no_mul, nI_add, no_sub, pk_div, iI_if, nI_clamp, oI_n, oI_s, not_true_eq_false, not_false_eq_true, forall_const, true_implies, false_and, and_false, or_false, false_or, Classical.not_not, true_or, or_true, no_b, no_eq1, eq_self, and_self, sk_301, sk_302, sl_302, sp_301, sk_308, sl_308, sp_308, nar_0, gz_s]
          | exact rfl
          | (split <;> omega))
      · have e : a = 10 := by omega
        subst e
        have e2 := gz_e hN
        rw [e2]
        repeat' (first
          | (with_reducible refine ev_rid ?_; simp (disch := first | omega | assumption) only [ev_run_c, ev_run_n, ev_fj, ev_stp, ev_lk, ev_fv, ev_as, ev_sz, ev_st1, ev_st2, ev_rm, ev_pk, ev_Jof, ev_go, lv_args, List.map_cons, List.map_nil, List.zip_cons_cons, List.zip_nil_left, List.zip_nil_right, List.nil_append, List.cons_append, ↓reduceIte, reduceCtorEq, Int.reduceToNat, Nat.reduceEqDiff, Nat.reduceAdd, Nat.reduceLT, Nat.reduceLeDiff, Nat.reduceMul, Value.category, false_implies, true_and, and_true, Bool.false_eq_true, Option.some.injEq, exists_eq_left', Option.toList_some, Option.toList_none, ev_km, ev_k2, ev_k3, ev_k4, ev_k5, ev_l0, ev_l1, sh_1, sh_2, sh_3, sh_4, sh_5, at_X11_fills_28, at_X11_fills_33, at_X11_fills_70, at_X11_fills_85, at_X11_fills_9, at_X11_fills_93, ca_X11_174, ca_X11_341, ca_X11_344, ca_X11_347, cd_X11_fills_0, cd_X11_fills_28, cd_X11_fills_33, cd_X11_fills_70, cd_X11_fills_85, cd_X11_fills_9, cd_X11_fills_93, fl_X11_34, fl_X11_9, ev_b_10, no_0, no_1, no_lt, no_le, no_eq, no_lt0, no_ge0, no_gt0, no_le0, no_eq0, no_0eq, no_eqm, no_meq, no_m0, no_mlt, no_mge, no_mgt, no_mm, no_i01, no_i10, no_in, no_or, no_ifm, no_mul, nI_add, no_sub, pk_div, iI_if, nI_clamp, oI_n, oI_s, not_true_eq_false, not_false_eq_true, forall_const, true_implies, false_and, and_false, or_false, false_or, Classical.not_not, true_or, or_true, no_b, no_eq1, eq_self, and_self, sk_301, sk_302, sl_302, sp_301, sk_308, sl_308, sp_308, h00])
          | (with_reducible refine ev_gid ?_; simp (disch := first | omega | assumption) only [ev_run_c, ev_run_n, ev_fj, ev_stp, ev_lk, ev_fv, ev_as, ev_sz, ev_st1, ev_st2, ev_rm, ev_pk, ev_Jof, ev_go, lv_args, List.map_cons, List.map_nil, List.zip_cons_cons, List.zip_nil_left, List.zip_nil_right, List.nil_append, List.cons_append, ↓reduceIte, reduceCtorEq, Int.reduceToNat, Nat.reduceEqDiff, Nat.reduceAdd, Nat.reduceLT, Nat.reduceLeDiff, Nat.reduceMul, Value.category, false_implies, true_and, and_true, Bool.false_eq_true, Option.some.injEq, exists_eq_left', Option.toList_some, Option.toList_none, ev_km, ev_k2, ev_k3, ev_k4, ev_k5, ev_l0, ev_l1, sh_1, sh_2, sh_3, sh_4, sh_5, at_X11_fills_28, at_X11_fills_33, at_X11_fills_70, at_X11_fills_85, at_X11_fills_9, at_X11_fills_93, ca_X11_174, ca_X11_341, ca_X11_344, ca_X11_347, cd_X11_fills_0, cd_X11_fills_28, cd_X11_fills_33, cd_X11_fills_70, cd_X11_fills_85, cd_X11_fills_9, cd_X11_fills_93, fl_X11_34, fl_X11_9, ev_b_10, no_0, no_1, no_lt, no_le, no_eq, no_lt0, no_ge0, no_gt0, no_le0, no_eq0, no_0eq, no_eqm, no_meq, no_m0, no_mlt, no_mge, no_mgt, no_mm, no_i01, no_i10, no_in, no_or, no_ifm, no_mul, nI_add, no_sub, pk_div, iI_if, nI_clamp, oI_n, oI_s, not_true_eq_false, not_false_eq_true, forall_const, true_implies, false_and, and_false, or_false, false_or, Classical.not_not, true_or, or_true, no_b, no_eq1, eq_self, and_self, sk_301, sk_302, sl_302, sp_301, sk_308, sl_308, sp_308, h00])
          | (with_reducible refine And.intro (fun q => ?_) (fun q => ?_) <;> (try simp (disch := first | omega | assumption) only [no_0, no_1, no_lt, no_le, no_eq, no_lt0, no_ge0, no_gt0, no_le0, no_eq0, no_0eq, no_eqm, no_meq, no_m0, no_mlt, no_mge, no_mgt, no_mm, no_i01, no_i10, no_in, no_or, no_ifm, no_mul, nI_add, no_sub, pk_div, iI_if, nI_clamp, oI_n, oI_s, not_true_eq_false, not_false_eq_true, forall_const, true_implies, false_and, and_false, or_false, false_or, Classical.not_not, true_or, or_true, no_b, no_eq1, eq_self, and_self, sk_301, sk_302, sl_302, sp_301, sk_308, sl_308, sp_308, h00] at q))
          | with_reducible refine ev_ci (m_X11_neediest hok (by first | assumption | exact ms_R) (by assumption) (by first | assumption | exact ms_G) (by assumption)) ?_
          | with_reducible refine ev_ci (m_X11_best hok (by first | assumption | exact mw_R | exact ms_R) (by assumption) ?_) ?_
          | with_reducible refine ev_ci (m_X11_best hok (by assumption) (by assumption) ?_) ?_
          | with_reducible refine ev_ci (m_X11_seats hok (by first | assumption | exact mw_R | exact ms_R) ?_ ?_) ?_
          | with_reducible refine ev_ci (m_X11_seats hok (by first | assumption | exact mw_R) ?_ ?_) ?_
          | with_reducible refine ev_ci (m_X11_moves_s hok (by first | assumption | exact ms_R) (by assumption) ?_ (by assumption)) ?_
          | with_reducible refine ev_ci (m_X11_moves_n hok (by first | assumption | exact ms_R) (by assumption) ?_ (by assumption)) ?_
          | omega
          | with_reducible assumption
          | with_reducible rfl
          | refine lpG_nx 0 0 0 ?_ ?_ ?_ ?_
          | with_reducible refine lp_nx ?_ ?_ ?_ ?_
          | with_reducible refine lp_st ?_ ?_ ?_
          | with_reducible refine ls_c ?_ ?_
          | with_reducible refine vi_c ?_
          | with_reducible refine re_c ?_
          | with_reducible refine vz_c ?_
          | with_reducible refine rz_c ?_
          | exact trivial
          | with_reducible refine And.intro ?_ ?_
          | simp (disch := first | omega | assumption) only [ev_run_c, ev_run_n, ev_fj, ev_stp, ev_lk, ev_fv, ev_as, ev_sz, ev_st1, ev_st2, ev_rm, ev_pk, ev_Jof, ev_go, lv_args, List.map_cons, List.map_nil, List.zip_cons_cons, List.zip_nil_left, List.zip_nil_right, List.nil_append, List.cons_append, ↓reduceIte, reduceCtorEq, Int.reduceToNat, Nat.reduceEqDiff, Nat.reduceAdd, Nat.reduceLT, Nat.reduceLeDiff, Nat.reduceMul, Value.category, false_implies, true_and, and_true, Bool.false_eq_true, Option.some.injEq, exists_eq_left', Option.toList_some, Option.toList_none, ev_km, ev_k2, ev_k3, ev_k4, ev_k5, ev_l0, ev_l1, sh_1, sh_2, sh_3, sh_4, sh_5, at_X11_fills_28, at_X11_fills_33, at_X11_fills_70, at_X11_fills_85, at_X11_fills_9, at_X11_fills_93, ca_X11_174, ca_X11_341, ca_X11_344, ca_X11_347, cd_X11_fills_0, cd_X11_fills_28, cd_X11_fills_33, cd_X11_fills_70, cd_X11_fills_85, cd_X11_fills_9, cd_X11_fills_93, fl_X11_34, fl_X11_9, ev_b_10, no_0, no_1, no_lt, no_le, no_eq, no_lt0, no_ge0, no_gt0, no_le0, no_eq0, no_0eq, no_eqm, no_meq, no_m0, no_mlt, no_mge, no_mgt, no_mm, no_i01, no_i10, no_in, no_or, no_ifm, no_mul, nI_add, no_sub, pk_div, iI_if, nI_clamp, oI_n, oI_s, not_true_eq_false, not_false_eq_true, forall_const, true_implies, false_and, and_false, or_false, false_or, Classical.not_not, true_or, or_true, no_b, no_eq1, eq_self, and_self, sk_301, sk_302, sl_302, sp_301, sk_308, sl_308, sp_308, h00]
          | exact rfl
          | (split <;> omega))
    · have hP : a ≤ n := hP
      dsimp only
      rw [at_X11_fills_33]
      obtain ⟨i1, i2, i3, i4, i5⟩ := hin a
      rcases Nat.lt_or_ge a n with h1 | h1
      · have hs' := hgo a h1
        obtain ⟨j1, j2, j3, j4, j5⟩ := hin (a + 1)
        generalize hsa : S a = s at *
        obtain ⟨A, B⟩ := s
        dsimp only at i1 i2 i3 i4 i5
        generalize hsb : S (a + 1) = s at *
        obtain ⟨A', B'⟩ := s
        dsimp only at j1 j2 j3 j4 j5
        cases q1 : ned A B (A 1) with
        | none => rw [fs_0 (s := (A, B)) q1] at hs'; cases hs'
        | some p =>
          obtain ⟨p1, p2, p3⟩ := ned_is q1
          have hT := iv_q i1 p (by omega)
          cases q2 : best A p (A 0) with
          | some i =>
            rw [fs_1 (s := (A, B)) q1 q2] at hs'
            cases hs'
            have hb := best_lt q2
            have ha0 := (iv_h i1).1
            have e4 : stN A i p 4 = A 4 := stN_lo (by omega)
            repeat' (first
              | (with_reducible refine ev_rid ?_; simp (disch := first | omega | assumption) only [ev_run_c, ev_run_n, ev_fj, ev_stp, ev_lk, ev_fv, ev_as, ev_sz, ev_st1, ev_st2, ev_rm, ev_pk, ev_Jof, ev_go, lv_args, List.map_cons, List.map_nil, List.zip_cons_cons, List.zip_nil_left, List.zip_nil_right, List.nil_append, List.cons_append, ↓reduceIte, reduceCtorEq, Int.reduceToNat, Nat.reduceEqDiff, Nat.reduceAdd, Nat.reduceLT, Nat.reduceLeDiff, Nat.reduceMul, Value.category, false_implies, true_and, and_true, Bool.false_eq_true, Option.some.injEq, exists_eq_left', Option.toList_some, Option.toList_none, ev_km, ev_k2, ev_k3, ev_k4, ev_k5, ev_l0, ev_l1, sh_1, sh_2, sh_3, sh_4, sh_5, at_X11_fills_28, at_X11_fills_33, at_X11_fills_70, at_X11_fills_85, at_X11_fills_9, at_X11_fills_93, ca_X11_174, ca_X11_341, ca_X11_344, ca_X11_347, cd_X11_fills_0, cd_X11_fills_28, cd_X11_fills_33, cd_X11_fills_70, cd_X11_fills_85, cd_X11_fills_9, cd_X11_fills_93, fl_X11_34, fl_X11_9, ev_b_10, no_0, no_1, no_lt, no_le, no_eq, no_lt0, no_ge0, no_gt0, no_le0, no_eq0, no_0eq, no_eqm, no_meq, no_m0, no_mlt, no_mge, no_mgt, no_mm, no_i01, no_i10, no_in, no_or, no_ifm, no_mul, nI_add, no_sub, pk_div, iI_if, nI_clamp, oI_n, oI_s, not_true_eq_false, not_false_eq_true, forall_const, true_implies, false_and, and_false, or_false, false_or, Classical.not_not, true_or, or_true, no_b, no_eq1, eq_self, and_self, sk_301, sk_302, sl_302, sp_301, q1, q2, ms_mw, ms_302, e4, ms_w, hsb])
              | (with_reducible refine ev_gid ?_; simp (disch := first | omega | assumption) only [ev_run_c, ev_run_n, ev_fj, ev_stp, ev_lk, ev_fv, ev_as, ev_sz, ev_st1, ev_st2, ev_rm, ev_pk, ev_Jof, ev_go, lv_args, List.map_cons, List.map_nil, List.zip_cons_cons, List.zip_nil_left, List.zip_nil_right, List.nil_append, List.cons_append, ↓reduceIte, reduceCtorEq, Int.reduceToNat, Nat.reduceEqDiff, Nat.reduceAdd, Nat.reduceLT, Nat.reduceLeDiff, Nat.reduceMul, Value.category, false_implies, true_and, and_true, Bool.false_eq_true, Option.some.injEq, exists_eq_left', Option.toList_some, Option.toList_none, ev_km, ev_k2, ev_k3, ev_k4, ev_k5, ev_l0, ev_l1, sh_1, sh_2, sh_3, sh_4, sh_5, at_X11_fills_28, at_X11_fills_33, at_X11_fills_70, at_X11_fills_85, at_X11_fills_9, at_X11_fills_93, ca_X11_174, ca_X11_341, ca_X11_344, ca_X11_347, cd_X11_fills_0, cd_X11_fills_28, cd_X11_fills_33, cd_X11_fills_70, cd_X11_fills_85, cd_X11_fills_9, cd_X11_fills_93, fl_X11_34, fl_X11_9, ev_b_10, no_0, no_1, no_lt, no_le, no_eq, no_lt0, no_ge0, no_gt0, no_le0, no_eq0, no_0eq, no_eqm, no_meq, no_m0, no_mlt, no_mge, no_mgt, no_mm, no_i01, no_i10, no_in, no_or, no_ifm, no_mul, nI_add, no_sub, pk_div, iI_if, nI_clamp, oI_n, oI_s, not_true_eq_false, not_false_eq_true, forall_const, true_implies, false_and, and_false, or_false, false_or, Classical.not_not, true_or, or_true, no_b, no_eq1, eq_self, and_self, sk_301, sk_302, sl_302, sp_301, q1, q2, ms_mw, ms_302, e4, ms_w, hsb])
              | (with_reducible refine And.intro (fun q => ?_) (fun q => ?_) <;> (try simp (disch := first | omega | assumption) only [no_0, no_1, no_lt, no_le, no_eq, no_lt0, no_ge0, no_gt0, no_le0, no_eq0, no_0eq, no_eqm, no_meq, no_m0, no_mlt, no_mge, no_mgt, no_mm, no_i01, no_i10, no_in, no_or, no_ifm, no_mul, nI_add, no_sub, pk_div, iI_if, nI_clamp, oI_n, oI_s, not_true_eq_false, not_false_eq_true, forall_const, true_implies, false_and, and_false, or_false, false_or, Classical.not_not, true_or, or_true, no_b, no_eq1, eq_self, and_self, sk_301, sk_302, sl_302, sp_301, q1, q2, ms_mw, ms_302, e4, ms_w, hsb] at q))
              | with_reducible refine ev_ci (m_X11_neediest hok (by first | assumption | exact ms_R) (by assumption) (by first | assumption | exact ms_G) (by assumption)) ?_
              | with_reducible refine ev_ci (m_X11_best hok (by first | assumption | exact mw_R | exact ms_R) (by assumption) ?_) ?_
              | with_reducible refine ev_ci (m_X11_best hok (by assumption) (by assumption) ?_) ?_
              | with_reducible refine ev_ci (m_X11_seats hok (by first | assumption | exact mw_R | exact ms_R) ?_ ?_) ?_
              | with_reducible refine ev_ci (m_X11_seats hok (by first | assumption | exact mw_R) ?_ ?_) ?_
              | with_reducible refine ev_ci (m_X11_moves_s hok (by first | assumption | exact ms_R) (by assumption) ?_ (by assumption)) ?_
              | with_reducible refine ev_ci (m_X11_moves_n hok (by first | assumption | exact ms_R) (by assumption) ?_ (by assumption)) ?_
              | omega
              | with_reducible assumption
              | with_reducible rfl
              | refine lpG_nx (a + 1) 0 0 ?_ ?_ ?_ ?_
              | with_reducible refine lp_nx ?_ ?_ ?_ ?_
              | with_reducible refine lp_st ?_ ?_ ?_
              | with_reducible refine ls_c ?_ ?_
              | with_reducible refine vi_c ?_
              | with_reducible refine re_c ?_
              | with_reducible refine vz_c ?_
              | with_reducible refine rz_c ?_
              | exact trivial
              | with_reducible refine And.intro ?_ ?_
              | simp (disch := first | omega | assumption) only [ev_run_c, ev_run_n, ev_fj, ev_stp, ev_lk, ev_fv, ev_as, ev_sz, ev_st1, ev_st2, ev_rm, ev_pk, ev_Jof, ev_go, lv_args, List.map_cons, List.map_nil, List.zip_cons_cons, List.zip_nil_left, List.zip_nil_right, List.nil_append, List.cons_append, ↓reduceIte, reduceCtorEq, Int.reduceToNat, Nat.reduceEqDiff, Nat.reduceAdd, Nat.reduceLT, Nat.reduceLeDiff, Nat.reduceMul, Value.category, false_implies, true_and, and_true, Bool.false_eq_true, Option.some.injEq, exists_eq_left', Option.toList_some, Option.toList_none, ev_km, ev_k2, ev_k3, ev_k4, ev_k5, ev_l0, ev_l1, sh_1, sh_2, sh_3, sh_4, sh_5, at_X11_fills_28, at_X11_fills_33, at_X11_fills_70, at_X11_fills_85, at_X11_fills_9, at_X11_fills_93, ca_X11_174, ca_X11_341, ca_X11_344, ca_X11_347, cd_X11_fills_0, cd_X11_fills_28, cd_X11_fills_33, cd_X11_fills_70, cd_X11_fills_85, cd_X11_fills_9, cd_X11_fills_93, fl_X11_34, fl_X11_9, ev_b_10, no_0, no_1, no_lt, no_le, no_eq, no_lt0, no_ge0, no_gt0, no_le0, no_eq0, no_0eq, no_eqm, no_meq, no_m0, no_mlt, no_mge, no_mgt, no_mm, no_i01, no_i10, no_in, no_or, no_ifm, no_mul, nI_add, no_sub, pk_div, iI_if, nI_clamp, oI_n, oI_s, not_true_eq_false, not_false_eq_true, forall_const, true_implies, false_and, and_false, or_false, false_or, Classical.not_not, true_or, or_true, no_b, no_eq1, eq_self, and_self, sk_301, sk_302, sl_302, sp_301, q1, q2, ms_mw, ms_302, e4, ms_w, hsb]
              | exact rfl
              | (split <;> omega))
          | none =>
            cases q3 : mvs A p with
            | some N' =>
              rw [fs_2 (s := (A, B)) q1 q2 q3] at hs'
              cases hs'
              repeat' (first
                | (with_reducible refine ev_rid ?_; simp (disch := first | omega | assumption) only [ev_run_c, ev_run_n, ev_fj, ev_stp, ev_lk, ev_fv, ev_as, ev_sz, ev_st1, ev_st2, ev_rm, ev_pk, ev_Jof, ev_go, lv_args, List.map_cons, List.map_nil, List.zip_cons_cons, List.zip_nil_left, List.zip_nil_right, List.nil_append, List.cons_append, ↓reduceIte, reduceCtorEq, Int.reduceToNat, Nat.reduceEqDiff, Nat.reduceAdd, Nat.reduceLT, Nat.reduceLeDiff, Nat.reduceMul, Value.category, false_implies, true_and, and_true, Bool.false_eq_true, Option.some.injEq, exists_eq_left', Option.toList_some, Option.toList_none, ev_km, ev_k2, ev_k3, ev_k4, ev_k5, ev_l0, ev_l1, sh_1, sh_2, sh_3, sh_4, sh_5, at_X11_fills_28, at_X11_fills_33, at_X11_fills_70, at_X11_fills_85, at_X11_fills_9, at_X11_fills_93, ca_X11_174, ca_X11_341, ca_X11_344, ca_X11_347, cd_X11_fills_0, cd_X11_fills_28, cd_X11_fills_33, cd_X11_fills_70, cd_X11_fills_85, cd_X11_fills_9, cd_X11_fills_93, fl_X11_34, fl_X11_9, ev_b_10, no_0, no_1, no_lt, no_le, no_eq, no_lt0, no_ge0, no_gt0, no_le0, no_eq0, no_0eq, no_eqm, no_meq, no_m0, no_mlt, no_mge, no_mgt, no_mm, no_i01, no_i10, no_in, no_or, no_ifm, no_mul, nI_add, no_sub, pk_div, iI_if, nI_clamp, oI_n, oI_s, not_true_eq_false, not_false_eq_true, forall_const, true_implies, false_and, and_false, or_false, false_or, Classical.not_not, true_or, or_true, no_b, no_eq1, eq_self, and_self, sk_301, sk_302, sl_302, sp_301, q1, q2, ms_mw, ms_302, ms_w, hsb])
                | (with_reducible refine ev_gid ?_; simp (disch := first | omega | assumption) only [ev_run_c, ev_run_n, ev_fj, ev_stp, ev_lk, ev_fv, ev_as, ev_sz, ev_st1, ev_st2, ev_rm, ev_pk, ev_Jof, ev_go, lv_args, List.map_cons, List.map_nil, List.zip_cons_cons, List.zip_nil_left, List.zip_nil_right, List.nil_append, List.cons_append, ↓reduceIte, reduceCtorEq, Int.reduceToNat, Nat.reduceEqDiff, Nat.reduceAdd, Nat.reduceLT, Nat.reduceLeDiff, Nat.reduceMul, Value.category, false_implies, true_and, and_true, Bool.false_eq_true, Option.some.injEq, exists_eq_left', Option.toList_some, Option.toList_none, ev_km, ev_k2, ev_k3, ev_k4, ev_k5, ev_l0, ev_l1, sh_1, sh_2, sh_3, sh_4, sh_5, at_X11_fills_28, at_X11_fills_33, at_X11_fills_70, at_X11_fills_85, at_X11_fills_9, at_X11_fills_93, ca_X11_174, ca_X11_341, ca_X11_344, ca_X11_347, cd_X11_fills_0, cd_X11_fills_28, cd_X11_fills_33, cd_X11_fills_70, cd_X11_fills_85, cd_X11_fills_9, cd_X11_fills_93, fl_X11_34, fl_X11_9, ev_b_10, no_0, no_1, no_lt, no_le, no_eq, no_lt0, no_ge0, no_gt0, no_le0, no_eq0, no_0eq, no_eqm, no_meq, no_m0, no_mlt, no_mge, no_mgt, no_mm, no_i01, no_i10, no_in, no_or, no_ifm, no_mul, nI_add, no_sub, pk_div, iI_if, nI_clamp, oI_n, oI_s, not_true_eq_false, not_false_eq_true, forall_const, true_implies, false_and, and_false, or_false, false_or, Classical.not_not, true_or, or_true, no_b, no_eq1, eq_self, and_self, sk_301, sk_302, sl_302, sp_301, q1, q2, ms_mw, ms_302, ms_w, hsb])
                | (with_reducible refine And.intro (fun q => ?_) (fun q => ?_) <;> (try simp (disch := first | omega | assumption) only [no_0, no_1, no_lt, no_le, no_eq, no_lt0, no_ge0, no_gt0, no_le0, no_eq0, no_0eq, no_eqm, no_meq, no_m0, no_mlt, no_mge, no_mgt, no_mm, no_i01, no_i10, no_in, no_or, no_ifm, no_mul, nI_add, no_sub, pk_div, iI_if, nI_clamp, oI_n, oI_s, not_true_eq_false, not_false_eq_true, forall_const, true_implies, false_and, and_false, or_false, false_or, Classical.not_not, true_or, or_true, no_b, no_eq1, eq_self, and_self, sk_301, sk_302, sl_302, sp_301, q1, q2, ms_mw, ms_302, ms_w, hsb] at q))
                | with_reducible refine ev_ci (m_X11_neediest hok (by first | assumption | exact ms_R) (by assumption) (by first | assumption | exact ms_G) (by assumption)) ?_
                | with_reducible refine ev_ci (m_X11_best hok (by first | assumption | exact mw_R | exact ms_R) (by assumption) ?_) ?_
                | with_reducible refine ev_ci (m_X11_best hok (by assumption) (by assumption) ?_) ?_
                | with_reducible refine ev_ci (m_X11_seats hok (by first | assumption | exact mw_R | exact ms_R) ?_ ?_) ?_
                | with_reducible refine ev_ci (m_X11_seats hok (by first | assumption | exact mw_R) ?_ ?_) ?_
                | with_reducible refine ev_ci (m_X11_moves_s hok (by first | assumption | exact ms_R) (by assumption) ?_ (by assumption)) ?_
                | with_reducible refine ev_ci (m_X11_moves_n hok (by first | assumption | exact ms_R) (by assumption) ?_ (by assumption)) ?_
                | omega
                | with_reducible assumption
                | with_reducible rfl
                | refine lpG_nx (a + 1) 0 0 ?_ ?_ ?_ ?_
                | with_reducible refine lp_nx ?_ ?_ ?_ ?_
                | with_reducible refine lp_st ?_ ?_ ?_
                | with_reducible refine ls_c ?_ ?_
                | with_reducible refine vi_c ?_
                | with_reducible refine re_c ?_
                | with_reducible refine vz_c ?_
                | with_reducible refine rz_c ?_
                | exact trivial
                | with_reducible refine And.intro ?_ ?_
                | simp (disch := first | omega | assumption) only [ev_run_c, ev_run_n, ev_fj, ev_stp, ev_lk, ev_fv, ev_as, ev_sz, ev_st1, ev_st2, ev_rm, ev_pk, ev_Jof, ev_go, lv_args, List.map_cons, List.map_nil, List.zip_cons_cons, List.zip_nil_left, List.zip_nil_right, List.nil_append, List.cons_append, ↓reduceIte, reduceCtorEq, Int.reduceToNat, Nat.reduceEqDiff, Nat.reduceAdd, Nat.reduceLT, Nat.reduceLeDiff, Nat.reduceMul, Value.category, false_implies, true_and, and_true, Bool.false_eq_true, Option.some.injEq, exists_eq_left', Option.toList_some, Option.toList_none, ev_km, ev_k2, ev_k3, ev_k4, ev_k5, ev_l0, ev_l1, sh_1, sh_2, sh_3, sh_4, sh_5, at_X11_fills_28, at_X11_fills_33, at_X11_fills_70, at_X11_fills_85, at_X11_fills_9, at_X11_fills_93, ca_X11_174, ca_X11_341, ca_X11_344, ca_X11_347, cd_X11_fills_0, cd_X11_fills_28, cd_X11_fills_33, cd_X11_fills_70, cd_X11_fills_85, cd_X11_fills_9, cd_X11_fills_93, fl_X11_34, fl_X11_9, ev_b_10, no_0, no_1, no_lt, no_le, no_eq, no_lt0, no_ge0, no_gt0, no_le0, no_eq0, no_0eq, no_eqm, no_meq, no_m0, no_mlt, no_mge, no_mgt, no_mm, no_i01, no_i10, no_in, no_or, no_ifm, no_mul, nI_add, no_sub, pk_div, iI_if, nI_clamp, oI_n, oI_s, not_true_eq_false, not_false_eq_true, forall_const, true_implies, false_and, and_false, or_false, false_or, Classical.not_not, true_or, or_true, no_b, no_eq1, eq_self, and_self, sk_301, sk_302, sl_302, sp_301, q1, q2, ms_mw, ms_302, ms_w, hsb]
                | exact rfl
                | (split <;> omega))
            | none =>
              rw [fs_3 (s := (A, B)) q1 q2 q3] at hs'
              cases hs'
              repeat' (first
                | (with_reducible refine ev_rid ?_; simp (disch := first | omega | assumption) only [ev_run_c, ev_run_n, ev_fj, ev_stp, ev_lk, ev_fv, ev_as, ev_sz, ev_st1, ev_st2, ev_rm, ev_pk, ev_Jof, ev_go, lv_args, List.map_cons, List.map_nil, List.zip_cons_cons, List.zip_nil_left, List.zip_nil_right, List.nil_append, List.cons_append, ↓reduceIte, reduceCtorEq, Int.reduceToNat, Nat.reduceEqDiff, Nat.reduceAdd, Nat.reduceLT, Nat.reduceLeDiff, Nat.reduceMul, Value.category, false_implies, true_and, and_true, Bool.false_eq_true, Option.some.injEq, exists_eq_left', Option.toList_some, Option.toList_none, ev_km, ev_k2, ev_k3, ev_k4, ev_k5, ev_l0, ev_l1, sh_1, sh_2, sh_3, sh_4, sh_5, at_X11_fills_28, at_X11_fills_33, at_X11_fills_70, at_X11_fills_85, at_X11_fills_9, at_X11_fills_93, ca_X11_174, ca_X11_341, ca_X11_344, ca_X11_347, cd_X11_fills_0, cd_X11_fills_28, cd_X11_fills_33, cd_X11_fills_70, cd_X11_fills_85, cd_X11_fills_9, cd_X11_fills_93, fl_X11_34, fl_X11_9, ev_b_10, no_0, no_1, no_lt, no_le, no_eq, no_lt0, no_ge0, no_gt0, no_le0, no_eq0, no_0eq, no_eqm, no_meq, no_m0, no_mlt, no_mge, no_mgt, no_mm, no_i01, no_i10, no_in, no_or, no_ifm, no_mul, nI_add, no_sub, pk_div, iI_if, nI_clamp, oI_n, oI_s, not_true_eq_false, not_false_eq_true, forall_const, true_implies, false_and, and_false, or_false, false_or, Classical.not_not, true_or, or_true, no_b, no_eq1, eq_self, and_self, sk_301, sk_302, sl_302, sp_301, q1, q2, ms_mw, ms_302, ms_w, hsb, sk_308, sl_308, sp_308, nar_1, ms_g])
                | (with_reducible refine ev_gid ?_; simp (disch := first | omega | assumption) only [ev_run_c, ev_run_n, ev_fj, ev_stp, ev_lk, ev_fv, ev_as, ev_sz, ev_st1, ev_st2, ev_rm, ev_pk, ev_Jof, ev_go, lv_args, List.map_cons, List.map_nil, List.zip_cons_cons, List.zip_nil_left, List.zip_nil_right, List.nil_append, List.cons_append, ↓reduceIte, reduceCtorEq, Int.reduceToNat, Nat.reduceEqDiff, Nat.reduceAdd, Nat.reduceLT, Nat.reduceLeDiff, Nat.reduceMul, Value.category, false_implies, true_and, and_true, Bool.false_eq_true, Option.some.injEq, exists_eq_left', Option.toList_some, Option.toList_none, ev_km, ev_k2, ev_k3, ev_k4, ev_k5, ev_l0, ev_l1, sh_1, sh_2, sh_3, sh_4, sh_5, at_X11_fills_28, at_X11_fills_33, at_X11_fills_70, at_X11_fills_85, at_X11_fills_9, at_X11_fills_93, ca_X11_174, ca_X11_341, ca_X11_344, ca_X11_347, cd_X11_fills_0, cd_X11_fills_28, cd_X11_fills_33, cd_X11_fills_70, cd_X11_fills_85, cd_X11_fills_9, cd_X11_fills_93, fl_X11_34, fl_X11_9, ev_b_10, no_0, no_1, no_lt, no_le, no_eq, no_lt0, no_ge0, no_gt0, no_le0, no_eq0, no_0eq, no_eqm, no_meq, no_m0, no_mlt, no_mge, no_mgt, no_mm, no_i01, no_i10, no_in, no_or, no_ifm, no_mul, nI_add, no_sub, pk_div, iI_if, nI_clamp, oI_n, oI_s, not_true_eq_false, not_false_eq_true, forall_const, true_implies, false_and, and_false, or_false, false_or, Classical.not_not, true_or, or_true, no_b, no_eq1, eq_self, and_self, sk_301, sk_302, sl_302, sp_301, q1, q2, ms_mw, ms_302, ms_w, hsb, sk_308, sl_308, sp_308, nar_1, ms_g])
                | (with_reducible refine And.intro (fun q => ?_) (fun q => ?_) <;> (try simp (disch := first | omega | assumption) only [no_0, no_1, no_lt, no_le, no_eq, no_lt0, no_ge0, no_gt0, no_le0, no_eq0, no_0eq, no_eqm, no_meq, no_m0, no_mlt, no_mge, no_mgt, no_mm, no_i01, no_i10, no_in, no_or, no_ifm, no_mul, nI_add, no_sub, pk_div, iI_if, nI_clamp, oI_n, oI_s, not_true_eq_false, not_false_eq_true, forall_const, true_implies, false_and, and_false, or_false, false_or, Classical.not_not, true_or, or_true, no_b, no_eq1, eq_self, and_self, sk_301, sk_302, sl_302, sp_301, q1, q2, ms_mw, ms_302, ms_w, hsb, sk_308, sl_308, sp_308, nar_1, ms_g] at q))
                | with_reducible refine ev_ci (m_X11_neediest hok (by first | assumption | exact ms_R) (by assumption) (by first | assumption | exact ms_G) (by assumption)) ?_
                | with_reducible refine ev_ci (m_X11_best hok (by first | assumption | exact mw_R | exact ms_R) (by assumption) ?_) ?_
                | with_reducible refine ev_ci (m_X11_best hok (by assumption) (by assumption) ?_) ?_
                | with_reducible refine ev_ci (m_X11_seats hok (by first | assumption | exact mw_R | exact ms_R) ?_ ?_) ?_
                | with_reducible refine ev_ci (m_X11_seats hok (by first | assumption | exact mw_R) ?_ ?_) ?_
                | with_reducible refine ev_ci (m_X11_moves_s hok (by first | assumption | exact ms_R) (by assumption) ?_ (by assumption)) ?_
                | with_reducible refine ev_ci (m_X11_moves_n hok (by first | assumption | exact ms_R) (by assumption) ?_ (by assumption)) ?_
                | omega
                | with_reducible assumption
                | with_reducible rfl
                | refine lpG_nx (a + 1) 0 0 ?_ ?_ ?_ ?_
                | with_reducible refine lp_nx ?_ ?_ ?_ ?_
                | with_reducible refine lp_st ?_ ?_ ?_
                | with_reducible refine ls_c ?_ ?_
                | with_reducible refine vi_c ?_
                | with_reducible refine re_c ?_
                | with_reducible refine vz_c ?_
                | with_reducible refine rz_c ?_
                | exact trivial
                | with_reducible refine And.intro ?_ ?_
                | simp (disch := first | omega | assumption) only [ev_run_c, ev_run_n, ev_fj, ev_stp, ev_lk, ev_fv, ev_as, ev_sz, ev_st1, ev_st2, ev_rm, ev_pk, ev_Jof, ev_go, lv_args, List.map_cons, List.map_nil, List.zip_cons_cons, List.zip_nil_left, List.zip_nil_right, List.nil_append, List.cons_append, ↓reduceIte, reduceCtorEq, Int.reduceToNat, Nat.reduceEqDiff, Nat.reduceAdd, Nat.reduceLT, Nat.reduceLeDiff, Nat.reduceMul, Value.category, false_implies, true_and, and_true, Bool.false_eq_true, Option.some.injEq, exists_eq_left', Option.toList_some, Option.toList_none, ev_km, ev_k2, ev_k3, ev_k4, ev_k5, ev_l0, ev_l1, sh_1, sh_2, sh_3, sh_4, sh_5, at_X11_fills_28, at_X11_fills_33, at_X11_fills_70, at_X11_fills_85, at_X11_fills_9, at_X11_fills_93, ca_X11_174, ca_X11_341, ca_X11_344, ca_X11_347, cd_X11_fills_0, cd_X11_fills_28, cd_X11_fills_33, cd_X11_fills_70, cd_X11_fills_85, cd_X11_fills_9, cd_X11_fills_93, fl_X11_34, fl_X11_9, ev_b_10, no_0, no_1, no_lt, no_le, no_eq, no_lt0, no_ge0, no_gt0, no_le0, no_eq0, no_0eq, no_eqm, no_meq, no_m0, no_mlt, no_mge, no_mgt, no_mm, no_i01, no_i10, no_in, no_or, no_ifm, no_mul, nI_add, no_sub, pk_div, iI_if, nI_clamp, oI_n, oI_s, not_true_eq_false, not_false_eq_true, forall_const, true_implies, false_and, and_false, or_false, false_or, Classical.not_not, true_or, or_true, no_b, no_eq1, eq_self, and_self, sk_301, sk_302, sl_302, sp_301, q1, q2, ms_mw, ms_302, ms_w, hsb, sk_308, sl_308, sp_308, nar_1, ms_g]
                | exact rfl
                | (split <;> omega))
      · have e : a = n := by omega
        subst e
        have q1 : ned (S a).1 (S a).2 ((S a).1 1) = none := by
          cases q : ned (S a).1 (S a).2 ((S a).1 1) with
          | none => rfl
          | some p =>
            unfold fs at hend
            rw [q] at hend
            dsimp only at hend
            split at hend
            · cases hend
            · split at hend <;> cases hend
        repeat' (first
          | (with_reducible refine ev_rid ?_; simp (disch := first | omega | assumption) only [ev_run_c, ev_run_n, ev_fj, ev_stp, ev_lk, ev_fv, ev_as, ev_sz, ev_st1, ev_st2, ev_rm, ev_pk, ev_Jof, ev_go, lv_args, List.map_cons, List.map_nil, List.zip_cons_cons, List.zip_nil_left, List.zip_nil_right, List.nil_append, List.cons_append, ↓reduceIte, reduceCtorEq, Int.reduceToNat, Nat.reduceEqDiff, Nat.reduceAdd, Nat.reduceLT, Nat.reduceLeDiff, Nat.reduceMul, Value.category, false_implies, true_and, and_true, Bool.false_eq_true, Option.some.injEq, exists_eq_left', Option.toList_some, Option.toList_none, ev_km, ev_k2, ev_k3, ev_k4, ev_k5, ev_l0, ev_l1, sh_1, sh_2, sh_3, sh_4, sh_5, at_X11_fills_28, at_X11_fills_33, at_X11_fills_70, at_X11_fills_85, at_X11_fills_9, at_X11_fills_93, ca_X11_174, ca_X11_341, ca_X11_344, ca_X11_347, cd_X11_fills_0, cd_X11_fills_28, cd_X11_fills_33, cd_X11_fills_70, cd_X11_fills_85, cd_X11_fills_9, cd_X11_fills_93, fl_X11_34, fl_X11_9, ev_b_10, no_0, no_1, no_lt, no_le, no_eq, no_lt0, no_ge0, no_gt0, no_le0, no_eq0, no_0eq, no_eqm, no_meq, no_m0, no_mlt, no_mge, no_mgt, no_mm, no_i01, no_i10, no_in, no_or, no_ifm, no_mul, nI_add, no_sub, pk_div, iI_if, nI_clamp, oI_n, oI_s, not_true_eq_false, not_false_eq_true, forall_const, true_implies, false_and, and_false, or_false, false_or, Classical.not_not, true_or, or_true, no_b, no_eq1, eq_self, and_self, sk_301, sk_302, sl_302, sp_301, q1, ms_302])
          | (with_reducible refine ev_gid ?_; simp (disch := first | omega | assumption) only [ev_run_c, ev_run_n, ev_fj, ev_stp, ev_lk, ev_fv, ev_as, ev_sz, ev_st1, ev_st2, ev_rm, ev_pk, ev_Jof, ev_go, lv_args, List.map_cons, List.map_nil, List.zip_cons_cons, List.zip_nil_left, List.zip_nil_right, List.nil_append, List.cons_append, ↓reduceIte, reduceCtorEq, Int.reduceToNat, Nat.reduceEqDiff, Nat.reduceAdd, Nat.reduceLT, Nat.reduceLeDiff, Nat.reduceMul, Value.category, false_implies, true_and, and_true, Bool.false_eq_true, Option.some.injEq, exists_eq_left', Option.toList_some, Option.toList_none, ev_km, ev_k2, ev_k3, ev_k4, ev_k5, ev_l0, ev_l1, sh_1, sh_2, sh_3, sh_4, sh_5, at_X11_fills_28, at_X11_fills_33, at_X11_fills_70, at_X11_fills_85, at_X11_fills_9, at_X11_fills_93, ca_X11_174, ca_X11_341, ca_X11_344, ca_X11_347, cd_X11_fills_0, cd_X11_fills_28, cd_X11_fills_33, cd_X11_fills_70, cd_X11_fills_85, cd_X11_fills_9, cd_X11_fills_93, fl_X11_34, fl_X11_9, ev_b_10, no_0, no_1, no_lt, no_le, no_eq, no_lt0, no_ge0, no_gt0, no_le0, no_eq0, no_0eq, no_eqm, no_meq, no_m0, no_mlt, no_mge, no_mgt, no_mm, no_i01, no_i10, no_in, no_or, no_ifm, no_mul, nI_add, no_sub, pk_div, iI_if, nI_clamp, oI_n, oI_s, not_true_eq_false, not_false_eq_true, forall_const, true_implies, false_and, and_false, or_false, false_or, Classical.not_not, true_or, or_true, no_b, no_eq1, eq_self, and_self, sk_301, sk_302, sl_302, sp_301, q1, ms_302])
          | (with_reducible refine And.intro (fun q => ?_) (fun q => ?_) <;> (try simp (disch := first | omega | assumption) only [no_0, no_1, no_lt, no_le, no_eq, no_lt0, no_ge0, no_gt0, no_le0, no_eq0, no_0eq, no_eqm, no_meq, no_m0, no_mlt, no_mge, no_mgt, no_mm, no_i01, no_i10, no_in, no_or, no_ifm, no_mul, nI_add, no_sub, pk_div, iI_if, nI_clamp, oI_n, oI_s, not_true_eq_false, not_false_eq_true, forall_const, true_implies, false_and, and_false, or_false, false_or, Classical.not_not, true_or, or_true, no_b, no_eq1, eq_self, and_self, sk_301, sk_302, sl_302, sp_301, q1, ms_302] at q))
          | with_reducible refine ev_ci (m_X11_neediest hok (by first | assumption | exact ms_R) (by assumption) (by first | assumption | exact ms_G) (by assumption)) ?_
          | with_reducible refine ev_ci (m_X11_best hok (by first | assumption | exact mw_R | exact ms_R) (by assumption) ?_) ?_
          | with_reducible refine ev_ci (m_X11_best hok (by assumption) (by assumption) ?_) ?_
          | with_reducible refine ev_ci (m_X11_seats hok (by first | assumption | exact mw_R | exact ms_R) ?_ ?_) ?_
          | with_reducible refine ev_ci (m_X11_seats hok (by first | assumption | exact mw_R) ?_ ?_) ?_
          | with_reducible refine ev_ci (m_X11_moves_s hok (by first | assumption | exact ms_R) (by assumption) ?_ (by assumption)) ?_
          | with_reducible refine ev_ci (m_X11_moves_n hok (by first | assumption | exact ms_R) (by assumption) ?_ (by assumption)) ?_
          | omega
          | with_reducible assumption
          | with_reducible rfl
          | with_reducible refine lp_nx ?_ ?_ ?_ ?_
          | with_reducible refine lp_st ?_ ?_ ?_
          | with_reducible refine ls_c ?_ ?_
          | with_reducible refine vi_c ?_
          | with_reducible refine re_c ?_
          | with_reducible refine vz_c ?_
          | with_reducible refine rz_c ?_
          | exact trivial
          | with_reducible refine And.intro ?_ ?_
          | simp (disch := first | omega | assumption) only [ev_run_c, ev_run_n, ev_fj, ev_stp, ev_lk, ev_fv, ev_as, ev_sz, ev_st1, ev_st2, ev_rm, ev_pk, ev_Jof, ev_go, lv_args, List.map_cons, List.map_nil, List.zip_cons_cons, List.zip_nil_left, List.zip_nil_right, List.nil_append, List.cons_append, ↓reduceIte, reduceCtorEq, Int.reduceToNat, Nat.reduceEqDiff, Nat.reduceAdd, Nat.reduceLT, Nat.reduceLeDiff, Nat.reduceMul, Value.category, false_implies, true_and, and_true, Bool.false_eq_true, Option.some.injEq, exists_eq_left', Option.toList_some, Option.toList_none, ev_km, ev_k2, ev_k3, ev_k4, ev_k5, ev_l0, ev_l1, sh_1, sh_2, sh_3, sh_4, sh_5, at_X11_fills_28, at_X11_fills_33, at_X11_fills_70, at_X11_fills_85, at_X11_fills_9, at_X11_fills_93, ca_X11_174, ca_X11_341, ca_X11_344, ca_X11_347, cd_X11_fills_0, cd_X11_fills_28, cd_X11_fills_33, cd_X11_fills_70, cd_X11_fills_85, cd_X11_fills_9, cd_X11_fills_93, fl_X11_34, fl_X11_9, ev_b_10, no_0, no_1, no_lt, no_le, no_eq, no_lt0, no_ge0, no_gt0, no_le0, no_eq0, no_0eq, no_eqm, no_meq, no_m0, no_mlt, no_mge, no_mgt, no_mm, no_i01, no_i10, no_in, no_or, no_ifm, no_mul, nI_add, no_sub, pk_div, iI_if, nI_clamp, oI_n, oI_s, not_true_eq_false, not_false_eq_true, forall_const, true_implies, false_and, and_false, or_false, false_or, Classical.not_not, true_or, or_true, no_b, no_eq1, eq_self, and_self, sk_301, sk_302, sl_302, sp_301, q1, ms_302]
          | exact rfl
          | (split <;> omega))
  · rw [at_X11_fills_0]
    repeat' (first
      | (with_reducible refine ev_rid ?_; simp (disch := first | omega | assumption) only [ev_run_c, ev_run_n, ev_fj, ev_stp, ev_lk, ev_fv, ev_as, ev_sz, ev_st1, ev_st2, ev_rm, ev_pk, ev_Jof, ev_go, lv_args, List.map_cons, List.map_nil, List.zip_cons_cons, List.zip_nil_left, List.zip_nil_right, List.nil_append, List.cons_append, ↓reduceIte, reduceCtorEq, Int.reduceToNat, Nat.reduceEqDiff, Nat.reduceAdd, Nat.reduceLT, Nat.reduceLeDiff, Nat.reduceMul, Value.category, false_implies, true_and, and_true, Bool.false_eq_true, Option.some.injEq, exists_eq_left', Option.toList_some, Option.toList_none, ev_km, ev_k2, ev_k3, ev_k4, ev_k5, ev_l0, ev_l1, sh_1, sh_2, sh_3, sh_4, sh_5, at_X11_fills_28, at_X11_fills_33, at_X11_fills_70, at_X11_fills_85, at_X11_fills_9, at_X11_fills_93, ca_X11_174, ca_X11_341, ca_X11_344, ca_X11_347, cd_X11_fills_0, cd_X11_fills_28, cd_X11_fills_33, cd_X11_fills_70, cd_X11_fills_85, cd_X11_fills_9, cd_X11_fills_93, fl_X11_34, fl_X11_9, ev_b_10, no_0, no_1, no_lt, no_le, no_eq, no_lt0, no_ge0, no_gt0, no_le0, no_eq0, no_0eq, no_eqm, no_meq, no_m0, no_mlt, no_mge, no_mgt, no_mm, no_i01, no_i10, no_in, no_or, no_ifm, no_mul, nI_add, no_sub, pk_div, iI_if, nI_clamp, oI_n, oI_s, not_true_eq_false, not_false_eq_true, forall_const, true_implies, false_and, and_false, or_false, false_or, Classical.not_not, true_or, or_true, no_b, no_eq1, eq_self, and_self, sk_301, sk_302, sl_302, sp_301, hN'])
      | (with_reducible refine ev_gid ?_; simp (disch := first | omega | assumption) only [ev_run_c, ev_run_n, ev_fj, ev_stp, ev_lk, ev_fv, ev_as, ev_sz, ev_st1, ev_st2, ev_rm, ev_pk, ev_Jof, ev_go, lv_args, List.map_cons, List.map_nil, List.zip_cons_cons, List.zip_nil_left, List.zip_nil_right, List.nil_append, List.cons_append, ↓reduceIte, reduceCtorEq, Int.reduceToNat, Nat.reduceEqDiff, Nat.reduceAdd, Nat.reduceLT, Nat.reduceLeDiff, Nat.reduceMul, Value.category, false_implies, true_and, and_true, Bool.false_eq_true, Option.some.injEq, exists_eq_left', Option.toList_some, Option.toList_none, ev_km, ev_k2, ev_k3, ev_k4, ev_k5, ev_l0, ev_l1, sh_1, sh_2, sh_3, sh_4, sh_5, at_X11_fills_28, at_X11_fills_33, at_X11_fills_70, at_X11_fills_85, at_X11_fills_9, at_X11_fills_93, ca_X11_174, ca_X11_341, ca_X11_344, ca_X11_347, cd_X11_fills_0, cd_X11_fills_28, cd_X11_fills_33, cd_X11_fills_70, cd_X11_fills_85, cd_X11_fills_9, cd_X11_fills_93, fl_X11_34, fl_X11_9, ev_b_10, no_0, no_1, no_lt, no_le, no_eq, no_lt0, no_ge0, no_gt0, no_le0, no_eq0, no_0eq, no_eqm, no_meq, no_m0, no_mlt, no_mge, no_mgt, no_mm, no_i01, no_i10, no_in, no_or, no_ifm, no_mul, nI_add, no_sub, pk_div, iI_if, nI_clamp, oI_n, oI_s, not_true_eq_false, not_false_eq_true, forall_const, true_implies, false_and, and_false, or_false, false_or, Classical.not_not, true_or, or_true, no_b, no_eq1, eq_self, and_self, sk_301, sk_302, sl_302, sp_301, hN'])
      | (with_reducible refine And.intro (fun q => ?_) (fun q => ?_) <;> (try simp (disch := first | omega | assumption) only [no_0, no_1, no_lt, no_le, no_eq, no_lt0, no_ge0, no_gt0, no_le0, no_eq0, no_0eq, no_eqm, no_meq, no_m0, no_mlt, no_mge, no_mgt, no_mm, no_i01, no_i10, no_in, no_or, no_ifm, no_mul, nI_add, no_sub, pk_div, iI_if, nI_clamp, oI_n, oI_s, not_true_eq_false, not_false_eq_true, forall_const, true_implies, false_and, and_false, or_false, false_or, Classical.not_not, true_or, or_true, no_b, no_eq1, eq_self, and_self, sk_301, sk_302, sl_302, sp_301, hN'] at q))
      | with_reducible refine ev_ci (m_X11_neediest hok (by first | assumption | exact ms_R) (by assumption) (by first | assumption | exact ms_G) (by assumption)) ?_
      | with_reducible refine ev_ci (m_X11_best hok (by first | assumption | exact mw_R | exact ms_R) (by assumption) ?_) ?_
      | with_reducible refine ev_ci (m_X11_best hok (by assumption) (by assumption) ?_) ?_
      | with_reducible refine ev_ci (m_X11_seats hok (by first | assumption | exact mw_R | exact ms_R) ?_ ?_) ?_
      | with_reducible refine ev_ci (m_X11_seats hok (by first | assumption | exact mw_R) ?_ ?_) ?_
      | with_reducible refine ev_ci (m_X11_moves_s hok (by first | assumption | exact ms_R) (by assumption) ?_ (by assumption)) ?_
      | with_reducible refine ev_ci (m_X11_moves_n hok (by first | assumption | exact ms_R) (by assumption) ?_ (by assumption)) ?_
      | omega
      | with_reducible assumption
      | with_reducible rfl
      | refine lpG_st 0 0 0 ?_ ?_ ?_
      | exact gz_0.symm
      | with_reducible refine lp_nx ?_ ?_ ?_ ?_
      | with_reducible refine lp_st ?_ ?_ ?_
      | with_reducible refine ls_c ?_ ?_
      | with_reducible refine vi_c ?_
      | with_reducible refine re_c ?_
      | with_reducible refine vz_c ?_
      | with_reducible refine rz_c ?_
      | exact trivial
      | with_reducible refine And.intro ?_ ?_
      | simp (disch := first | omega | assumption) only [ev_run_c, ev_run_n, ev_fj, ev_stp, ev_lk, ev_fv, ev_as, ev_sz, ev_st1, ev_st2, ev_rm, ev_pk, ev_Jof, ev_go, lv_args, List.map_cons, List.map_nil, List.zip_cons_cons, List.zip_nil_left, List.zip_nil_right, List.nil_append, List.cons_append, ↓reduceIte, reduceCtorEq, Int.reduceToNat, Nat.reduceEqDiff, Nat.reduceAdd, Nat.reduceLT, Nat.reduceLeDiff, Nat.reduceMul, Value.category, false_implies, true_and, and_true, Bool.false_eq_true, Option.some.injEq, exists_eq_left', Option.toList_some, Option.toList_none, ev_km, ev_k2, ev_k3, ev_k4, ev_k5, ev_l0, ev_l1, sh_1, sh_2, sh_3, sh_4, sh_5, at_X11_fills_28, at_X11_fills_33, at_X11_fills_70, at_X11_fills_85, at_X11_fills_9, at_X11_fills_93, ca_X11_174, ca_X11_341, ca_X11_344, ca_X11_347, cd_X11_fills_0, cd_X11_fills_28, cd_X11_fills_33, cd_X11_fills_70, cd_X11_fills_85, cd_X11_fills_9, cd_X11_fills_93, fl_X11_34, fl_X11_9, ev_b_10, no_0, no_1, no_lt, no_le, no_eq, no_lt0, no_ge0, no_gt0, no_le0, no_eq0, no_0eq, no_eqm, no_meq, no_m0, no_mlt, no_mge, no_mgt, no_mm, no_i01, no_i10, no_in, no_or, no_ifm, no_mul, nI_add, no_sub, pk_div, iI_if, nI_clamp, oI_n, oI_s, not_true_eq_false, not_false_eq_true, forall_const, true_implies, false_and, and_false, or_false, false_or, Classical.not_not, true_or, or_true, no_b, no_eq1, eq_self, and_self, sk_301, sk_302, sl_302, sp_301, hN']
      | exact rfl
      | (split <;> omega))
end MFills
