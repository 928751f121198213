/-! ===== the reference: output ===== -/
section MPage
variable {G : ev_G} {N : Nat → Nat} {μ μ' : ev_M} {σ : ev_A}
theorem sk_309 : sh_kd 309 = 11 := by decide +kernel
theorem sl_309 : sh_ln 309 = 200 := by decide +kernel
theorem sp_309 : sh_pt 301 19 = 309 := by decide +kernel
/-- the page holds a list -/
def pgr (l : List Nat) (μ : ev_M) : ev_M := (fun c k => if c = 309 ∧ k < l.length then nI (l.getD k 0) else if c = 301 ∧ k = 20 then nI l.length else μ.1 c k, μ.2)
theorem pgr_add {v : Nat} {l : List Nat} : w1 (w1 (pgr l μ) 309 l.length (nI v)) 301 20 (nI (l.length + 1)) = pgr (l ++ [v]) μ := by
  refine Prod.ext (funext fun c => funext fun k => ?_) rfl
  show (if c = 301 ∧ k = 20 then nI (l.length + 1) else if c = 309 ∧ k = l.length then nI v else if c = 309 ∧ k < l.length then nI (l.getD k 0) else if c = 301 ∧ k = 20 then nI l.length else μ.1 c k) = if c = 309 ∧ k < (l ++ [v]).length then nI ((l ++ [v]).getD k 0) else if c = 301 ∧ k = 20 then nI (l ++ [v]).length else μ.1 c k
  rw [List.length_append, List.length_singleton]
  by_cases h1 : c = 301 ∧ k = 20
  · rw [if_pos h1, if_neg (by omega), if_pos h1]
  · rw [if_neg h1]
    by_cases h2 : c = 309
    · by_cases h3 : k = l.length
      · rw [if_pos ⟨h2, h3⟩, if_pos ⟨h2, by omega⟩, h3]
        simp
      · rw [if_neg (fun z => h3 z.2)]
        by_cases h4 : k < l.length
        · rw [if_pos ⟨h2, h4⟩, if_pos ⟨h2, by omega⟩, List.getD_eq_getElem?_getD, List.getD_eq_getElem?_getD, List.getElem?_append_left h4]
        · rw [if_neg (fun z => h4 z.2), if_neg h1, if_neg (by omega), if_neg h1]
    · rw [if_neg (fun z => h2 z.1), if_neg (fun z => h2 z.1), if_neg h1, if_neg (fun z => h2 z.1), if_neg h1]
theorem pgr_s {l : List Nat} : (pgr l μ).1 301 20 = nI l.length := by
  show (if 301 = 309 ∧ 20 < l.length then nI (l.getD 20 0) else if 301 = 301 ∧ 20 = 20 then nI l.length else μ.1 301 20) = _
  rw [if_neg (by omega), if_pos ⟨rfl, rfl⟩]
theorem pgr_n {c k : Nat} {l : List Nat} (h : c ≠ 309) (h2 : ¬ (c = 301 ∧ k = 20)) : (pgr l μ).1 c k = μ.1 c k := by
  show (if c = 309 ∧ k < l.length then nI (l.getD k 0) else if c = 301 ∧ k = 20 then nI l.length else μ.1 c k) = _
  rw [if_neg (fun z => h z.1), if_neg h2]
theorem pgr_0 : w1 μ 301 20 (nI 0) = pgr [] μ := by
  refine Prod.ext (funext fun c => funext fun k => ?_) rfl
  show (if c = 301 ∧ k = 20 then nI 0 else μ.1 c k) = if c = 309 ∧ k < 0 then nI (([] : List Nat).getD k 0) else if c = 301 ∧ k = 20 then nI 0 else μ.1 c k
  rw [if_neg (show ¬ (c = 309 ∧ k < 0) from fun z => absurd z.2 (Nat.not_lt_zero _))]
theorem pgr_R {l : List Nat} (h : MR N μ) : MR N (pgr l μ) := fun k hk => (pgr_n (by omega) (by omega)).trans (h k hk)
theorem pgr_q {l : List Nat} : Fq μ (pgr l μ) := ⟨fun a k ha => pgr_n (by omega) (by omega), rfl⟩
theorem MS_out {l : List Nat} (h : MS σ μ) : MS (gS σ l) (pgr l μ) := by
  obtain ⟨h1, h2, h3, h4, h5, h6, h7, h8, h9, h10, h11, h12⟩ := h
  have e : ∀ a k, a ≠ 309 → ¬ (a = 301 ∧ k = 20) → (pgr l μ).1 a k = μ.1 a k := fun a k ha hb => pgr_n ha hb
  exact ⟨pgr_R h1, (e _ _ (by omega) (by omega)).trans h2, (e _ _ (by omega) (by omega)).trans h3, fun i hi j hj => (e _ _ (by omega) (by omega)).trans (h4 i hi j hj), fun s hs => (e _ _ (by omega) (by omega)).trans (h5 s hs), fun s hs hv j hj => (e _ _ (by omega) (by omega)).trans (h6 s hs hv j hj), (e _ _ (by omega) (by omega)).trans h7, fun i hi => (e _ _ (by omega) (by omega)).trans (h8 i hi), (e _ _ (by omega) (by omega)).trans h9, (e _ _ (by omega) (by omega)).trans h10, pgr_s, fun i hi => if_pos ⟨rfl, hi⟩⟩
theorem bt_8 {x : Nat} (h : x < 128) : (nI x).toInt8.toInt32.toInt8.toInt32 = nI x := by
  have : ∀ x : Fin 128, (nI x.1).toInt8.toInt32.toInt8.toInt32 = nI x.1 := by decide +kernel
  exact this ⟨x, h⟩
theorem m_writesByte (hok : ev_ok sh_S G) {l : List Nat} {x : Nat} (hl : l.length < 200) (hx : x < 128) : ev_T sh_S G mi_X11_writesByte [.ref 301, .int (nI x)] (pgr l μ) (.inl (none, pgr (l ++ [x]) μ)) := by
  rw [← pgr_add]
  have h := bt_8 hx
  have e0 : (pgr l μ).1 301 20 = nI l.length := pgr_s
  have e1 : ∀ x, (w1 (pgr l μ) 309 l.length x).1 301 20 = nI l.length := fun x => by rw [w1_n (by omega), pgr_s]
  refine ev_tri hok (okM_X11_writesByte 0) (Nat.le_of_ble_eq_true rfl) 400 ?_
  rw [at_X11_writesByte_0]
  repeat' (first
    | (with_reducible refine ev_rid ?_; simp (disch := first | omega | assumption) only [ev_run_c, ev_run_n, ev_fj, ev_stp, ev_lk, ev_fv, ev_as, ev_sz, ev_st1, ev_st2, ev_rm, ev_pk, ev_Jof, ev_go, lv_args, List.map_cons, List.map_nil, List.zip_cons_cons, List.zip_nil_left, List.zip_nil_right, List.nil_append, List.cons_append, ↓reduceIte, reduceCtorEq, Int.reduceToNat, Nat.reduceEqDiff, Nat.reduceAdd, Nat.reduceLT, Nat.reduceLeDiff, Nat.reduceMul, Nat.reduceSub, Value.category, false_implies, true_and, and_true, Bool.false_eq_true, Option.some.injEq, exists_eq_left', Option.toList_some, Option.toList_none, ev_km, ev_k2, ev_k3, ev_k4, ev_k5, ev_l0, ev_l1, sh_1, sh_2, sh_3, sh_4, sh_5, cd_X11_writesByte_0, fl_X11_37, fl_X11_445, no_0, no_1, no_lt, no_le, no_eq, no_lt0, no_ge0, no_gt0, no_le0, no_eq0, no_0eq, no_eqm, no_meq, no_m0, no_mlt, no_mge, no_mgt, no_mm, no_i01, no_i10, no_in, no_or, no_ifm, no_mul, nI_add, no_sub, pk_div, iI_if, nI_clamp, oI_n, oI_s, not_true_eq_false, not_false_eq_true, forall_const, true_implies, false_and, and_false, or_false, false_or, Classical.not_not, true_or, or_true, no_b, no_eq1, eq_self, and_self, sk_301, sk_302, sl_302, sp_301, e0, e1, h, w1_d, sk_309, sl_309, sp_309])
    | (with_reducible refine ev_gid ?_; simp (disch := first | omega | assumption) only [ev_run_c, ev_run_n, ev_fj, ev_stp, ev_lk, ev_fv, ev_as, ev_sz, ev_st1, ev_st2, ev_rm, ev_pk, ev_Jof, ev_go, lv_args, List.map_cons, List.map_nil, List.zip_cons_cons, List.zip_nil_left, List.zip_nil_right, List.nil_append, List.cons_append, ↓reduceIte, reduceCtorEq, Int.reduceToNat, Nat.reduceEqDiff, Nat.reduceAdd, Nat.reduceLT, Nat.reduceLeDiff, Nat.reduceMul, Nat.reduceSub, Value.category, false_implies, true_and, and_true, Bool.false_eq_true, Option.some.injEq, exists_eq_left', Option.toList_some, Option.toList_none, ev_km, ev_k2, ev_k3, ev_k4, ev_k5, ev_l0, ev_l1, sh_1, sh_2, sh_3, sh_4, sh_5, cd_X11_writesByte_0, fl_X11_37, fl_X11_445, no_0, no_1, no_lt, no_le, no_eq, no_lt0, no_ge0, no_gt0, no_le0, no_eq0, no_0eq, no_eqm, no_meq, no_m0, no_mlt, no_mge, no_mgt, no_mm, no_i01, no_i10, no_in, no_or, no_ifm, no_mul, nI_add, no_sub, pk_div, iI_if, nI_clamp, oI_n, oI_s, not_true_eq_false, not_false_eq_true, forall_const, true_implies, false_and, and_false, or_false, false_or, Classical.not_not, true_or, or_true, no_b, no_eq1, eq_self, and_self, sk_301, sk_302, sl_302, sp_301, e0, e1, h, w1_d, sk_309, sl_309, sp_309])
    | (with_reducible refine And.intro (fun q => ?_) (fun q => ?_) <;> (try simp (disch := first | omega | assumption) only [no_0, no_1, no_lt, no_le, no_eq, no_lt0, no_ge0, no_gt0, no_le0, no_eq0, no_0eq, no_eqm, no_meq, no_m0, no_mlt, no_mge, no_mgt, no_mm, no_i01, no_i10, no_in, no_or, no_ifm, no_mul, nI_add, no_sub, pk_div, iI_if, nI_clamp, oI_n, oI_s, not_true_eq_false, not_false_eq_true, forall_const, true_implies, false_and, and_false, or_false, false_or, Classical.not_not, true_or, or_true, no_b, no_eq1, eq_self, and_self, sk_301, sk_302, sl_302, sp_301, e0, e1, h, w1_d, sk_309, sl_309, sp_309] at q))
    | omega
    | with_reducible assumption
    | with_reducible rfl
    | exact Or.inl ⟨trivial, ?_⟩
    | with_reducible refine lp_nx ?_ ?_ ?_ ?_
    | with_reducible refine lp_st ?_ ?_ ?_
    | with_reducible refine ls_c ?_ ?_
    | with_reducible refine vi_c ?_
    | with_reducible refine re_c ?_
    | with_reducible refine vz_c ?_
    | with_reducible refine rz_c ?_
    | exact trivial
    | with_reducible refine And.intro ?_ ?_
    | simp (disch := first | omega | assumption) only [ev_run_c, ev_run_n, ev_fj, ev_stp, ev_lk, ev_fv, ev_as, ev_sz, ev_st1, ev_st2, ev_rm, ev_pk, ev_Jof, ev_go, lv_args, List.map_cons, List.map_nil, List.zip_cons_cons, List.zip_nil_left, List.zip_nil_right, List.nil_append, List.cons_append, ↓reduceIte, reduceCtorEq, Int.reduceToNat, Nat.reduceEqDiff, Nat.reduceAdd, Nat.reduceLT, Nat.reduceLeDiff, Nat.reduceMul, Nat.reduceSub, Value.category, false_implies, true_and, and_true, Bool.false_eq_true, Option.some.injEq, exists_eq_left', Option.toList_some, Option.toList_none, ev_km, ev_k2, ev_k3, ev_k4, ev_k5, ev_l0, ev_l1, sh_1, sh_2, sh_3, sh_4, sh_5, cd_X11_writesByte_0, fl_X11_37, fl_X11_445, no_0, no_1, no_lt, no_le, no_eq, no_lt0, no_ge0, no_gt0, no_le0, no_eq0, no_0eq, no_eqm, no_meq, no_m0, no_mlt, no_mge, no_mgt, no_mm, no_i01, no_i10, no_in, no_or, no_ifm, no_mul, nI_add, no_sub, pk_div, iI_if, nI_clamp, oI_n, oI_s, not_true_eq_false, not_false_eq_true, forall_const, true_implies, false_and, and_false, or_false, false_or, Classical.not_not, true_or, or_true, no_b, no_eq1, eq_self, and_self, sk_301, sk_302, sl_302, sp_301, e0, e1, h, w1_d, sk_309, sl_309, sp_309]
    | exact rfl
    | (split <;> omega))
/-- the first digit -/
theorem dvs_b {i k : Nat} (hi : i < k) (hk : k ≤ 9) : 10 * dvs k ≤ dvs i ∧ ¬ dvs i = 1 := by
  have : ∀ k : Fin 10, ∀ i : Fin 10, i < k → 10 * dvs k.1 ≤ dvs i.1 ∧ ¬ dvs i.1 = 1 := by decide +kernel
  exact this ⟨k, by omega⟩ ⟨i, by omega⟩ hi
theorem dvs_m {k : Nat} (hk : k < 9) : dvs (k + 1) * 10 = dvs k := by
  have : ∀ k : Fin 9, dvs (k.1 + 1) * 10 = dvs k.1 := by decide +kernel
  exact this ⟨k, hk⟩
theorem dS {n k : Nat} (hk : k ≤ 9) (h : n / dvs k ≤ 9) : ∀ j, j ≤ k → hst n j = 0 ∧ dL n j = [] := by
  intro j
  induction j with
  | zero => exact fun _ => ⟨rfl, rfl⟩
  | succ j ih =>
    intro hj
    obtain ⟨i1, i2⟩ := ih (by omega)
    obtain ⟨b1, b2⟩ := dvs_b (show j < k by omega) hk
    have hd := (dvs_s (show k < 10 by omega)).2.1
    have h0 : n / dvs j = 0 := by
      apply Nat.div_eq_of_lt
      have h1 : n < (9 + 1) * dvs k := (Nat.div_lt_iff_lt_mul hd).mp (by omega)
      omega
    have hg : dgt n j = 0 := by unfold dgt; rw [h0]
    obtain ⟨f1, f2⟩ := dL_0 ⟨i1, hg, b2⟩
    exact ⟨f1, f2.trans i2⟩
/-- from here on every digit is written -/
def goN (n k : Nat) : Prop := ¬ (hst n k = 0 ∧ dgt n k = 0 ∧ ¬ dvs k = 1)
theorem goN_s {n k : Nat} (h : goN n k) : goN n (k + 1) := fun z => by
  have := (dL_1 h).1
  omega
theorem goN_0 {n k : Nat} (hk : k ≤ 9) (h : n / dvs k ≤ 9) (h2 : k = 9 ∨ 9 < n / dvs (k + 1)) : goN n k := fun z => by
  rcases h2 with rfl | h2
  · exact z.2.2 rfl
  · have h9 : k < 9 := Classical.byContradiction fun g => by
      have : k = 9 := by omega
      subst this
      rw [show dvs (9 + 1) = 0 from rfl, Nat.div_zero] at h2
      omega
    have e : n / dvs k = n / dvs (k + 1) / 10 := by rw [← dvs_m h9, Nat.div_div_eq_div_mul]
    have e2 : dgt n k = n / dvs k := by
      have : n / dvs k / 10 * 10 = 0 := by omega
      unfold dgt
      omega
    omega
set_option maxHeartbeats 1000000 in
theorem m_writesNumber (hok : ev_ok sh_S G) {l : List Nat} {z : Int} (hl : l.length + 11 < 200) (hz : -3200000 ≤ z ∧ z ≤ 3200000) : ev_T sh_S G mi_X11_writesNumber [.ref 301, .int (iI z)] (pgr l μ) (.inl (none, pgr (l ++ dgZ z) μ)) := by
  have hn : z.natAbs ≤ 3200000 := by omega
  have hs : (if z < 0 then [45] else ([] : List Nat)).length ≤ 1 := by split <;> simp
  have hs2 : (l ++ (if z < 0 then [45] else ([] : List Nat))).length ≤ l.length + 1 := by rw [List.length_append]; omega
  refine ev_triG hok (okM_X11_writesNumber 0) (Nat.le_of_ble_eq_true rfl) [(17, [0, 1, 2, 3]), (33, [0, 1, 2, 3])] 400 (fun pc a _ _ => if pc = 17 then a ≤ 9 ∧ (a = 9 ∨ 9 < z.natAbs / dvs (a + 1)) else a ≤ 10 ∧ (a < 10 → goN z.natAbs a)) (fun _ a _ _ => [.ref 301, .int (iI z), .int (nI z.natAbs), .int (nI (dvs a))]) (fun pc a _ _ => if pc = 17 then pgr (l ++ (if z < 0 then [45] else [])) μ else pgr (l ++ (if z < 0 then [45] else []) ++ dL z.natAbs a) μ) (fun pc a _ _ => if pc = 17 then 100 + a else 10 - a) ?_ ?_
  · intro x hx a b c hP
    simp only [List.mem_cons, List.not_mem_nil, or_false] at hx
    rcases hx with rfl | rfl
    · have hP : a ≤ 9 ∧ (a = 9 ∨ 9 < z.natAbs / dvs (a + 1)) := hP
      dsimp only
      rw [at_X11_writesNumber_17]
      obtain ⟨e1, e2, e3⟩ := dvs_s (show a < 10 by omega)
      have eq1 : z.natAbs / dvs a ≤ z.natAbs := Nat.div_le_self _ _
      by_cases c9 : z.natAbs / dvs a ≤ 9
      · have g0 := goN_0 hP.1 c9 hP.2
        obtain ⟨s1, s2⟩ := dS hP.1 c9 a (Nat.le_refl _)
        have e9 : l ++ (if z < 0 then [45] else []) ++ dL z.natAbs a = l ++ (if z < 0 then [45] else []) := by rw [s2, List.append_nil]
        have hq : a ≤ 10 ∧ (a < 10 → goN z.natAbs a) := ⟨by omega, fun _ => g0⟩
        repeat' (first
          | (with_reducible refine ev_rid ?_; simp (disch := first | omega | assumption) only [ev_run_c, ev_run_n, ev_fj, ev_stp, ev_lk, ev_fv, ev_as, ev_sz, ev_st1, ev_st2, ev_rm, ev_pk, ev_Jof, ev_go, lv_args, List.map_cons, List.map_nil, List.zip_cons_cons, List.zip_nil_left, List.zip_nil_right, List.nil_append, List.cons_append, ↓reduceIte, reduceCtorEq, Int.reduceToNat, Nat.reduceEqDiff, Nat.reduceAdd, Nat.reduceLT, Nat.reduceLeDiff, Nat.reduceMul, Nat.reduceSub, Value.category, false_implies, true_and, and_true, Bool.false_eq_true, Option.some.injEq, exists_eq_left', Option.toList_some, Option.toList_none, ev_km, ev_k2, ev_k3, ev_k4, ev_k5, ev_l0, ev_l1, sh_1, sh_2, sh_3, sh_4, sh_5, at_X11_writesNumber_10, at_X11_writesNumber_17, at_X11_writesNumber_33, at_X11_writesNumber_58, ca_X11_385, ca_X11_448, cd_X11_writesNumber_0, cd_X11_writesNumber_10, cd_X11_writesNumber_17, cd_X11_writesNumber_33, cd_X11_writesNumber_58, ev_b_10, ev_b_45, ev_b_48, ev_b_9, no_0, no_1, no_lt, no_le, no_eq, no_lt0, no_ge0, no_gt0, no_le0, no_eq0, no_0eq, no_eqm, no_meq, no_m0, no_mlt, no_mge, no_mgt, no_mm, no_i01, no_i10, no_in, no_or, no_ifm, no_mul, nI_add, no_sub, pk_div, iI_if, nI_clamp, oI_n, oI_s, not_true_eq_false, not_false_eq_true, forall_const, true_implies, false_and, and_false, or_false, false_or, Classical.not_not, true_or, or_true, no_b, no_eq1, eq_self, and_self, sk_301, sk_302, sl_302, sp_301, c9])
          | (with_reducible refine ev_gid ?_; simp (disch := first | omega | assumption) only [ev_run_c, ev_run_n, ev_fj, ev_stp, ev_lk, ev_fv, ev_as, ev_sz, ev_st1, ev_st2, ev_rm, ev_pk, ev_Jof, ev_go, lv_args, List.map_cons, List.map_nil, List.zip_cons_cons, List.zip_nil_left, List.zip_nil_right, List.nil_append, List.cons_append, ↓reduceIte, reduceCtorEq, Int.reduceToNat, Nat.reduceEqDiff, Nat.reduceAdd, Nat.reduceLT, Nat.reduceLeDiff, Nat.reduceMul, Nat.reduceSub, Value.category, false_implies, true_and, and_true, Bool.false_eq_true, Option.some.injEq, exists_eq_left', Option.toList_some, Option.toList_none, ev_km, ev_k2, ev_k3, ev_k4, ev_k5, ev_l0, ev_l1, sh_1, sh_2, sh_3, sh_4, sh_5, at_X11_writesNumber_10, at_X11_writesNumber_17, at_X11_writesNumber_33, at_X11_writesNumber_58, ca_X11_385, ca_X11_448, cd_X11_writesNumber_0, cd_X11_writesNumber_10, cd_X11_writesNumber_17, cd_X11_writesNumber_33, cd_X11_writesNumber_58, ev_b_10, ev_b_45, ev_b_48, ev_b_9, no_0, no_1, no_lt, no_le, no_eq, no_lt0, no_ge0, no_gt0, no_le0, no_eq0, no_0eq, no_eqm, no_meq, no_m0, no_mlt, no_mge, no_mgt, no_mm, no_i01, no_i10, no_in, no_or, no_ifm, no_mul, nI_add, no_sub, pk_div, iI_if, nI_clamp, oI_n, oI_s, not_true_eq_false, not_false_eq_true, forall_const, true_implies, false_and, and_false, or_false, false_or, Classical.not_not, true_or, or_true, no_b, no_eq1, eq_self, and_self, sk_301, sk_302, sl_302, sp_301, c9])
          | (with_reducible refine And.intro (fun q => ?_) (fun q => ?_) <;> (try simp (disch := first | omega | assumption) only [no_0, no_1, no_lt, no_le, no_eq, no_lt0, no_ge0, no_gt0, no_le0, no_eq0, no_0eq, no_eqm, no_meq, no_m0, no_mlt, no_mge, no_mgt, no_mm, no_i01, no_i10, no_in, no_or, no_ifm, no_mul, nI_add, no_sub, pk_div, iI_if, nI_clamp, oI_n, oI_s, not_true_eq_false, not_false_eq_true, forall_const, true_implies, false_and, and_false, or_false, false_or, Classical.not_not, true_or, or_true, no_b, no_eq1, eq_self, and_self, sk_301, sk_302, sl_302, sp_301, c9] at q))
          | omega
          | with_reducible assumption
          | with_reducible rfl
          | refine lpG_nx a 0 0 ?_ ?_ ?_ ?_
          | exact hq
          | (rw [e9])
          | with_reducible refine lp_nx ?_ ?_ ?_ ?_
          | with_reducible refine lp_st ?_ ?_ ?_
          | with_reducible refine ls_c ?_ ?_
          | with_reducible refine vi_c ?_
          | with_reducible refine re_c ?_
          | with_reducible refine vz_c ?_
          | with_reducible refine rz_c ?_
          | exact trivial
          | with_reducible refine And.intro ?_ ?_
          | simp (disch := first | omega | assumption) only [ev_run_c, ev_run_n, ev_fj, ev_stp, ev_lk, ev_fv, ev_as, ev_sz, ev_st1, ev_st2, ev_rm, ev_pk, ev_Jof, ev_go, lv_args, List.map_cons, List.map_nil, List.zip_cons_cons, List.zip_nil_left, List.zip_nil_right, List.nil_append, List.cons_append, ↓reduceIte, reduceCtorEq, Int.reduceToNat, Nat.reduceEqDiff, Nat.reduceAdd, Nat.reduceLT, Nat.reduceLeDiff, Nat.reduceMul, Nat.reduceSub, Value.category, false_implies, true_and, and_true, Bool.false_eq_true, Option.some.injEq, exists_eq_left', Option.toList_some, Option.toList_none, ev_km, ev_k2, ev_k3, ev_k4, ev_k5, ev_l0, ev_l1, sh_1, sh_2, sh_3, sh_4, sh_5, at_X11_writesNumber_10, at_X11_writesNumber_17, at_X11_writesNumber_33, at_X11_writesNumber_58, ca_X11_385, ca_X11_448, cd_X11_writesNumber_0, cd_X11_writesNumber_10, cd_X11_writesNumber_17, cd_X11_writesNumber_33, cd_X11_writesNumber_58, ev_b_10, ev_b_45, ev_b_48, ev_b_9, no_0, no_1, no_lt, no_le, no_eq, no_lt0, no_ge0, no_gt0, no_le0, no_eq0, no_0eq, no_eqm, no_meq, no_m0, no_mlt, no_mge, no_mgt, no_mm, no_i01, no_i10, no_in, no_or, no_ifm, no_mul, nI_add, no_sub, pk_div, iI_if, nI_clamp, oI_n, oI_s, not_true_eq_false, not_false_eq_true, forall_const, true_implies, false_and, and_false, or_false, false_or, Classical.not_not, true_or, or_true, no_b, no_eq1, eq_self, and_self, sk_301, sk_302, sl_302, sp_301, c9]
          | exact rfl
          | (split <;> omega))
      · have ha : 0 < a := Classical.byContradiction fun g => by
          have : a = 0 := by omega
          subst this
          rw [dvs_0] at c9
          omega
        obtain ⟨a, rfl⟩ : ∃ m, a = m + 1 := ⟨a - 1, by omega⟩
        have em := dvs_m (show a < 9 by omega)
        have hq : a ≤ 9 ∧ (a = 9 ∨ 9 < z.natAbs / dvs (a + 1)) := ⟨by omega, Or.inr (by omega)⟩
        have hb := (dvs_s (show a < 10 by omega)).2.2
        repeat' (first
          | (with_reducible refine ev_rid ?_; simp (disch := first | omega | assumption) only [ev_run_c, ev_run_n, ev_fj, ev_stp, ev_lk, ev_fv, ev_as, ev_sz, ev_st1, ev_st2, ev_rm, ev_pk, ev_Jof, ev_go, lv_args, List.map_cons, List.map_nil, List.zip_cons_cons, List.zip_nil_left, List.zip_nil_right, List.nil_append, List.cons_append, ↓reduceIte, reduceCtorEq, Int.reduceToNat, Nat.reduceEqDiff, Nat.reduceAdd, Nat.reduceLT, Nat.reduceLeDiff, Nat.reduceMul, Nat.reduceSub, Value.category, false_implies, true_and, and_true, Bool.false_eq_true, Option.some.injEq, exists_eq_left', Option.toList_some, Option.toList_none, ev_km, ev_k2, ev_k3, ev_k4, ev_k5, ev_l0, ev_l1, sh_1, sh_2, sh_3, sh_4, sh_5, at_X11_writesNumber_10, at_X11_writesNumber_17, at_X11_writesNumber_33, at_X11_writesNumber_58, ca_X11_385, ca_X11_448, cd_X11_writesNumber_0, cd_X11_writesNumber_10, cd_X11_writesNumber_17, cd_X11_writesNumber_33, cd_X11_writesNumber_58, ev_b_10, ev_b_45, ev_b_48, ev_b_9, no_0, no_1, no_lt, no_le, no_eq, no_lt0, no_ge0, no_gt0, no_le0, no_eq0, no_0eq, no_eqm, no_meq, no_m0, no_mlt, no_mge, no_mgt, no_mm, no_i01, no_i10, no_in, no_or, no_ifm, no_mul, nI_add, no_sub, pk_div, iI_if, nI_clamp, oI_n, oI_s, not_true_eq_false, not_false_eq_true, forall_const, true_implies, false_and, and_false, or_false, false_or, Classical.not_not, true_or, or_true, no_b, no_eq1, eq_self, and_self, sk_301, sk_302, sl_302, sp_301, em, c9])
          | (with_reducible refine ev_gid ?_; simp (disch := first | omega | assumption) only [ev_run_c, ev_run_n, ev_fj, ev_stp, ev_lk, ev_fv, ev_as, ev_sz, ev_st1, ev_st2, ev_rm, ev_pk, ev_Jof, ev_go, lv_args, List.map_cons, List.map_nil, List.zip_cons_cons, List.zip_nil_left, List.zip_nil_right, List.nil_append, List.cons_append, ↓reduceIte, reduceCtorEq, Int.reduceToNat, Nat.reduceEqDiff, Nat.reduceAdd, Nat.reduceLT, Nat.reduceLeDiff, Nat.reduceMul, Nat.reduceSub, Value.category, false_implies, true_and, and_true, Bool.false_eq_true, Option.some.injEq, exists_eq_left', Option.toList_some, Option.toList_none, ev_km, ev_k2, ev_k3, ev_k4, ev_k5, ev_l0, ev_l1, sh_1, sh_2, sh_3, sh_4, sh_5, at_X11_writesNumber_10, at_X11_writesNumber_17, at_X11_writesNumber_33, at_X11_writesNumber_58, ca_X11_385, ca_X11_448, cd_X11_writesNumber_0, cd_X11_writesNumber_10, cd_X11_writesNumber_17, cd_X11_writesNumber_33, cd_X11_writesNumber_58, ev_b_10, ev_b_45, ev_b_48, ev_b_9, no_0, no_1, no_lt, no_le, no_eq, no_lt0, no_ge0, no_gt0, no_le0, no_eq0, no_0eq, no_eqm, no_meq, no_m0, no_mlt, no_mge, no_mgt, no_mm, no_i01, no_i10, no_in, no_or, no_ifm, no_mul, nI_add, no_sub, pk_div, iI_if, nI_clamp, oI_n, oI_s, not_true_eq_false, not_false_eq_true, forall_const, true_implies, false_and, and_false, or_false, false_or, Classical.not_not, true_or, or_true, no_b, no_eq1, eq_self, and_self, sk_301, sk_302, sl_302, sp_301, em, c9])
          | (with_reducible refine And.intro (fun q => ?_) (fun q => ?_) <;> (try simp (disch := first | omega | assumption) only [no_0, no_1, no_lt, no_le, no_eq, no_lt0, no_ge0, no_gt0, no_le0, no_eq0, no_0eq, no_eqm, no_meq, no_m0, no_mlt, no_mge, no_mgt, no_mm, no_i01, no_i10, no_in, no_or, no_ifm, no_mul, nI_add, no_sub, pk_div, iI_if, nI_clamp, oI_n, oI_s, not_true_eq_false, not_false_eq_true, forall_const, true_implies, false_and, and_false, or_false, false_or, Classical.not_not, true_or, or_true, no_b, no_eq1, eq_self, and_self, sk_301, sk_302, sl_302, sp_301, em, c9] at q))
          | omega
          | with_reducible assumption
          | with_reducible rfl
          | refine lpG_nx a 0 0 ?_ ?_ ?_ ?_
          | exact hq
          | with_reducible refine lp_nx ?_ ?_ ?_ ?_
          | with_reducible refine lp_st ?_ ?_ ?_
          | with_reducible refine ls_c ?_ ?_
          | with_reducible refine vi_c ?_
          | with_reducible refine re_c ?_
          | with_reducible refine vz_c ?_
          | with_reducible refine rz_c ?_
          | exact trivial
          | with_reducible refine And.intro ?_ ?_
          | simp (disch := first | omega | assumption) only [ev_run_c, ev_run_n, ev_fj, ev_stp, ev_lk, ev_fv, ev_as, ev_sz, ev_st1, ev_st2, ev_rm, ev_pk, ev_Jof, ev_go, lv_args, List.map_cons, List.map_nil, List.zip_cons_cons, List.zip_nil_left, List.zip_nil_right, List.nil_append, List.cons_append, ↓reduceIte, reduceCtorEq, Int.reduceToNat, Nat.reduceEqDiff, Nat.reduceAdd, Nat.reduceLT, Nat.reduceLeDiff, Nat.reduceMul, Nat.reduceSub, Value.category, false_implies, true_and, and_true, Bool.false_eq_true, Option.some.injEq, exists_eq_left', Option.toList_some, Option.toList_none, ev_km, ev_k2, ev_k3, ev_k4, ev_k5, ev_l0, ev_l1, sh_1, sh_2, sh_3, sh_4, sh_5, at_X11_writesNumber_10, at_X11_writesNumber_17, at_X11_writesNumber_33, at_X11_writesNumber_58, ca_X11_385, ca_X11_448, cd_X11_writesNumber_0, cd_X11_writesNumber_10, cd_X11_writesNumber_17, cd_X11_writesNumber_33, cd_X11_writesNumber_58, ev_b_10, ev_b_45, ev_b_48, ev_b_9, no_0, no_1, no_lt, no_le, no_eq, no_lt0, no_ge0, no_gt0, no_le0, no_eq0, no_0eq, no_eqm, no_meq, no_m0, no_mlt, no_mge, no_mgt, no_mm, no_i01, no_i10, no_in, no_or, no_ifm, no_mul, nI_add, no_sub, pk_div, iI_if, nI_clamp, oI_n, oI_s, not_true_eq_false, not_false_eq_true, forall_const, true_implies, false_and, and_false, or_false, false_or, Classical.not_not, true_or, or_true, no_b, no_eq1, eq_self, and_self, sk_301, sk_302, sl_302, sp_301, em, c9]
          | exact rfl
          | (split <;> omega))
    · have hP : a ≤ 10 ∧ (a < 10 → goN z.natAbs a) := hP
      dsimp only
      rw [at_X11_writesNumber_33]
      have hd := dgt_le z.natAbs a
      have hlen := dL_len z.natAbs a
      have hlen2 : (l ++ (if z < 0 then [45] else []) ++ dL z.natAbs a).length < 200 := by rw [List.length_append]; omega
      rcases Nat.lt_or_ge a 10 with hkn | hkn
      · obtain ⟨e1, e2, e3⟩ := dvs_s hkn
        have ed : z.natAbs / dvs a - z.natAbs / dvs a / 10 * 10 = dgt z.natAbs a := rfl
        have eq1 : z.natAbs / dvs a ≤ z.natAbs := Nat.div_le_self _ _
        have g0 := hP.2 hkn
        have g1 := goN_s g0
        have hq : a + 1 ≤ 10 ∧ (a + 1 < 10 → goN z.natAbs (a + 1)) := ⟨by omega, fun _ => g1⟩
        obtain ⟨f1, f2⟩ := dL_1 g0
        have k1 := m_writesByte (μ := μ) (x := 48 + dgt z.natAbs a) hok hlen2 (by omega)
        have ea : l ++ (if z < 0 then [45] else []) ++ dL z.natAbs a ++ [48 + dgt z.natAbs a] = l ++ (if z < 0 then [45] else []) ++ dL z.natAbs (a + 1) := by rw [f2]; simp only [List.append_assoc]
        rw [ea] at k1
        repeat' (first
          | (with_reducible refine ev_rid ?_; simp (disch := first | omega | assumption) only [ev_run_c, ev_run_n, ev_fj, ev_stp, ev_lk, ev_fv, ev_as, ev_sz, ev_st1, ev_st2, ev_rm, ev_pk, ev_Jof, ev_go, lv_args, List.map_cons, List.map_nil, List.zip_cons_cons, List.zip_nil_left, List.zip_nil_right, List.nil_append, List.cons_append, ↓reduceIte, reduceCtorEq, Int.reduceToNat, Nat.reduceEqDiff, Nat.reduceAdd, Nat.reduceLT, Nat.reduceLeDiff, Nat.reduceMul, Nat.reduceSub, Value.category, false_implies, true_and, and_true, Bool.false_eq_true, Option.some.injEq, exists_eq_left', Option.toList_some, Option.toList_none, ev_km, ev_k2, ev_k3, ev_k4, ev_k5, ev_l0, ev_l1, sh_1, sh_2, sh_3, sh_4, sh_5, at_X11_writesNumber_10, at_X11_writesNumber_17, at_X11_writesNumber_33, at_X11_writesNumber_58, ca_X11_385, ca_X11_448, cd_X11_writesNumber_0, cd_X11_writesNumber_10, cd_X11_writesNumber_17, cd_X11_writesNumber_33, cd_X11_writesNumber_58, ev_b_10, ev_b_45, ev_b_48, ev_b_9, no_0, no_1, no_lt, no_le, no_eq, no_lt0, no_ge0, no_gt0, no_le0, no_eq0, no_0eq, no_eqm, no_meq, no_m0, no_mlt, no_mge, no_mgt, no_mm, no_i01, no_i10, no_in, no_or, no_ifm, no_mul, nI_add, no_sub, pk_div, iI_if, nI_clamp, oI_n, oI_s, not_true_eq_false, not_false_eq_true, forall_const, true_implies, false_and, and_false, or_false, false_or, Classical.not_not, true_or, or_true, no_b, no_eq1, eq_self, and_self, sk_301, sk_302, sl_302, sp_301, ed, e1])
          | (with_reducible refine ev_gid ?_; simp (disch := first | omega | assumption) only [ev_run_c, ev_run_n, ev_fj, ev_stp, ev_lk, ev_fv, ev_as, ev_sz, ev_st1, ev_st2, ev_rm, ev_pk, ev_Jof, ev_go, lv_args, List.map_cons, List.map_nil, List.zip_cons_cons, List.zip_nil_left, List.zip_nil_right, List.nil_append, List.cons_append, ↓reduceIte, reduceCtorEq, Int.reduceToNat, Nat.reduceEqDiff, Nat.reduceAdd, Nat.reduceLT, Nat.reduceLeDiff, Nat.reduceMul, Nat.reduceSub, Value.category, false_implies, true_and, and_true, Bool.false_eq_true, Option.some.injEq, exists_eq_left', Option.toList_some, Option.toList_none, ev_km, ev_k2, ev_k3, ev_k4, ev_k5, ev_l0, ev_l1, sh_1, sh_2, sh_3, sh_4, sh_5, at_X11_writesNumber_10, at_X11_writesNumber_17, at_X11_writesNumber_33, at_X11_writesNumber_58, ca_X11_385, ca_X11_448, cd_X11_writesNumber_0, cd_X11_writesNumber_10, cd_X11_writesNumber_17, cd_X11_writesNumber_33, cd_X11_writesNumber_58, ev_b_10, ev_b_45, ev_b_48, ev_b_9, no_0, no_1, no_lt, no_le, no_eq, no_lt0, no_ge0, no_gt0, no_le0, no_eq0, no_0eq, no_eqm, no_meq, no_m0, no_mlt, no_mge, no_mgt, no_mm, no_i01, no_i10, no_in, no_or, no_ifm, no_mul, nI_add, no_sub, pk_div, iI_if, nI_clamp, oI_n, oI_s, not_true_eq_false, not_false_eq_true, forall_const, true_implies, false_and, and_false, or_false, false_or, Classical.not_not, true_or, or_true, no_b, no_eq1, eq_self, and_self, sk_301, sk_302, sl_302, sp_301, ed, e1])
          | (with_reducible refine And.intro (fun q => ?_) (fun q => ?_) <;> (try simp (disch := first | omega | assumption) only [no_0, no_1, no_lt, no_le, no_eq, no_lt0, no_ge0, no_gt0, no_le0, no_eq0, no_0eq, no_eqm, no_meq, no_m0, no_mlt, no_mge, no_mgt, no_mm, no_i01, no_i10, no_in, no_or, no_ifm, no_mul, nI_add, no_sub, pk_div, iI_if, nI_clamp, oI_n, oI_s, not_true_eq_false, not_false_eq_true, forall_const, true_implies, false_and, and_false, or_false, false_or, Classical.not_not, true_or, or_true, no_b, no_eq1, eq_self, and_self, sk_301, sk_302, sl_302, sp_301, ed, e1] at q))
          | (with_reducible refine ev_ci k1 ?_)
          | omega
          | with_reducible assumption
          | with_reducible rfl
          | refine lpG_nx (a + 1) 0 0 ?_ ?_ ?_ ?_
          | exact hq
          | with_reducible refine lp_nx ?_ ?_ ?_ ?_
          | with_reducible refine lp_st ?_ ?_ ?_
          | with_reducible refine ls_c ?_ ?_
          | with_reducible refine vi_c ?_
          | with_reducible refine re_c ?_
          | with_reducible refine vz_c ?_
          | with_reducible refine rz_c ?_
          | exact trivial
          | with_reducible refine And.intro ?_ ?_
          | simp (disch := first | omega | assumption) only [ev_run_c, ev_run_n, ev_fj, ev_stp, ev_lk, ev_fv, ev_as, ev_sz, ev_st1, ev_st2, ev_rm, ev_pk, ev_Jof, ev_go, lv_args, List.map_cons, List.map_nil, List.zip_cons_cons, List.zip_nil_left, List.zip_nil_right, List.nil_append, List.cons_append, ↓reduceIte, reduceCtorEq, Int.reduceToNat, Nat.reduceEqDiff, Nat.reduceAdd, Nat.reduceLT, Nat.reduceLeDiff, Nat.reduceMul, Nat.reduceSub, Value.category, false_implies, true_and, and_true, Bool.false_eq_true, Option.some.injEq, exists_eq_left', Option.toList_some, Option.toList_none, ev_km, ev_k2, ev_k3, ev_k4, ev_k5, ev_l0, ev_l1, sh_1, sh_2, sh_3, sh_4, sh_5, at_X11_writesNumber_10, at_X11_writesNumber_17, at_X11_writesNumber_33, at_X11_writesNumber_58, ca_X11_385, ca_X11_448, cd_X11_writesNumber_0, cd_X11_writesNumber_10, cd_X11_writesNumber_17, cd_X11_writesNumber_33, cd_X11_writesNumber_58, ev_b_10, ev_b_45, ev_b_48, ev_b_9, no_0, no_1, no_lt, no_le, no_eq, no_lt0, no_ge0, no_gt0, no_le0, no_eq0, no_0eq, no_eqm, no_meq, no_m0, no_mlt, no_mge, no_mgt, no_mm, no_i01, no_i10, no_in, no_or, no_ifm, no_mul, nI_add, no_sub, pk_div, iI_if, nI_clamp, oI_n, oI_s, not_true_eq_false, not_false_eq_true, forall_const, true_implies, false_and, and_false, or_false, false_or, Classical.not_not, true_or, or_true, no_b, no_eq1, eq_self, and_self, sk_301, sk_302, sl_302, sp_301, ed, e1]
          | exact rfl
          | (split <;> omega))
      · have hkn : a = 10 := by omega
        subst hkn
        have e : l ++ dgZ z = l ++ (if z < 0 then [45] else []) ++ dL z.natAbs 10 := by unfold dgZ; rw [List.append_assoc]
        rw [e]
        repeat' (first
          | (with_reducible refine ev_rid ?_; simp (disch := first | omega | assumption) only [ev_run_c, ev_run_n, ev_fj, ev_stp, ev_lk, ev_fv, ev_as, ev_sz, ev_st1, ev_st2, ev_rm, ev_pk, ev_Jof, ev_go, lv_args, List.map_cons, List.map_nil, List.zip_cons_cons, List.zip_nil_left, List.zip_nil_right, List.nil_append, List.cons_append, ↓reduceIte, reduceCtorEq, Int.reduceToNat, Nat.reduceEqDiff, Nat.reduceAdd, Nat.reduceLT, Nat.reduceLeDiff, Nat.reduceMul, Nat.reduceSub, Value.category, false_implies, true_and, and_true, Bool.false_eq_true, Option.some.injEq, exists_eq_left', Option.toList_some, Option.toList_none, ev_km, ev_k2, ev_k3, ev_k4, ev_k5, ev_l0, ev_l1, sh_1, sh_2, sh_3, sh_4, sh_5, at_X11_writesNumber_10, at_X11_writesNumber_17, at_X11_writesNumber_33, at_X11_writesNumber_58, ca_X11_385, ca_X11_448, cd_X11_writesNumber_0, cd_X11_writesNumber_10, cd_X11_writesNumber_17, cd_X11_writesNumber_33, cd_X11_writesNumber_58, ev_b_10, ev_b_45, ev_b_48, ev_b_9, no_0, no_1, no_lt, no_le, no_eq, no_lt0, no_ge0, no_gt0, no_le0, no_eq0, no_0eq, no_eqm, no_meq, no_m0, no_mlt, no_mge, no_mgt, no_mm, no_i01, no_i10, no_in, no_or, no_ifm, no_mul, nI_add, no_sub, pk_div, iI_if, nI_clamp, oI_n, oI_s, not_true_eq_false, not_false_eq_true, forall_const, true_implies, false_and, and_false, or_false, false_or, Classical.not_not, true_or, or_true, no_b, no_eq1, eq_self, and_self, sk_301, sk_302, sl_302, sp_301, dvs_10])
          | (with_reducible refine ev_gid ?_; simp (disch := first | omega | assumption) only [ev_run_c, ev_run_n, ev_fj, ev_stp, ev_lk, ev_fv, ev_as, ev_sz, ev_st1, ev_st2, ev_rm, ev_pk, ev_Jof, ev_go, lv_args, List.map_cons, List.map_nil, List.zip_cons_cons, List.zip_nil_left, List.zip_nil_right, List.nil_append, List.cons_append, ↓reduceIte, reduceCtorEq, Int.reduceToNat, Nat.reduceEqDiff, Nat.reduceAdd, Nat.reduceLT, Nat.reduceLeDiff, Nat.reduceMul, Nat.reduceSub, Value.category, false_implies, true_and, and_true, Bool.false_eq_true, Option.some.injEq, exists_eq_left', Option.toList_some, Option.toList_none, ev_km, ev_k2, ev_k3, ev_k4, ev_k5, ev_l0, ev_l1, sh_1, sh_2, sh_3, sh_4, sh_5, at_X11_writesNumber_10, at_X11_writesNumber_17, at_X11_writesNumber_33, at_X11_writesNumber_58, ca_X11_385, ca_X11_448, cd_X11_writesNumber_0, cd_X11_writesNumber_10, cd_X11_writesNumber_17, cd_X11_writesNumber_33, cd_X11_writesNumber_58, ev_b_10, ev_b_45, ev_b_48, ev_b_9, no_0, no_1, no_lt, no_le, no_eq, no_lt0, no_ge0, no_gt0, no_le0, no_eq0, no_0eq, no_eqm, no_meq, no_m0, no_mlt, no_mge, no_mgt, no_mm, no_i01, no_i10, no_in, no_or, no_ifm, no_mul, nI_add, no_sub, pk_div, iI_if, nI_clamp, oI_n, oI_s, not_true_eq_false, not_false_eq_true, forall_const, true_implies, false_and, and_false, or_false, false_or, Classical.not_not, true_or, or_true, no_b, no_eq1, eq_self, and_self, sk_301, sk_302, sl_302, sp_301, dvs_10])
          | (with_reducible refine And.intro (fun q => ?_) (fun q => ?_) <;> (try simp (disch := first | omega | assumption) only [no_0, no_1, no_lt, no_le, no_eq, no_lt0, no_ge0, no_gt0, no_le0, no_eq0, no_0eq, no_eqm, no_meq, no_m0, no_mlt, no_mge, no_mgt, no_mm, no_i01, no_i10, no_in, no_or, no_ifm, no_mul, nI_add, no_sub, pk_div, iI_if, nI_clamp, oI_n, oI_s, not_true_eq_false, not_false_eq_true, forall_const, true_implies, false_and, and_false, or_false, false_or, Classical.not_not, true_or, or_true, no_b, no_eq1, eq_self, and_self, sk_301, sk_302, sl_302, sp_301, dvs_10] at q))
          | omega
          | with_reducible assumption
          | with_reducible rfl
          | with_reducible refine lp_nx ?_ ?_ ?_ ?_
          | with_reducible refine lp_st ?_ ?_ ?_
          | with_reducible refine ls_c ?_ ?_
          | with_reducible refine vi_c ?_
          | with_reducible refine re_c ?_
          | with_reducible refine vz_c ?_
          | with_reducible refine rz_c ?_
          | exact trivial
          | with_reducible refine And.intro ?_ ?_
          | simp (disch := first | omega | assumption) only [ev_run_c, ev_run_n, ev_fj, ev_stp, ev_lk, ev_fv, ev_as, ev_sz, ev_st1, ev_st2, ev_rm, ev_pk, ev_Jof, ev_go, lv_args, List.map_cons, List.map_nil, List.zip_cons_cons, List.zip_nil_left, List.zip_nil_right, List.nil_append, List.cons_append, ↓reduceIte, reduceCtorEq, Int.reduceToNat, Nat.reduceEqDiff, Nat.reduceAdd, Nat.reduceLT, Nat.reduceLeDiff, Nat.reduceMul, Nat.reduceSub, Value.category, false_implies, true_and, and_true, Bool.false_eq_true, Option.some.injEq, exists_eq_left', Option.toList_some, Option.toList_none, ev_km, ev_k2, ev_k3, ev_k4, ev_k5, ev_l0, ev_l1, sh_1, sh_2, sh_3, sh_4, sh_5, at_X11_writesNumber_10, at_X11_writesNumber_17, at_X11_writesNumber_33, at_X11_writesNumber_58, ca_X11_385, ca_X11_448, cd_X11_writesNumber_0, cd_X11_writesNumber_10, cd_X11_writesNumber_17, cd_X11_writesNumber_33, cd_X11_writesNumber_58, ev_b_10, ev_b_45, ev_b_48, ev_b_9, no_0, no_1, no_lt, no_le, no_eq, no_lt0, no_ge0, no_gt0, no_le0, no_eq0, no_0eq, no_eqm, no_meq, no_m0, no_mlt, no_mge, no_mgt, no_mm, no_i01, no_i10, no_in, no_or, no_ifm, no_mul, nI_add, no_sub, pk_div, iI_if, nI_clamp, oI_n, oI_s, not_true_eq_false, not_false_eq_true, forall_const, true_implies, false_and, and_false, or_false, false_or, Classical.not_not, true_or, or_true, no_b, no_eq1, eq_self, and_self, sk_301, sk_302, sl_302, sp_301, dvs_10]
          | exact rfl
          | (split <;> omega))
  · rw [at_X11_writesNumber_0]
    have hq : 9 ≤ 9 ∧ (9 = 9 ∨ 9 < z.natAbs / dvs (9 + 1)) := ⟨Nat.le_refl _, Or.inl rfl⟩
    have d9 : dvs 9 = 1 := rfl
    by_cases c : z < 0
    · have e : iI (-z) = nI z.natAbs := by rw [← iI_n]; exact congrArg iI (by omega)
      rw [if_pos c]
      have k1 := m_writesByte (μ := μ) (l := l) (x := 45) hok (by omega) (by omega)
      repeat' (first
        | (with_reducible refine ev_rid ?_; simp (disch := first | omega | assumption) only [ev_run_c, ev_run_n, ev_fj, ev_stp, ev_lk, ev_fv, ev_as, ev_sz, ev_st1, ev_st2, ev_rm, ev_pk, ev_Jof, ev_go, lv_args, List.map_cons, List.map_nil, List.zip_cons_cons, List.zip_nil_left, List.zip_nil_right, List.nil_append, List.cons_append, ↓reduceIte, reduceCtorEq, Int.reduceToNat, Nat.reduceEqDiff, Nat.reduceAdd, Nat.reduceLT, Nat.reduceLeDiff, Nat.reduceMul, Nat.reduceSub, Value.category, false_implies, true_and, and_true, Bool.false_eq_true, Option.some.injEq, exists_eq_left', Option.toList_some, Option.toList_none, ev_km, ev_k2, ev_k3, ev_k4, ev_k5, ev_l0, ev_l1, sh_1, sh_2, sh_3, sh_4, sh_5, at_X11_writesNumber_10, at_X11_writesNumber_17, at_X11_writesNumber_33, at_X11_writesNumber_58, ca_X11_385, ca_X11_448, cd_X11_writesNumber_0, cd_X11_writesNumber_10, cd_X11_writesNumber_17, cd_X11_writesNumber_33, cd_X11_writesNumber_58, ev_b_10, ev_b_45, ev_b_48, ev_b_9, no_0, no_1, no_lt, no_le, no_eq, no_lt0, no_ge0, no_gt0, no_le0, no_eq0, no_0eq, no_eqm, no_meq, no_m0, no_mlt, no_mge, no_mgt, no_mm, no_i01, no_i10, no_in, no_or, no_ifm, no_mul, nI_add, no_sub, pk_div, iI_if, nI_clamp, oI_n, oI_s, not_true_eq_false, not_false_eq_true, forall_const, true_implies, false_and, and_false, or_false, false_or, Classical.not_not, true_or, or_true, no_b, no_eq1, eq_self, and_self, sk_301, sk_302, sl_302, sp_301, iI_ge0, iI_0s, e, d9])
        | (with_reducible refine ev_gid ?_; simp (disch := first | omega | assumption) only [ev_run_c, ev_run_n, ev_fj, ev_stp, ev_lk, ev_fv, ev_as, ev_sz, ev_st1, ev_st2, ev_rm, ev_pk, ev_Jof, ev_go, lv_args, List.map_cons, List.map_nil, List.zip_cons_cons, List.zip_nil_left, List.zip_nil_right, List.nil_append, List.cons_append, ↓reduceIte, reduceCtorEq, Int.reduceToNat, Nat.reduceEqDiff, Nat.reduceAdd, Nat.reduceLT, Nat.reduceLeDiff, Nat.reduceMul, Nat.reduceSub, Value.category, false_implies, true_and, and_true, Bool.false_eq_true, Option.some.injEq, exists_eq_left', Option.toList_some, Option.toList_none, ev_km, ev_k2, ev_k3, ev_k4, ev_k5, ev_l0, ev_l1, sh_1, sh_2, sh_3, sh_4, sh_5, at_X11_writesNumber_10, at_X11_writesNumber_17, at_X11_writesNumber_33, at_X11_writesNumber_58, ca_X11_385, ca_X11_448, cd_X11_writesNumber_0, cd_X11_writesNumber_10, cd_X11_writesNumber_17, cd_X11_writesNumber_33, cd_X11_writesNumber_58, ev_b_10, ev_b_45, ev_b_48, ev_b_9, no_0, no_1, no_lt, no_le, no_eq, no_lt0, no_ge0, no_gt0, no_le0, no_eq0, no_0eq, no_eqm, no_meq, no_m0, no_mlt, no_mge, no_mgt, no_mm, no_i01, no_i10, no_in, no_or, no_ifm, no_mul, nI_add, no_sub, pk_div, iI_if, nI_clamp, oI_n, oI_s, not_true_eq_false, not_false_eq_true, forall_const, true_implies, false_and, and_false, or_false, false_or, Classical.not_not, true_or, or_true, no_b, no_eq1, eq_self, and_self, sk_301, sk_302, sl_302, sp_301, iI_ge0, iI_0s, e, d9])
        | (with_reducible refine And.intro (fun q => ?_) (fun q => ?_) <;> (try simp (disch := first | omega | assumption) only [no_0, no_1, no_lt, no_le, no_eq, no_lt0, no_ge0, no_gt0, no_le0, no_eq0, no_0eq, no_eqm, no_meq, no_m0, no_mlt, no_mge, no_mgt, no_mm, no_i01, no_i10, no_in, no_or, no_ifm, no_mul, nI_add, no_sub, pk_div, iI_if, nI_clamp, oI_n, oI_s, not_true_eq_false, not_false_eq_true, forall_const, true_implies, false_and, and_false, or_false, false_or, Classical.not_not, true_or, or_true, no_b, no_eq1, eq_self, and_self, sk_301, sk_302, sl_302, sp_301, iI_ge0, iI_0s, e, d9] at q))
        | (with_reducible refine ev_ci k1 ?_)
        | omega
        | with_reducible assumption
        | with_reducible rfl
        | (rw [if_neg (show ¬ 0 ≤ z by omega)])
        | refine lpG_st 9 0 0 ?_ ?_ ?_
        | exact hq
        | with_reducible refine lp_nx ?_ ?_ ?_ ?_
        | with_reducible refine lp_st ?_ ?_ ?_
        | with_reducible refine ls_c ?_ ?_
        | with_reducible refine vi_c ?_
        | with_reducible refine re_c ?_
        | with_reducible refine vz_c ?_
        | with_reducible refine rz_c ?_
        | exact trivial
        | with_reducible refine And.intro ?_ ?_
        | simp (disch := first | omega | assumption) only [ev_run_c, ev_run_n, ev_fj, ev_stp, ev_lk, ev_fv, ev_as, ev_sz, ev_st1, ev_st2, ev_rm, ev_pk, ev_Jof, ev_go, lv_args, List.map_cons, List.map_nil, List.zip_cons_cons, List.zip_nil_left, List.zip_nil_right, List.nil_append, List.cons_append, ↓reduceIte, reduceCtorEq, Int.reduceToNat, Nat.reduceEqDiff, Nat.reduceAdd, Nat.reduceLT, Nat.reduceLeDiff, Nat.reduceMul, Nat.reduceSub, Value.category, false_implies, true_and, and_true, Bool.false_eq_true, Option.some.injEq, exists_eq_left', Option.toList_some, Option.toList_none, ev_km, ev_k2, ev_k3, ev_k4, ev_k5, ev_l0, ev_l1, sh_1, sh_2, sh_3, sh_4, sh_5, at_X11_writesNumber_10, at_X11_writesNumber_17, at_X11_writesNumber_33, at_X11_writesNumber_58, ca_X11_385, ca_X11_448, cd_X11_writesNumber_0, cd_X11_writesNumber_10, cd_X11_writesNumber_17, cd_X11_writesNumber_33, cd_X11_writesNumber_58, ev_b_10, ev_b_45, ev_b_48, ev_b_9, no_0, no_1, no_lt, no_le, no_eq, no_lt0, no_ge0, no_gt0, no_le0, no_eq0, no_0eq, no_eqm, no_meq, no_m0, no_mlt, no_mge, no_mgt, no_mm, no_i01, no_i10, no_in, no_or, no_ifm, no_mul, nI_add, no_sub, pk_div, iI_if, nI_clamp, oI_n, oI_s, not_true_eq_false, not_false_eq_true, forall_const, true_implies, false_and, and_false, or_false, false_or, Classical.not_not, true_or, or_true, no_b, no_eq1, eq_self, and_self, sk_301, sk_302, sl_302, sp_301, iI_ge0, iI_0s, e, d9]
        | exact rfl
        | (split <;> omega))
    · have e : iI z = nI z.natAbs := by rw [← iI_n]; exact congrArg iI (by omega)
      rw [if_neg c, List.append_nil]
      repeat' (first
        | (with_reducible refine ev_rid ?_; simp (disch := first | omega | assumption) only [ev_run_c, ev_run_n, ev_fj, ev_stp, ev_lk, ev_fv, ev_as, ev_sz, ev_st1, ev_st2, ev_rm, ev_pk, ev_Jof, ev_go, lv_args, List.map_cons, List.map_nil, List.zip_cons_cons, List.zip_nil_left, List.zip_nil_right, List.nil_append, List.cons_append, ↓reduceIte, reduceCtorEq, Int.reduceToNat, Nat.reduceEqDiff, Nat.reduceAdd, Nat.reduceLT, Nat.reduceLeDiff, Nat.reduceMul, Nat.reduceSub, Value.category, false_implies, true_and, and_true, Bool.false_eq_true, Option.some.injEq, exists_eq_left', Option.toList_some, Option.toList_none, ev_km, ev_k2, ev_k3, ev_k4, ev_k5, ev_l0, ev_l1, sh_1, sh_2, sh_3, sh_4, sh_5, at_X11_writesNumber_10, at_X11_writesNumber_17, at_X11_writesNumber_33, at_X11_writesNumber_58, ca_X11_385, ca_X11_448, cd_X11_writesNumber_0, cd_X11_writesNumber_10, cd_X11_writesNumber_17, cd_X11_writesNumber_33, cd_X11_writesNumber_58, ev_b_10, ev_b_45, ev_b_48, ev_b_9, no_0, no_1, no_lt, no_le, no_eq, no_lt0, no_ge0, no_gt0, no_le0, no_eq0, no_0eq, no_eqm, no_meq, no_m0, no_mlt, no_mge, no_mgt, no_mm, no_i01, no_i10, no_in, no_or, no_ifm, no_mul, nI_add, no_sub, pk_div, iI_if, nI_clamp, oI_n, oI_s, not_true_eq_false, not_false_eq_true, forall_const, true_implies, false_and, and_false, or_false, false_or, Classical.not_not, true_or, or_true, no_b, no_eq1, eq_self, and_self, sk_301, sk_302, sl_302, sp_301, iI_ge0, iI_0s, e, d9])
        | (with_reducible refine ev_gid ?_; simp (disch := first | omega | assumption) only [ev_run_c, ev_run_n, ev_fj, ev_stp, ev_lk, ev_fv, ev_as, ev_sz, ev_st1, ev_st2, ev_rm, ev_pk, ev_Jof, ev_go, lv_args, List.map_cons, List.map_nil, List.zip_cons_cons, List.zip_nil_left, List.zip_nil_right, List.nil_append, List.cons_append, ↓reduceIte, reduceCtorEq, Int.reduceToNat, Nat.reduceEqDiff, Nat.reduceAdd, Nat.reduceLT, Nat.reduceLeDiff, Nat.reduceMul, Nat.reduceSub, Value.category, false_implies, true_and, and_true, Bool.false_eq_true, Option.some.injEq, exists_eq_left', Option.toList_some, Option.toList_none, ev_km, ev_k2, ev_k3, ev_k4, ev_k5, ev_l0, ev_l1, sh_1, sh_2, sh_3, sh_4, sh_5, at_X11_writesNumber_10, at_X11_writesNumber_17, at_X11_writesNumber_33, at_X11_writesNumber_58, ca_X11_385, ca_X11_448, cd_X11_writesNumber_0, cd_X11_writesNumber_10, cd_X11_writesNumber_17, cd_X11_writesNumber_33, cd_X11_writesNumber_58, ev_b_10, ev_b_45, ev_b_48, ev_b_9, no_0, no_1, no_lt, no_le, no_eq, no_lt0, no_ge0, no_gt0, no_le0, no_eq0, no_0eq, no_eqm, no_meq, no_m0, no_mlt, no_mge, no_mgt, no_mm, no_i01, no_i10, no_in, no_or, no_ifm, no_mul, nI_add, no_sub, pk_div, iI_if, nI_clamp, oI_n, oI_s, not_true_eq_false, not_false_eq_true, forall_const, true_implies, false_and, and_false, or_false, false_or, Classical.not_not, true_or, or_true, no_b, no_eq1, eq_self, and_self, sk_301, sk_302, sl_302, sp_301, iI_ge0, iI_0s, e, d9])
        | (with_reducible refine And.intro (fun q => ?_) (fun q => ?_) <;> (try simp (disch := first | omega | assumption) only [no_0, no_1, no_lt, no_le, no_eq, no_lt0, no_ge0, no_gt0, no_le0, no_eq0, no_0eq, no_eqm, no_meq, no_m0, no_mlt, no_mge, no_mgt, no_mm, no_i01, no_i10, no_in, no_or, no_ifm, no_mul, nI_add, no_sub, pk_div, iI_if, nI_clamp, oI_n, oI_s, not_true_eq_false, not_false_eq_true, forall_const, true_implies, false_and, and_false, or_false, false_or, Classical.not_not, true_or, or_true, no_b, no_eq1, eq_self, and_self, sk_301, sk_302, sl_302, sp_301, iI_ge0, iI_0s, e, d9] at q))
        | omega
        | with_reducible assumption
        | with_reducible rfl
        | refine lpG_st 9 0 0 ?_ ?_ ?_
        | exact hq
        | with_reducible refine lp_nx ?_ ?_ ?_ ?_
        | with_reducible refine lp_st ?_ ?_ ?_
        | with_reducible refine ls_c ?_ ?_
        | with_reducible refine vi_c ?_
        | with_reducible refine re_c ?_
        | with_reducible refine vz_c ?_
        | with_reducible refine rz_c ?_
        | exact trivial
        | with_reducible refine And.intro ?_ ?_
        | simp (disch := first | omega | assumption) only [ev_run_c, ev_run_n, ev_fj, ev_stp, ev_lk, ev_fv, ev_as, ev_sz, ev_st1, ev_st2, ev_rm, ev_pk, ev_Jof, ev_go, lv_args, List.map_cons, List.map_nil, List.zip_cons_cons, List.zip_nil_left, List.zip_nil_right, List.nil_append, List.cons_append, ↓reduceIte, reduceCtorEq, Int.reduceToNat, Nat.reduceEqDiff, Nat.reduceAdd, Nat.reduceLT, Nat.reduceLeDiff, Nat.reduceMul, Nat.reduceSub, Value.category, false_implies, true_and, and_true, Bool.false_eq_true, Option.some.injEq, exists_eq_left', Option.toList_some, Option.toList_none, ev_km, ev_k2, ev_k3, ev_k4, ev_k5, ev_l0, ev_l1, sh_1, sh_2, sh_3, sh_4, sh_5, at_X11_writesNumber_10, at_X11_writesNumber_17, at_X11_writesNumber_33, at_X11_writesNumber_58, ca_X11_385, ca_X11_448, cd_X11_writesNumber_0, cd_X11_writesNumber_10, cd_X11_writesNumber_17, cd_X11_writesNumber_33, cd_X11_writesNumber_58, ev_b_10, ev_b_45, ev_b_48, ev_b_9, no_0, no_1, no_lt, no_le, no_eq, no_lt0, no_ge0, no_gt0, no_le0, no_eq0, no_0eq, no_eqm, no_meq, no_m0, no_mlt, no_mge, no_mgt, no_mm, no_i01, no_i10, no_in, no_or, no_ifm, no_mul, nI_add, no_sub, pk_div, iI_if, nI_clamp, oI_n, oI_s, not_true_eq_false, not_false_eq_true, forall_const, true_implies, false_and, and_false, or_false, false_or, Classical.not_not, true_or, or_true, no_b, no_eq1, eq_self, and_self, sk_301, sk_302, sl_302, sp_301, iI_ge0, iI_0s, e, d9]
        | exact rfl
        | (split <;> omega))
end MPage
