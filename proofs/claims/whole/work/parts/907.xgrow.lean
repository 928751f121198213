/-! ===== the class: a person more, a pancake more, a cook more ===== -/
section XGrow
variable {G : ev_G} {N : Nat → Nat} {μ μ' : ev_M} {p : Nat}
/-- one person more -/
def apN (N : Nat → Nat) (len : Nat) (f : Nat → Nat) (k : Nat) : Nat → Nat := fun x => if x = 0 then N 0 + 1 else if x = 8 + 59 * N 0 + 0 then k else if x = 8 + 59 * N 0 + 6 then len else if 8 + 59 * N 0 + 7 ≤ x ∧ x < 8 + 59 * N 0 + 7 + len then f (x - (8 + 59 * N 0 + 7)) else N x
theorem apN_ne {len k x : Nat} {f : Nat → Nat} (h : x ≠ 0) (h2 : x < 8 + 59 * N 0 ∨ 8 + 59 * N 0 + 7 + len ≤ x ∨ (8 + 59 * N 0 + 1 ≤ x ∧ x < 8 + 59 * N 0 + 6)) : apN N len f k x = N x := by
  unfold apN
  rw [if_neg h, if_neg (by omega), if_neg (by omega), if_neg (by omega)]
theorem apN_0 {len k : Nat} {f : Nat → Nat} : apN N len f k 0 = N 0 + 1 := if_pos rfl
theorem apN_k {len k : Nat} {f : Nat → Nat} : apN N len f k (8 + 59 * N 0 + 0) = k := by unfold apN; rw [if_neg (by omega), if_pos rfl]
theorem apN_6 {len k : Nat} {f : Nat → Nat} : apN N len f k (8 + 59 * N 0 + 6) = len := by unfold apN; rw [if_neg (by omega), if_neg (by omega), if_pos rfl]
theorem apN_l {len k j : Nat} {f : Nat → Nat} (h : j < len) : apN N len f k (8 + 59 * N 0 + (7 + j)) = f j := by
  unfold apN
  rw [if_neg (by omega), if_neg (by omega), if_neg (by omega), if_pos (by omega)]
  exact congrArg f (by omega)
def x_ap (p n : Nat) (v : Int64) (k : Nat) (μ : ev_M) : ev_M := w1 (w1 (wl μ (p + 1) n v) (p + 2) n (nI k)) p 3 (nI (n + 1))
theorem m_X4_addPerson (hok : ev_ok sh_S G) (hp : p ∈ sh_B) (hP : PR p N μ) (h0 : N 0 < 16) (v : Int64) (k : Nat) : ev_T sh_S G mi_X4_addPerson [.ref p, .long v, .int (nI k)] μ (.inl (none, x_ap p (N 0) v k μ)) := by
  have hlt := xp_lt hp
  have hH := pr_h hP
  have e1 : (w1 (wl μ (p + 1) (N 0) v) (p + 2) (N 0) (nI k)).1 p 3 = nI (N 0) := by rw [w1_n (by omega), wl_1]; exact hH.2.2.1
  unfold x_ap
  refine ev_tri hok okM_X4_addPerson (Nat.le_of_ble_eq_true rfl) 400 ?_
  rw [at_X4_addPerson_0]
  repeat' (first
    | (with_reducible refine ev_rid ?_; simp (disch := first | omega | assumption) only [ev_run_c, ev_run_n, ev_fj, ev_stp, ev_lk, ev_fv, ev_as, ev_sz, ev_st1, ev_st2, ev_rm, ev_pk, ev_Jof, ev_go, lv_args, List.map_cons, List.map_nil, List.zip_cons_cons, List.zip_nil_left, List.zip_nil_right, List.nil_append, List.cons_append, ↓reduceIte, reduceCtorEq, Int.reduceToNat, Nat.reduceEqDiff, Nat.reduceAdd, Nat.reduceLT, Nat.reduceLeDiff, Nat.reduceMul, Nat.reduceSub, Value.category, false_implies, true_and, and_true, Bool.false_eq_true, Option.some.injEq, exists_eq_left', Option.toList_some, Option.toList_none, ev_km, ev_k2, ev_k3, ev_k4, ev_k5, ev_l0, ev_l1, sh_1, sh_2, sh_3, sh_4, sh_5, at_X4_addPerson_51, ca_X4_127, cd_X4_addPerson_0, cd_X4_addPerson_51, fl_X4_15, fl_X4_71, fl_X4_9, no_0, no_1, no_lt, no_le, no_eq, no_lt0, no_ge0, no_gt0, no_le0, no_eq0, no_0eq, no_eqm, no_meq, no_m0, no_mlt, no_mge, no_mgt, no_mm, no_i01, no_i10, no_in, no_or, no_ifm, no_mul, nI_add, no_sub, pk_div, iI_if, nI_clamp, oI_n, oI_s, not_true_eq_false, not_false_eq_true, forall_const, true_implies, false_and, and_false, or_false, false_or, Classical.not_not, true_or, or_true, no_b, no_eq1, eq_self, and_self, xk_0 hp, xk_1 hp, xk_2 hp, xk_3 hp, xk_4 hp, xk_5 hp, xk_6 hp, xk_7 hp, xk_8 hp, xk_9 hp, xk_10 hp, xk_11 hp, xk_12 hp, xk_13 hp, xk_14 hp, xk_15 hp, xk_16 hp, xk_17 hp, xk_18 hp, xk_19 hp, xk_20 hp, xk_21 hp, xl_1 hp, xl_2 hp, xl_3 hp, xl_4 hp, xl_6 hp, xl_8 hp, xl_10 hp, xl_12 hp, xl_14 hp, xl_15 hp, xl_17 hp, xl_18 hp, xl_21 hp, xp_7 hp, xp_8 hp, xp_9 hp, xp_10 hp, xp_11 hp, xp_12 hp, xp_13 hp, xp_14 hp, xp_15 hp, xp_16 hp, xp_17 hp, xp_t5 hp, xp_t7 hp, xp_t9 hp, xp_t11 hp, xp_t20 hp, xp_s19 hp, xp_a13 hp, xp_b13 hp, xp_a16 hp, xp_b16 hp, xc_r5 hp, xc_c5 hp, xc_r7 hp, xc_c7 hp, xc_r9 hp, xc_c9 hp, xc_r11 hp, xc_c11 hp, xc_r20 hp, xc_c20 hp, no_on, hH, w1_d, wl_d, wl_1, e1])
    | (with_reducible refine ev_gid ?_; simp (disch := first | omega | assumption) only [ev_run_c, ev_run_n, ev_fj, ev_stp, ev_lk, ev_fv, ev_as, ev_sz, ev_st1, ev_st2, ev_rm, ev_pk, ev_Jof, ev_go, lv_args, List.map_cons, List.map_nil, List.zip_cons_cons, List.zip_nil_left, List.zip_nil_right, List.nil_append, List.cons_append, ↓reduceIte, reduceCtorEq, Int.reduceToNat, Nat.reduceEqDiff, Nat.reduceAdd, Nat.reduceLT, Nat.reduceLeDiff, Nat.reduceMul, Nat.reduceSub, Value.category, false_implies, true_and, and_true, Bool.false_eq_true, Option.some.injEq, exists_eq_left', Option.toList_some, Option.toList_none, ev_km, ev_k2, ev_k3, ev_k4, ev_k5, ev_l0, ev_l1, sh_1, sh_2, sh_3, sh_4, sh_5, at_X4_addPerson_51, ca_X4_127, cd_X4_addPerson_0, cd_X4_addPerson_51, fl_X4_15, fl_X4_71, fl_X4_9, no_0, no_1, no_lt, no_le, no_eq, no_lt0, no_ge0, no_gt0, no_le0, no_eq0, no_0eq, no_eqm, no_meq, no_m0, no_mlt, no_mge, no_mgt, no_mm, no_i01, no_i10, no_in, no_or, no_ifm, no_mul, nI_add, no_sub, pk_div, iI_if, nI_clamp, oI_n, oI_s, not_true_eq_false, not_false_eq_true, forall_const, true_implies, false_and, and_false, or_false, false_or, Classical.not_not, true_or, or_true, no_b, no_eq1, eq_self, and_self, xk_0 hp, xk_1 hp, xk_2 hp, xk_3 hp, xk_4 hp, xk_5 hp, xk_6 hp, xk_7 hp, xk_8 hp, xk_9 hp, xk_10 hp, xk_11 hp, xk_12 hp, xk_13 hp, xk_14 hp, xk_15 hp, xk_16 hp, xk_17 hp, xk_18 hp, xk_19 hp, xk_20 hp, xk_21 hp, xl_1 hp, xl_2 hp, xl_3 hp, xl_4 hp, xl_6 hp, xl_8 hp, xl_10 hp, xl_12 hp, xl_14 hp, xl_15 hp, xl_17 hp, xl_18 hp, xl_21 hp, xp_7 hp, xp_8 hp, xp_9 hp, xp_10 hp, xp_11 hp, xp_12 hp, xp_13 hp, xp_14 hp, xp_15 hp, xp_16 hp, xp_17 hp, xp_t5 hp, xp_t7 hp, xp_t9 hp, xp_t11 hp, xp_t20 hp, xp_s19 hp, xp_a13 hp, xp_b13 hp, xp_a16 hp, xp_b16 hp, xc_r5 hp, xc_c5 hp, xc_r7 hp, xc_c7 hp, xc_r9 hp, xc_c9 hp, xc_r11 hp, xc_c11 hp, xc_r20 hp, xc_c20 hp, no_on, hH, w1_d, wl_d, wl_1, e1])
    | (with_reducible refine And.intro (fun q => ?_) (fun q => ?_) <;> (try simp (disch := first | omega | assumption) only [no_0, no_1, no_lt, no_le, no_eq, no_lt0, no_ge0, no_gt0, no_le0, no_eq0, no_0eq, no_eqm, no_meq, no_m0, no_mlt, no_mge, no_mgt, no_mm, no_i01, no_i10, no_in, no_or, no_ifm, no_mul, nI_add, no_sub, pk_div, iI_if, nI_clamp, oI_n, oI_s, not_true_eq_false, not_false_eq_true, forall_const, true_implies, false_and, and_false, or_false, false_or, Classical.not_not, true_or, or_true, no_b, no_eq1, eq_self, and_self, xk_0 hp, xk_1 hp, xk_2 hp, xk_3 hp, xk_4 hp, xk_5 hp, xk_6 hp, xk_7 hp, xk_8 hp, xk_9 hp, xk_10 hp, xk_11 hp, xk_12 hp, xk_13 hp, xk_14 hp, xk_15 hp, xk_16 hp, xk_17 hp, xk_18 hp, xk_19 hp, xk_20 hp, xk_21 hp, xl_1 hp, xl_2 hp, xl_3 hp, xl_4 hp, xl_6 hp, xl_8 hp, xl_10 hp, xl_12 hp, xl_14 hp, xl_15 hp, xl_17 hp, xl_18 hp, xl_21 hp, xp_7 hp, xp_8 hp, xp_9 hp, xp_10 hp, xp_11 hp, xp_12 hp, xp_13 hp, xp_14 hp, xp_15 hp, xp_16 hp, xp_17 hp, xp_t5 hp, xp_t7 hp, xp_t9 hp, xp_t11 hp, xp_t20 hp, xp_s19 hp, xp_a13 hp, xp_b13 hp, xp_a16 hp, xp_b16 hp, xc_r5 hp, xc_c5 hp, xc_r7 hp, xc_c7 hp, xc_r9 hp, xc_c9 hp, xc_r11 hp, xc_c11 hp, xc_r20 hp, xc_c20 hp, no_on, hH, w1_d, wl_d, wl_1, e1] at q))
    | with_reducible refine ev_ci (m_X10_setCell hok ?_ ?_ ?_ ?_ _) ?_
    | omega
    | with_reducible assumption
    | with_reducible rfl
    | (refine Nat.lt_of_lt_of_le ?_ (Nat.le_refl 312); omega)
    | with_reducible refine lp_nx ?_ ?_ ?_ ?_
    | with_reducible refine lp_st ?_ ?_ ?_
    | with_reducible refine ls_c ?_ ?_
    | with_reducible refine vi_c ?_
    | with_reducible refine re_c ?_
    | with_reducible refine vz_c ?_
    | with_reducible refine rz_c ?_
    | exact trivial
    | with_reducible refine And.intro ?_ ?_
    | simp (disch := first | omega | assumption) only [ev_run_c, ev_run_n, ev_fj, ev_stp, ev_lk, ev_fv, ev_as, ev_sz, ev_st1, ev_st2, ev_rm, ev_pk, ev_Jof, ev_go, lv_args, List.map_cons, List.map_nil, List.zip_cons_cons, List.zip_nil_left, List.zip_nil_right, List.nil_append, List.cons_append, ↓reduceIte, reduceCtorEq, Int.reduceToNat, Nat.reduceEqDiff, Nat.reduceAdd, Nat.reduceLT, Nat.reduceLeDiff, Nat.reduceMul, Nat.reduceSub, Value.category, false_implies, true_and, and_true, Bool.false_eq_true, Option.some.injEq, exists_eq_left', Option.toList_some, Option.toList_none, ev_km, ev_k2, ev_k3, ev_k4, ev_k5, ev_l0, ev_l1, sh_1, sh_2, sh_3, sh_4, sh_5, at_X4_addPerson_51, ca_X4_127, cd_X4_addPerson_0, cd_X4_addPerson_51, fl_X4_15, fl_X4_71, fl_X4_9, no_0, no_1, no_lt, no_le, no_eq, no_lt0, no_ge0, no_gt0, no_le0, no_eq0, no_0eq, no_eqm, no_meq, no_m0, no_mlt, no_mge, no_mgt, no_mm, no_i01, no_i10, no_in, no_or, no_ifm, no_mul, nI_add, no_sub, pk_div, iI_if, nI_clamp, oI_n, oI_s, not_true_eq_false, not_false_eq_true, forall_const, true_implies, false_and, and_false, or_false, false_or, Classical.not_not, true_or, or_true, no_b, no_eq1, eq_self, and_self, xk_0 hp, xk_1 hp, xk_2 hp, xk_3 hp, xk_4 hp, xk_5 hp, xk_6 hp, xk_7 hp, xk_8 hp, xk_9 hp, xk_10 hp, xk_11 hp, xk_12 hp, xk_13 hp, xk_14 hp, xk_15 hp, xk_16 hp, xk_17 hp, xk_18 hp, xk_19 hp, xk_20 hp, xk_21 hp, xl_1 hp, xl_2 hp, xl_3 hp, xl_4 hp, xl_6 hp, xl_8 hp, xl_10 hp, xl_12 hp, xl_14 hp, xl_15 hp, xl_17 hp, xl_18 hp, xl_21 hp, xp_7 hp, xp_8 hp, xp_9 hp, xp_10 hp, xp_11 hp, xp_12 hp, xp_13 hp, xp_14 hp, xp_15 hp, xp_16 hp, xp_17 hp, xp_t5 hp, xp_t7 hp, xp_t9 hp, xp_t11 hp, xp_t20 hp, xp_s19 hp, xp_a13 hp, xp_b13 hp, xp_a16 hp, xp_b16 hp, xc_r5 hp, xc_c5 hp, xc_r7 hp, xc_c7 hp, xc_r9 hp, xc_c9 hp, xc_r11 hp, xc_c11 hp, xc_r20 hp, xc_c20 hp, no_on, hH, w1_d, wl_d, wl_1, e1]
    | exact rfl
    | (split <;> omega))
theorem wl_n {a k b j : Nat} {v : Int64} (h : ¬ (b = a ∧ j = k)) : (wl μ a k v).2.1 b j = μ.2.1 b j := if_neg h
theorem wl_s {a k : Nat} {v : Int64} : (wl μ a k v).2.1 a k = v := if_pos ⟨rfl, rfl⟩
theorem PR_ap (hP : PR p N μ) (hI : INV N) (h0 : N 0 < 16) {len k : Nat} {f : Nat → Nat} (hl : len ≤ 6) (hf : ∀ j, j < len → f j < 256) : PR p (apN N len f k) (x_ap p (N 0) (w64 (wN f len)) k μ) := by
  have hh := iv_h hI
  have hH := pr_h hP
  have hS := pr_sh hP
  have m : ∀ a j, a ≠ p → a ≠ p + 2 → (x_ap p (N 0) (w64 (wN f len)) k μ).1 a j = μ.1 a j := fun a j h1 h2 => by
    unfold x_ap
    rw [w1_n (by omega), w1_n (by omega), wl_1]
  have mp : ∀ j, j ≠ 3 → (x_ap p (N 0) (w64 (wN f len)) k μ).1 p j = μ.1 p j := fun j h1 => by
    unfold x_ap
    rw [w1_n (by omega), w1_n (by omega), wl_1]
  have e1 : apN N len f k 1 = N 1 := apN_ne (by omega) (by omega)
  have eq : ∀ x, 952 ≤ x → apN N len f k x = N x := fun x hx => apN_ne (by omega) (by omega)
  have ep : ∀ i w, i < 16 → 13 ≤ w → w < 59 → apN N len f k (8 + 59 * i + w) = N (8 + 59 * i + w) := fun i w hi hw hw2 => apN_ne (by omega) (by omega)
  have esb : ∀ i, i < 16 → scb (apN N len f k) i (apN N len f k 1) = scb N i (N 1) := fun i hi => by
    rw [e1]
    exact sm_ext fun q hq => by rw [ep i (23 + q) hi (by omega) (by omega)]
  have emb : ∀ i, i < 16 → smb (apN N len f k) i (apN N len f k 1) = smb N i (N 1) := fun i hi => by
    rw [e1]
    exact sm_ext fun q hq => ep i (23 + q) hi (by omega) (by omega)
  have easc : asc (apN N len f k) (apN N len f k 0) = asc N (N 0) := by
    rw [apN_0]
    show sm (fun i => scb (apN N len f k) i (apN N len f k 1)) (N 0) + scb (apN N len f k) (N 0) (apN N len f k 1) = asc N (N 0)
    rw [esb (N 0) h0, sm_ext (g := fun i => scb N i (N 1)) (fun i hi => esb i (by omega))]
    have : scb N (N 0) (N 1) = 0 := by
      have := sm_le (f := fun q => if N (8 + 59 * N 0 + (23 + q)) = 0 then 0 else 1) (B := 0) (N 1) (fun q hq => by
        try dsimp only
        rw [if_pos (iv_z1 hI (N 0) (23 + q) (Nat.le_refl _) h0 (by omega))]
        exact Nat.le_refl 0)
      unfold scb
      omega
    rw [this]
    rfl
  have easm : asm (apN N len f k) (apN N len f k 0) = asm N (N 0) := by
    rw [apN_0]
    show sm (fun i => smb (apN N len f k) i (apN N len f k 1)) (N 0) + smb (apN N len f k) (N 0) (apN N len f k 1) = asm N (N 0)
    rw [emb (N 0) h0, sm_ext (g := fun i => smb N i (N 1)) (fun i hi => emb i (by omega))]
    have : smb N (N 0) (N 1) = 0 := by
      have := sm_le (f := fun q => N (8 + 59 * N 0 + (23 + q))) (B := 0) (N 1) (fun q hq => by
        try dsimp only
        rw [iv_z1 hI (N 0) (23 + q) (Nat.le_refl _) h0 (by omega)]
        exact Nat.le_refl 0)
      unfold smb
      omega
    rw [this]
    rfl
  have enm : ∀ j, j < 16 → j ≠ N 0 → ∀ n, n ≤ 6 → nmL (apN N len f k) j n = nmL N j n := fun j hj hj2 n => by
    induction n with
    | zero => exact fun _ => rfl
    | succ n ih =>
      intro hn
      show nmL (apN N len f k) j n <<< 8 ||| _ = nmL N j n <<< 8 ||| _
      rw [ih (by omega), apN_ne (by omega) (by omega)]
  refine ⟨?_, ?_, ?_, ?_, ?_, ?_, ?_, ?_, ?_, ⟨?_, ?_⟩, ⟨?_, ?_⟩, ?_, ?_⟩
  · rw [apN_0, e1, apN_ne (by omega) (by omega), apN_ne (by omega) (by omega), apN_ne (by omega) (by omega), apN_ne (by omega) (by omega), mp 1 (by omega), mp 2 (by omega), mp 4 (by omega), mp 5 (by omega), mp 6 (by omega)]
    refine ⟨hH.1, hH.2.1, ?_, hH.2.2.2.1, hH.2.2.2.2.1, hH.2.2.2.2.2⟩
    unfold x_ap
    rw [w1_s]
  · intro j hj
    by_cases c : j = N 0
    · rw [c, apN_6, nmL_w (fun i hi => by rw [apN_l hi]; exact hf i hi), wN_ext (g := f) (fun i hi => apN_l hi)]
      unfold x_ap
      rw [w1_2, w1_2, wl_s]
    · rw [apN_ne (by omega) (by omega), enm j hj c _ (iv_p hI j hj).2]
      unfold x_ap
      rw [w1_2, w1_2, wl_n (by omega)]
      exact pr_nm hP j hj
  · intro j hj
    by_cases c : j = N 0
    · rw [c, apN_k]
      unfold x_ap
      rw [w1_n (by omega), w1_s]
    · rw [apN_ne (by omega) (by omega)]
      unfold x_ap
      rw [w1_n (by omega), w1_n (by omega), wl_1]
      exact pr_ki hP j hj
  · intro j hj; rw [m _ _ (by omega) (by omega), apN_ne (by omega) (by omega)]; exact pr_li hP j hj
  · intro j hj; rw [m _ _ (by omega) (by omega), eq _ (by omega)]; exact pr_to hP j hj
  · intro j t hj ht; rw [m _ _ (by omega) (by omega), apN_ne (by omega) (by omega)]; exact pr_ta hP j t hj ht
  · intro j t hj ht; rw [m _ _ (by omega) (by omega), ep _ _ hj (by omega) (by omega)]; exact pr_tg hP j t hj ht
  · intro j t hj ht; rw [m _ _ (by omega) (by omega), ep _ _ hj (by omega) (by omega)]; exact pr_bi hP j t hj ht
  · intro j t hj ht; rw [m _ _ (by omega) (by omega), ep _ _ hj (by omega) (by omega)]; exact pr_de hP j t hj ht
  · intro j hj; rw [m _ _ (by omega) (by omega), eq _ (by omega)]; exact pr_cn hP j hj
  · intro j i hj hi; rw [eq _ (by omega)] at hi; rw [m _ _ (by omega) (by omega), eq _ (by omega)]; exact pr_cm hP j i hj hi
  · intro j hj; rw [m _ _ (by omega) (by omega), eq _ (by omega)]; exact pr_sn hP j hj
  · intro j i hj hi; rw [eq _ (by omega)] at hi; rw [m _ _ (by omega) (by omega), eq _ (by omega)]; exact pr_sm hP j i hj hi
  · rw [easc, easm, apN_ne (by omega) (by omega), apN_ne (by omega) (by omega), m _ _ (by omega) (by omega), m _ _ (by omega) (by omega), m _ _ (by omega) (by omega), m _ _ (by omega) (by omega)]; exact hS
  · intro j t hj ht; rw [m _ _ (by omega) (by omega), ep _ _ hj (by omega) (by omega)]; exact pr_sc hP j t hj ht
/-- one pancake more, with its first cooks -/
def pkN (N : Nat → Nat) (t k : Nat) (f : Nat → Nat) : Nat → Nat := fun x => if x = 1 then N 1 + 1 else if x = 952 + 9 * N 1 + 0 then t else if x = 952 + 9 * N 1 + 1 then k else if 952 + 9 * N 1 + 2 ≤ x ∧ x < 952 + 9 * N 1 + 2 + k then f (x - (952 + 9 * N 1 + 2)) else N x
theorem pkN_ne {t k x : Nat} {f : Nat → Nat} (h : x ≠ 1) (h2 : x < 952 + 9 * N 1 ∨ 952 + 9 * N 1 + 2 + k ≤ x) : pkN N t k f x = N x := by
  unfold pkN
  rw [if_neg h, if_neg (by omega), if_neg (by omega), if_neg (by omega)]
theorem pkN_1 {t k : Nat} {f : Nat → Nat} : pkN N t k f 1 = N 1 + 1 := if_pos rfl
theorem pkN_t {t k : Nat} {f : Nat → Nat} : pkN N t k f (952 + 9 * N 1 + 0) = t := by unfold pkN; rw [if_neg (by omega), if_pos rfl]
theorem pkN_k {t k : Nat} {f : Nat → Nat} : pkN N t k f (952 + 9 * N 1 + 1) = k := by unfold pkN; rw [if_neg (by omega), if_neg (by omega), if_pos rfl]
theorem pkN_f {t k j : Nat} {f : Nat → Nat} (h : j < k) : pkN N t k f (952 + 9 * N 1 + (2 + j)) = f j := by
  unfold pkN
  rw [if_neg (by omega), if_neg (by omega), if_neg (by omega), if_pos (by omega)]
  exact congrArg f (by omega)
def x_ak (p q : Nat) (t : Int32) (μ : ev_M) : ev_M := w1 (w1 μ (p + 4) q t) p 4 (nI (q + 1))
theorem m_X4_addPancake (hok : ev_ok sh_S G) (hp : p ∈ sh_B) (hP : PR p N μ) (h1 : N 1 < 10) (t : Int32) : ev_T sh_S G mi_X4_addPancake [.ref p, .int t] μ (.inl (none, x_ak p (N 1) t μ)) := by
  have hlt := xp_lt hp
  have hH := pr_h hP
  have e1 : (w1 μ (p + 4) (N 1) t).1 p 4 = nI (N 1) := by rw [w1_n (by omega)]; exact hH.2.2.2.1
  unfold x_ak
  refine ev_tri hok okM_X4_addPancake (Nat.le_of_ble_eq_true rfl) 400 ?_
  rw [at_X4_addPancake_0]
  repeat' (first
    | (with_reducible refine ev_rid ?_; simp (disch := first | omega | assumption) only [ev_run_c, ev_run_n, ev_fj, ev_stp, ev_lk, ev_fv, ev_as, ev_sz, ev_st1, ev_st2, ev_rm, ev_pk, ev_Jof, ev_go, lv_args, List.map_cons, List.map_nil, List.zip_cons_cons, List.zip_nil_left, List.zip_nil_right, List.nil_append, List.cons_append, ↓reduceIte, reduceCtorEq, Int.reduceToNat, Nat.reduceEqDiff, Nat.reduceAdd, Nat.reduceLT, Nat.reduceLeDiff, Nat.reduceMul, Nat.reduceSub, Value.category, false_implies, true_and, and_true, Bool.false_eq_true, Option.some.injEq, exists_eq_left', Option.toList_some, Option.toList_none, ev_km, ev_k2, ev_k3, ev_k4, ev_k5, ev_l0, ev_l1, sh_1, sh_2, sh_3, sh_4, sh_5, at_X4_addPancake_31, ca_X4_127, cd_X4_addPancake_0, cd_X4_addPancake_31, fl_X4_22, fl_X4_74, ev_b_10, no_0, no_1, no_lt, no_le, no_eq, no_lt0, no_ge0, no_gt0, no_le0, no_eq0, no_0eq, no_eqm, no_meq, no_m0, no_mlt, no_mge, no_mgt, no_mm, no_i01, no_i10, no_in, no_or, no_ifm, no_mul, nI_add, no_sub, pk_div, iI_if, nI_clamp, oI_n, oI_s, not_true_eq_false, not_false_eq_true, forall_const, true_implies, false_and, and_false, or_false, false_or, Classical.not_not, true_or, or_true, no_b, no_eq1, eq_self, and_self, xk_0 hp, xk_1 hp, xk_2 hp, xk_3 hp, xk_4 hp, xk_5 hp, xk_6 hp, xk_7 hp, xk_8 hp, xk_9 hp, xk_10 hp, xk_11 hp, xk_12 hp, xk_13 hp, xk_14 hp, xk_15 hp, xk_16 hp, xk_17 hp, xk_18 hp, xk_19 hp, xk_20 hp, xk_21 hp, xl_1 hp, xl_2 hp, xl_3 hp, xl_4 hp, xl_6 hp, xl_8 hp, xl_10 hp, xl_12 hp, xl_14 hp, xl_15 hp, xl_17 hp, xl_18 hp, xl_21 hp, xp_7 hp, xp_8 hp, xp_9 hp, xp_10 hp, xp_11 hp, xp_12 hp, xp_13 hp, xp_14 hp, xp_15 hp, xp_16 hp, xp_17 hp, xp_t5 hp, xp_t7 hp, xp_t9 hp, xp_t11 hp, xp_t20 hp, xp_s19 hp, xp_a13 hp, xp_b13 hp, xp_a16 hp, xp_b16 hp, xc_r5 hp, xc_c5 hp, xc_r7 hp, xc_c7 hp, xc_r9 hp, xc_c9 hp, xc_r11 hp, xc_c11 hp, xc_r20 hp, xc_c20 hp, no_on, hH, w1_d, e1])
    | (with_reducible refine ev_gid ?_; simp (disch := first | omega | assumption) only [ev_run_c, ev_run_n, ev_fj, ev_stp, ev_lk, ev_fv, ev_as, ev_sz, ev_st1, ev_st2, ev_rm, ev_pk, ev_Jof, ev_go, lv_args, List.map_cons, List.map_nil, List.zip_cons_cons, List.zip_nil_left, List.zip_nil_right, List.nil_append, List.cons_append, ↓reduceIte, reduceCtorEq, Int.reduceToNat, Nat.reduceEqDiff, Nat.reduceAdd, Nat.reduceLT, Nat.reduceLeDiff, Nat.reduceMul, Nat.reduceSub, Value.category, false_implies, true_and, and_true, Bool.false_eq_true, Option.some.injEq, exists_eq_left', Option.toList_some, Option.toList_none, ev_km, ev_k2, ev_k3, ev_k4, ev_k5, ev_l0, ev_l1, sh_1, sh_2, sh_3, sh_4, sh_5, at_X4_addPancake_31, ca_X4_127, cd_X4_addPancake_0, cd_X4_addPancake_31, fl_X4_22, fl_X4_74, ev_b_10, no_0, no_1, no_lt, no_le, no_eq, no_lt0, no_ge0, no_gt0, no_le0, no_eq0, no_0eq, no_eqm, no_meq, no_m0, no_mlt, no_mge, no_mgt, no_mm, no_i01, no_i10, no_in, no_or, no_ifm, no_mul, nI_add, no_sub, pk_div, iI_if, nI_clamp, oI_n, oI_s, not_true_eq_false, not_false_eq_true, forall_const, true_implies, false_and, and_false, or_false, false_or, Classical.not_not, true_or, or_true, no_b, no_eq1, eq_self, and_self, xk_0 hp, xk_1 hp, xk_2 hp, xk_3 hp, xk_4 hp, xk_5 hp, xk_6 hp, xk_7 hp, xk_8 hp, xk_9 hp, xk_10 hp, xk_11 hp, xk_12 hp, xk_13 hp, xk_14 hp, xk_15 hp, xk_16 hp, xk_17 hp, xk_18 hp, xk_19 hp, xk_20 hp, xk_21 hp, xl_1 hp, xl_2 hp, xl_3 hp, xl_4 hp, xl_6 hp, xl_8 hp, xl_10 hp, xl_12 hp, xl_14 hp, xl_15 hp, xl_17 hp, xl_18 hp, xl_21 hp, xp_7 hp, xp_8 hp, xp_9 hp, xp_10 hp, xp_11 hp, xp_12 hp, xp_13 hp, xp_14 hp, xp_15 hp, xp_16 hp, xp_17 hp, xp_t5 hp, xp_t7 hp, xp_t9 hp, xp_t11 hp, xp_t20 hp, xp_s19 hp, xp_a13 hp, xp_b13 hp, xp_a16 hp, xp_b16 hp, xc_r5 hp, xc_c5 hp, xc_r7 hp, xc_c7 hp, xc_r9 hp, xc_c9 hp, xc_r11 hp, xc_c11 hp, xc_r20 hp, xc_c20 hp, no_on, hH, w1_d, e1])
    | (with_reducible refine And.intro (fun q => ?_) (fun q => ?_) <;> (try simp (disch := first | omega | assumption) only [no_0, no_1, no_lt, no_le, no_eq, no_lt0, no_ge0, no_gt0, no_le0, no_eq0, no_0eq, no_eqm, no_meq, no_m0, no_mlt, no_mge, no_mgt, no_mm, no_i01, no_i10, no_in, no_or, no_ifm, no_mul, nI_add, no_sub, pk_div, iI_if, nI_clamp, oI_n, oI_s, not_true_eq_false, not_false_eq_true, forall_const, true_implies, false_and, and_false, or_false, false_or, Classical.not_not, true_or, or_true, no_b, no_eq1, eq_self, and_self, xk_0 hp, xk_1 hp, xk_2 hp, xk_3 hp, xk_4 hp, xk_5 hp, xk_6 hp, xk_7 hp, xk_8 hp, xk_9 hp, xk_10 hp, xk_11 hp, xk_12 hp, xk_13 hp, xk_14 hp, xk_15 hp, xk_16 hp, xk_17 hp, xk_18 hp, xk_19 hp, xk_20 hp, xk_21 hp, xl_1 hp, xl_2 hp, xl_3 hp, xl_4 hp, xl_6 hp, xl_8 hp, xl_10 hp, xl_12 hp, xl_14 hp, xl_15 hp, xl_17 hp, xl_18 hp, xl_21 hp, xp_7 hp, xp_8 hp, xp_9 hp, xp_10 hp, xp_11 hp, xp_12 hp, xp_13 hp, xp_14 hp, xp_15 hp, xp_16 hp, xp_17 hp, xp_t5 hp, xp_t7 hp, xp_t9 hp, xp_t11 hp, xp_t20 hp, xp_s19 hp, xp_a13 hp, xp_b13 hp, xp_a16 hp, xp_b16 hp, xc_r5 hp, xc_c5 hp, xc_r7 hp, xc_c7 hp, xc_r9 hp, xc_c9 hp, xc_r11 hp, xc_c11 hp, xc_r20 hp, xc_c20 hp, no_on, hH, w1_d, e1] at q))
    | with_reducible refine ev_ci (m_X10_setCell hok ?_ ?_ ?_ ?_ _) ?_
    | omega
    | with_reducible assumption
    | with_reducible rfl
    | (refine Nat.lt_of_lt_of_le ?_ (Nat.le_refl 312); omega)
    | with_reducible refine lp_nx ?_ ?_ ?_ ?_
    | with_reducible refine lp_st ?_ ?_ ?_
    | with_reducible refine ls_c ?_ ?_
    | with_reducible refine vi_c ?_
    | with_reducible refine re_c ?_
    | with_reducible refine vz_c ?_
    | with_reducible refine rz_c ?_
    | exact trivial
    | with_reducible refine And.intro ?_ ?_
    | simp (disch := first | omega | assumption) only [ev_run_c, ev_run_n, ev_fj, ev_stp, ev_lk, ev_fv, ev_as, ev_sz, ev_st1, ev_st2, ev_rm, ev_pk, ev_Jof, ev_go, lv_args, List.map_cons, List.map_nil, List.zip_cons_cons, List.zip_nil_left, List.zip_nil_right, List.nil_append, List.cons_append, ↓reduceIte, reduceCtorEq, Int.reduceToNat, Nat.reduceEqDiff, Nat.reduceAdd, Nat.reduceLT, Nat.reduceLeDiff, Nat.reduceMul, Nat.reduceSub, Value.category, false_implies, true_and, and_true, Bool.false_eq_true, Option.some.injEq, exists_eq_left', Option.toList_some, Option.toList_none, ev_km, ev_k2, ev_k3, ev_k4, ev_k5, ev_l0, ev_l1, sh_1, sh_2, sh_3, sh_4, sh_5, at_X4_addPancake_31, ca_X4_127, cd_X4_addPancake_0, cd_X4_addPancake_31, fl_X4_22, fl_X4_74, ev_b_10, no_0, no_1, no_lt, no_le, no_eq, no_lt0, no_ge0, no_gt0, no_le0, no_eq0, no_0eq, no_eqm, no_meq, no_m0, no_mlt, no_mge, no_mgt, no_mm, no_i01, no_i10, no_in, no_or, no_ifm, no_mul, nI_add, no_sub, pk_div, iI_if, nI_clamp, oI_n, oI_s, not_true_eq_false, not_false_eq_true, forall_const, true_implies, false_and, and_false, or_false, false_or, Classical.not_not, true_or, or_true, no_b, no_eq1, eq_self, and_self, xk_0 hp, xk_1 hp, xk_2 hp, xk_3 hp, xk_4 hp, xk_5 hp, xk_6 hp, xk_7 hp, xk_8 hp, xk_9 hp, xk_10 hp, xk_11 hp, xk_12 hp, xk_13 hp, xk_14 hp, xk_15 hp, xk_16 hp, xk_17 hp, xk_18 hp, xk_19 hp, xk_20 hp, xk_21 hp, xl_1 hp, xl_2 hp, xl_3 hp, xl_4 hp, xl_6 hp, xl_8 hp, xl_10 hp, xl_12 hp, xl_14 hp, xl_15 hp, xl_17 hp, xl_18 hp, xl_21 hp, xp_7 hp, xp_8 hp, xp_9 hp, xp_10 hp, xp_11 hp, xp_12 hp, xp_13 hp, xp_14 hp, xp_15 hp, xp_16 hp, xp_17 hp, xp_t5 hp, xp_t7 hp, xp_t9 hp, xp_t11 hp, xp_t20 hp, xp_s19 hp, xp_a13 hp, xp_b13 hp, xp_a16 hp, xp_b16 hp, xc_r5 hp, xc_c5 hp, xc_r7 hp, xc_c7 hp, xc_r9 hp, xc_c9 hp, xc_r11 hp, xc_c11 hp, xc_r20 hp, xc_c20 hp, no_on, hH, w1_d, e1]
    | exact rfl
    | (split <;> omega))
theorem PR_ak (hP : PR p N μ) (hI : INV N) (h1 : N 1 < 10) {t : Nat} {f : Nat → Nat} : PR p (pkN N t 0 f) (x_ak p (N 1) (nI t) μ) := by
  have hh := iv_h hI
  have hH := pr_h hP
  have hS := pr_sh hP
  have m : ∀ a j, a ≠ p → a ≠ p + 4 → (x_ak p (N 1) (nI t) μ).1 a j = μ.1 a j := fun a j h1 h2 => by
    unfold x_ak
    rw [w1_n (by omega), w1_n (by omega)]
  have mp : ∀ j, j ≠ 4 → (x_ak p (N 1) (nI t) μ).1 p j = μ.1 p j := fun j h1 => by
    unfold x_ak
    rw [w1_n (by omega), w1_n (by omega)]
  have ep : ∀ x, x ≠ 1 → x < 952 → pkN N t 0 f x = N x := fun x hx hx2 => pkN_ne hx (by omega)
  have esb : ∀ i, i < 16 → scb (pkN N t 0 f) i (pkN N t 0 f 1) = scb N i (N 1) := fun i hi => by
    rw [pkN_1]
    show scb (pkN N t 0 f) i (N 1) + (if pkN N t 0 f (8 + 59 * i + (23 + N 1)) = 0 then 0 else 1) = _
    rw [ep _ (by omega) (by omega), if_pos (iv_z3 hI i (N 1) hi (Nat.le_refl _) h1).2.1]
    exact sm_ext fun q hq => by rw [ep _ (by omega) (by omega)]
  have emb : ∀ i, i < 16 → smb (pkN N t 0 f) i (pkN N t 0 f 1) = smb N i (N 1) := fun i hi => by
    rw [pkN_1]
    show smb (pkN N t 0 f) i (N 1) + pkN N t 0 f (8 + 59 * i + (23 + N 1)) = _
    rw [ep _ (by omega) (by omega), (iv_z3 hI i (N 1) hi (Nat.le_refl _) h1).2.1]
    exact sm_ext fun q hq => ep _ (by omega) (by omega)
  have e0 : pkN N t 0 f 0 = N 0 := ep 0 (by omega) (by omega)
  have easc : asc (pkN N t 0 f) (pkN N t 0 f 0) = asc N (N 0) := by
    rw [e0]
    exact sm_ext fun i hi => esb i (by omega)
  have easm : asm (pkN N t 0 f) (pkN N t 0 f 0) = asm N (N 0) := by
    rw [e0]
    exact sm_ext fun i hi => emb i (by omega)
  have enm : ∀ j, j < 16 → ∀ n, n ≤ 6 → nmL (pkN N t 0 f) j n = nmL N j n := fun j hj n => by
    induction n with
    | zero => exact fun _ => rfl
    | succ n ih =>
      intro hn
      show nmL (pkN N t 0 f) j n <<< 8 ||| _ = nmL N j n <<< 8 ||| _
      rw [ih (by omega), ep _ (by omega) (by omega)]
  refine ⟨?_, ?_, ?_, ?_, ?_, ?_, ?_, ?_, ?_, ⟨?_, ?_⟩, ⟨?_, ?_⟩, ?_, ?_⟩
  · rw [e0, pkN_1, ep 2 (by omega) (by omega), ep 3 (by omega) (by omega), ep 4 (by omega) (by omega), ep 5 (by omega) (by omega), mp 1 (by omega), mp 2 (by omega), mp 3 (by omega), mp 5 (by omega), mp 6 (by omega)]
    refine ⟨hH.1, hH.2.1, hH.2.2.1, ?_, hH.2.2.2.2.1, hH.2.2.2.2.2⟩
    unfold x_ak
    rw [w1_s]
  · intro j hj
    rw [ep _ (by omega) (by omega), enm j hj _ (iv_p hI j hj).2]
    exact pr_nm hP j hj
  · intro j hj; rw [m _ _ (by omega) (by omega), ep _ (by omega) (by omega)]; exact pr_ki hP j hj
  · intro j hj; rw [m _ _ (by omega) (by omega), ep _ (by omega) (by omega)]; exact pr_li hP j hj
  · intro j hj
    by_cases c : j = N 1
    · rw [c, pkN_t]
      unfold x_ak
      rw [w1_n (by omega), w1_s]
    · rw [pkN_ne (by omega) (by omega)]
      unfold x_ak
      rw [w1_n (by omega), w1_n (by omega)]
      exact pr_to hP j hj
  · intro j t hj ht; rw [m _ _ (by omega) (by omega), ep _ (by omega) (by omega)]; exact pr_ta hP j t hj ht
  · intro j t hj ht; rw [m _ _ (by omega) (by omega), ep _ (by omega) (by omega)]; exact pr_tg hP j t hj ht
  · intro j t hj ht; rw [m _ _ (by omega) (by omega), ep _ (by omega) (by omega)]; exact pr_bi hP j t hj ht
  · intro j t hj ht; rw [m _ _ (by omega) (by omega), ep _ (by omega) (by omega)]; exact pr_de hP j t hj ht
  · intro j hj
    by_cases c : j = N 1
    · rw [c, pkN_k, m _ _ (by omega) (by omega), pr_cn hP _ h1, iv_z2 hI (N 1) 1 (Nat.le_refl _) h1 (by omega)]
    · rw [m _ _ (by omega) (by omega), pkN_ne (by omega) (by omega)]; exact pr_cn hP j hj
  · intro j i hj hi
    by_cases c : j = N 1
    · rw [c, pkN_k] at hi; exact absurd hi (Nat.not_lt_zero _)
    · rw [pkN_ne (by omega) (by omega)] at hi
      have := iv_q hI j hj
      rw [m _ _ (by omega) (by omega), pkN_ne (by omega) (by omega)]; exact pr_cm hP j i hj hi
  · intro j hj; rw [m _ _ (by omega) (by omega), pkN_ne (by omega) (by omega)]; exact pr_sn hP j hj
  · intro j i hj hi
    rw [pkN_ne (by omega) (by omega)] at hi
    have := iv_q hI j hj
    rw [m _ _ (by omega) (by omega), pkN_ne (by omega) (by omega)]; exact pr_sm hP j i hj hi
  · rw [easc, easm, ep 6 (by omega) (by omega), ep 7 (by omega) (by omega), m _ _ (by omega) (by omega), m _ _ (by omega) (by omega), m _ _ (by omega) (by omega), m _ _ (by omega) (by omega)]; exact hS
  · intro j t hj ht; rw [m _ _ (by omega) (by omega), ep _ (by omega) (by omega)]; exact pr_sc hP j t hj ht
theorem PR_ck {t k : Nat} {f : Nat → Nat} (hP : PR p (pkN N t k f) μ) (hI : INV N) (h1 : N 1 < 10) (hk : k < 3) : PR p (pkN N t (k + 1) f) (x_add (p + 13) (N 1) k (f k) μ) := by
  have hh := iv_h hI
  have hH := pr_h hP
  have hS := pr_sh hP
  have m : ∀ a j, a ≠ p + 14 → a ≠ p + 15 → (x_add (p + 13) (N 1) k (f k) μ).1 a j = μ.1 a j := fun a j h1 h2 => by
    unfold x_add
    rw [w1_n (by omega), w1_n (by omega)]
  have e : ∀ x, x ≠ 952 + 9 * N 1 + 1 → x ≠ 952 + 9 * N 1 + (2 + k) → pkN N t (k + 1) f x = pkN N t k f x := fun x hx hx2 => by
    unfold pkN
    by_cases a1 : x = 1
    · rw [if_pos a1, if_pos a1]
    · rw [if_neg a1, if_neg a1]
      by_cases a2 : x = 952 + 9 * N 1 + 0
      · rw [if_pos a2, if_pos a2]
      · rw [if_neg a2, if_neg a2, if_neg hx, if_neg hx]
        by_cases a3 : 952 + 9 * N 1 + 2 ≤ x ∧ x < 952 + 9 * N 1 + 2 + k
        · rw [if_pos a3, if_pos (by omega)]
        · rw [if_neg a3, if_neg (by omega)]
  have easc : asc (pkN N t (k + 1) f) (pkN N t (k + 1) f 0) = asc (pkN N t k f) (pkN N t k f 0) := by
    rw [e 0 (by omega) (by omega), pkN_ne (by omega) (by omega)]
    refine sm_ext fun i hi => ?_
    rw [e 1 (by omega) (by omega), pkN_1]
    exact sm_ext fun q hq => by rw [e _ (by omega) (by omega)]
  have easm : asm (pkN N t (k + 1) f) (pkN N t (k + 1) f 0) = asm (pkN N t k f) (pkN N t k f 0) := by
    rw [e 0 (by omega) (by omega), pkN_ne (by omega) (by omega)]
    refine sm_ext fun i hi => ?_
    rw [e 1 (by omega) (by omega), pkN_1]
    exact sm_ext fun q hq => e _ (by omega) (by omega)
  have e6 : ∀ j, j < 16 → pkN N t k f (8 + 59 * j + 6) ≤ 6 := fun j hj => by rw [pkN_ne (by omega) (by omega)]; exact (iv_p hI j hj).2
  have enm : ∀ j, j < 16 → ∀ n, n ≤ 6 → nmL (pkN N t (k + 1) f) j n = nmL (pkN N t k f) j n := fun j hj n => by
    induction n with
    | zero => exact fun _ => rfl
    | succ n ih =>
      intro hn
      show nmL (pkN N t (k + 1) f) j n <<< 8 ||| _ = nmL (pkN N t k f) j n <<< 8 ||| _
      rw [ih (by omega), e _ (by omega) (by omega)]
  refine ⟨?_, ?_, ?_, ?_, ?_, ?_, ?_, ?_, ?_, ⟨?_, ?_⟩, ⟨?_, ?_⟩, ?_, ?_⟩
  · rw [e 0 (by omega) (by omega), e 1 (by omega) (by omega), e 2 (by omega) (by omega), e 3 (by omega) (by omega), e 4 (by omega) (by omega), e 5 (by omega) (by omega), m _ _ (by omega) (by omega), m _ _ (by omega) (by omega), m _ _ (by omega) (by omega), m _ _ (by omega) (by omega), m _ _ (by omega) (by omega), m _ _ (by omega) (by omega)]
    exact hH
  · intro j hj; rw [e _ (by omega) (by omega), enm j hj _ (e6 j hj)]; exact pr_nm hP j hj
  · intro j hj; rw [m _ _ (by omega) (by omega), e _ (by omega) (by omega)]; exact pr_ki hP j hj
  · intro j hj; rw [m _ _ (by omega) (by omega), e _ (by omega) (by omega)]; exact pr_li hP j hj
  · intro j hj; rw [m _ _ (by omega) (by omega), e _ (by omega) (by omega)]; exact pr_to hP j hj
  · intro j t hj ht; rw [m _ _ (by omega) (by omega), e _ (by omega) (by omega)]; exact pr_ta hP j t hj ht
  · intro j t hj ht; rw [m _ _ (by omega) (by omega), e _ (by omega) (by omega)]; exact pr_tg hP j t hj ht
  · intro j t hj ht; rw [m _ _ (by omega) (by omega), e _ (by omega) (by omega)]; exact pr_bi hP j t hj ht
  · intro j t hj ht; rw [m _ _ (by omega) (by omega), e _ (by omega) (by omega)]; exact pr_de hP j t hj ht
  · intro j hj
    by_cases c : j = N 1
    · rw [c, pkN_k]
      unfold x_add
      rw [show p + 13 + 1 = p + 14 by omega, w1_s]
    · have e9 : (x_add (p + 13) (N 1) k (f k) μ).1 (p + 14) j = μ.1 (p + 14) j := by
        unfold x_add
        rw [w1_n (by omega), w1_n (by omega)]
      rw [e9, e _ (by omega) (by omega)]
      exact pr_cn hP j hj
  · intro j i hj hi
    by_cases c : j = N 1
    · rw [c, pkN_k] at hi
      rw [c, pkN_f hi]
      by_cases d : i = k
      · rw [d]
        unfold x_add
        rw [w1_n (by omega), show p + 13 + 2 = p + 15 by omega, w1_s]
      · have e9 : (x_add (p + 13) (N 1) k (f k) μ).1 (p + 15) (N 1 * 3 + i) = μ.1 (p + 15) (N 1 * 3 + i) := by
          unfold x_add
          rw [w1_n (by omega), w1_n (by omega)]
        have h9 := pr_cm hP (N 1) i h1 (by rw [pkN_k]; omega)
        rw [pkN_f (by omega)] at h9
        rw [e9, h9]
    · rw [e _ (by omega) (by omega)] at hi
      have h8 : pkN N t k f (952 + 9 * j + 1) ≤ 3 := by rw [pkN_ne (by omega) (by omega)]; exact (iv_q hI j hj).2.1
      have e9 : (x_add (p + 13) (N 1) k (f k) μ).1 (p + 15) (j * 3 + i) = μ.1 (p + 15) (j * 3 + i) := by
        unfold x_add
        rw [w1_n (by omega), w1_n (by omega)]
      rw [e9, e _ (by omega) (by omega)]
      exact pr_cm hP j i hj hi
  · intro j hj; rw [m _ _ (by omega) (by omega), e _ (by omega) (by omega)]; exact pr_sn hP j hj
  · intro j i hj hi
    rw [e _ (by omega) (by omega)] at hi
    have h8 : pkN N t k f (952 + 9 * j + 5) ≤ 3 := by rw [pkN_ne (by omega) (by omega)]; exact (iv_q hI j hj).2.2
    rw [m _ _ (by omega) (by omega), e _ (by omega) (by omega)]; exact pr_sm hP j i hj hi
  · rw [easc, easm, e 6 (by omega) (by omega), e 7 (by omega) (by omega), m _ _ (by omega) (by omega), m _ _ (by omega) (by omega), m _ _ (by omega) (by omega), m _ _ (by omega) (by omega)]; exact hS
  · intro j t hj ht; rw [m _ _ (by omega) (by omega), e _ (by omega) (by omega)]; exact pr_sc hP j t hj ht
end XGrow
