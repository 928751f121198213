/-! ===== the reference: its state; undoing ===== -/
section MState
variable {G : ev_G} {N : Nat → Nat} {μ : ev_M}
/-- an abstract state: row, is there, history (latest first), how many, saved rows, which are, bytes, how many, error code, error position, output, how many -/
abbrev ev_A : Type := (Nat → Nat) × Nat × (Nat → Nat → Nat) × Nat × (Nat → Nat → Nat) × (Nat → Nat) × (Nat → Nat) × Nat × Nat × Int32 × (Nat → Nat) × Nat
abbrev aN (σ : ev_A) : Nat → Nat := σ.1
abbrev aE (σ : ev_A) : Nat := σ.2.1
abbrev aH (σ : ev_A) : Nat → Nat → Nat := σ.2.2.1
abbrev aK (σ : ev_A) : Nat := σ.2.2.2.1
abbrev aV (σ : ev_A) : Nat → Nat → Nat := σ.2.2.2.2.1
abbrev aS (σ : ev_A) : Nat → Nat := σ.2.2.2.2.2.1
abbrev aB (σ : ev_A) : Nat → Nat := σ.2.2.2.2.2.2.1
abbrev aBn (σ : ev_A) : Nat := σ.2.2.2.2.2.2.2.1
abbrev aPc (σ : ev_A) : Nat := σ.2.2.2.2.2.2.2.2.1
abbrev aPa (σ : ev_A) : Int32 := σ.2.2.2.2.2.2.2.2.2.1
abbrev aG (σ : ev_A) : Nat → Nat := σ.2.2.2.2.2.2.2.2.2.2.1
abbrev aGn (σ : ev_A) : Nat := σ.2.2.2.2.2.2.2.2.2.2.2
/-- what holds of an abstract state -/
def OKA (σ : ev_A) : Prop := INV (aN σ) ∧ aE σ < 2 ∧ aK σ ≤ 8 ∧ (∀ i, i < aK σ → INV (aH σ i)) ∧ (∀ s, s < 2 → aS σ s < 2) ∧ (∀ s, s < 2 → aS σ s = 1 → INV (aV σ s)) ∧ aBn σ ≤ 500 ∧ (∀ i, aB σ i < 256) ∧ aPc σ < 5 ∧ aGn σ ≤ 64 ∧ (∀ i, aG σ i < 128)
/-- a byte with its sign -/
def sb (b : Nat) : Int32 := if b < 128 then nI b else iI ((b : Int) - 256)
def MU (H : Nat → Nat → Nat) (k : Nat) (μ : ev_M) : Prop := ∀ i, i < k → ∀ j, j < 1042 → μ.1 304 (1042 * (k - 1 - i) + j) = nI (H i j)
/-- the reference holds an abstract state -/
def MS (σ : ev_A) (μ : ev_M) : Prop := MR (aN σ) μ ∧ μ.1 301 6 = nI (aE σ) ∧ μ.1 301 7 = nI (aK σ) ∧ MU (aH σ) (aK σ) μ ∧ (∀ s, s < 2 → μ.1 306 s = nI (aS σ s)) ∧ (∀ s, s < 2 → aS σ s = 1 → ∀ j, j < 1042 → μ.1 305 (1042 * s + j) = nI (aV σ s j)) ∧
  μ.1 301 9 = nI (aBn σ) ∧ (∀ i, i < aBn σ → μ.1 307 i = sb (aB σ i)) ∧ μ.1 301 10 = nI (aPc σ) ∧ μ.1 301 11 = aPa σ ∧ μ.1 301 20 = nI (aGn σ) ∧ (∀ i, i < aGn σ → μ.1 309 i = nI (aG σ i))
/-- the class's side is as it was -/
def Fq (μ μ' : ev_M) : Prop := (∀ a k, a < 301 ∨ 309 < a → μ'.1 a k = μ.1 a k) ∧ μ'.2 = μ.2
theorem Fq_rf : Fq μ μ := ⟨fun _ _ _ => rfl, rfl⟩
theorem Fq_tr {μ' μ'' : ev_M} (h : Fq μ μ') (h2 : Fq μ' μ'') : Fq μ μ'' := ⟨fun a k h3 => (h2.1 a k h3).trans (h.1 a k h3), h2.2.trans h.2⟩
theorem Fq_m {μ' : ev_M} (h : Fm μ μ') : Fq μ μ' := ⟨fun a k h1 => h.1 a k (by omega) (by omega) (by omega) (by omega), h.2⟩
/-- what only the row and the scratch cells change -/
theorem MS_m {σ : ev_A} {μ' : ev_M} (h : MS σ μ) (hm : Fm μ μ') {N' : Nat → Nat} (hN : MR N' μ') : MS (N', σ.2) μ' := by
  obtain ⟨h1, h2, h3, h4, h5, h6, h7, h8, h9, h10, h11, h12⟩ := h
  have e : ∀ a k, a ≠ 302 → a ≠ 303 → a ≠ 308 → ¬ (a = 301 ∧ k = 0) → μ'.1 a k = μ.1 a k := hm.1
  refine ⟨hN, ?_, ?_, ?_, ?_, ?_, ?_, ?_, ?_, ?_, ?_, ?_⟩
  · rw [e _ _ (by omega) (by omega) (by omega) (by omega)]; exact h2
  · rw [e _ _ (by omega) (by omega) (by omega) (by omega)]; exact h3
  · intro i hi j hj; rw [e _ _ (by omega) (by omega) (by omega) (by omega)]; exact h4 i hi j hj
  · intro s hs; rw [e _ _ (by omega) (by omega) (by omega) (by omega)]; exact h5 s hs
  · intro s hs h j hj; rw [e _ _ (by omega) (by omega) (by omega) (by omega)]; exact h6 s hs h j hj
  · rw [e _ _ (by omega) (by omega) (by omega) (by omega)]; exact h7
  · intro i hi; rw [e _ _ (by omega) (by omega) (by omega) (by omega)]; exact h8 i hi
  · rw [e _ _ (by omega) (by omega) (by omega) (by omega)]; exact h9
  · rw [e _ _ (by omega) (by omega) (by omega) (by omega)]; exact h10
  · rw [e _ _ (by omega) (by omega) (by omega) (by omega)]; exact h11
  · intro i hi; rw [e _ _ (by omega) (by omega) (by omega) (by omega)]; exact h12 i hi
theorem th_0 {t : Nat} : (th μ t).1 301 0 = nI t := by
  show ev_up μ.1 301 0 (nI t) 301 0 = nI t
  exact e_us
theorem MS_th {σ : ev_A} {t : Nat} (h : MS σ μ) : MS σ (th μ t) := MS_m h Fm_th (th_R h.1)
theorem bk_R {μ2 : ev_M} (h : ∀ x, x < 1042 → μ2.1 303 x = nI (N x)) : MR N (cpy μ2 303 0 302 0 1042) := fun x hx => by
  have e := cpy_in (μ := μ2) (a := 303) (i := 0) (b := 302) (j := 0) hx
  rw [Nat.zero_add] at e
  exact e.trans (h x hx)
theorem cp_303 (hN : MR N μ) : ∀ x, x < 1042 → (cpy μ 302 0 303 0 1042).1 303 x = nI (N x) := fun x hx => by
  have e := cpy_in (μ := μ) (a := 302) (i := 0) (b := 303) (j := 0) hx
  rw [Nat.zero_add] at e
  exact e.trans (hN x hx)
theorem m_X11_lackingAfterFilling (hok : ev_ok sh_S G) (hN : MR N μ) (hI : INV N) {e : Nat} (he : μ.1 301 6 = nI e) (he2 : e < 2) : ∃ μ', ev_T sh_S G mi_X11_lackingAfterFilling [.ref 301] μ (.inl (some (.int (v0 e (nI (lk (flN N) (N 1))))), μ')) ∧ MR N μ' ∧ Fm μ μ' ∧ μ'.1 301 0 = nI (thc e 1 1) := by
  rcases (show e = 0 ∨ e = 1 by omega) with rfl | rfl
  · refine ⟨th μ 1, ?_, th_R hN, Fm_th, by rw [thc_1]; exact th_0⟩
    rw [v0_0]
    refine ev_tri hok (okM_X11_lackingAfterFilling 0) (Nat.le_of_ble_eq_true rfl) 400 ?_
    rw [at_X11_lackingAfterFilling_0]
    repeat' (first
      | (with_reducible refine ev_rid ?_; simp (disch := first | omega | assumption) only [ev_run_c, ev_run_n, ev_fj, ev_stp, ev_lk, ev_fv, ev_as, ev_sz, ev_st1, ev_st2, ev_rm, ev_pk, ev_Jof, ev_go, lv_args, List.map_cons, List.map_nil, List.zip_cons_cons, List.zip_nil_left, List.zip_nil_right, List.nil_append, List.cons_append, ↓reduceIte, reduceCtorEq, Int.reduceToNat, Nat.reduceEqDiff, Nat.reduceAdd, Nat.reduceLT, Nat.reduceLeDiff, Nat.reduceMul, Value.category, false_implies, true_and, and_true, Bool.false_eq_true, Option.some.injEq, exists_eq_left', Option.toList_some, Option.toList_none, ev_km, ev_k2, ev_k3, ev_k4, ev_k5, ev_l0, ev_l1, sh_1, sh_2, sh_3, sh_4, sh_5, at_X11_lackingAfterFilling_9, ca_X11_177, ca_X11_313, ca_X11_319, ca_X11_407, ca_X11_433, cd_X11_lackingAfterFilling_0, cd_X11_lackingAfterFilling_9, no_0, no_1, no_lt, no_le, no_eq, no_lt0, no_ge0, no_gt0, no_le0, no_eq0, no_0eq, no_eqm, no_meq, no_m0, no_mlt, no_mge, no_mgt, no_mm, no_i01, no_i10, no_in, no_or, no_ifm, no_mul, nI_add, no_sub, pk_div, iI_if, nI_clamp, oI_n, oI_s, not_true_eq_false, not_false_eq_true, forall_const, true_implies, false_and, and_false, or_false, false_or, Classical.not_not, true_or, or_true, no_b, no_eq1, eq_self, and_self, sk_301, sk_302, sl_302, sp_301, thc_1])
      | (with_reducible refine ev_gid ?_; simp (disch := first | omega | assumption) only [ev_run_c, ev_run_n, ev_fj, ev_stp, ev_lk, ev_fv, ev_as, ev_sz, ev_st1, ev_st2, ev_rm, ev_pk, ev_Jof, ev_go, lv_args, List.map_cons, List.map_nil, List.zip_cons_cons, List.zip_nil_left, List.zip_nil_right, List.nil_append, List.cons_append, ↓reduceIte, reduceCtorEq, Int.reduceToNat, Nat.reduceEqDiff, Nat.reduceAdd, Nat.reduceLT, Nat.reduceLeDiff, Nat.reduceMul, Value.category, false_implies, true_and, and_true, Bool.false_eq_true, Option.some.injEq, exists_eq_left', Option.toList_some, Option.toList_none, ev_km, ev_k2, ev_k3, ev_k4, ev_k5, ev_l0, ev_l1, sh_1, sh_2, sh_3, sh_4, sh_5, at_X11_lackingAfterFilling_9, ca_X11_177, ca_X11_313, ca_X11_319, ca_X11_407, ca_X11_433, cd_X11_lackingAfterFilling_0, cd_X11_lackingAfterFilling_9, no_0, no_1, no_lt, no_le, no_eq, no_lt0, no_ge0, no_gt0, no_le0, no_eq0, no_0eq, no_eqm, no_meq, no_m0, no_mlt, no_mge, no_mgt, no_mm, no_i01, no_i10, no_in, no_or, no_ifm, no_mul, nI_add, no_sub, pk_div, iI_if, nI_clamp, oI_n, oI_s, not_true_eq_false, not_false_eq_true, forall_const, true_implies, false_and, and_false, or_false, false_or, Classical.not_not, true_or, or_true, no_b, no_eq1, eq_self, and_self, sk_301, sk_302, sl_302, sp_301, thc_1])
      | (with_reducible refine And.intro (fun q => ?_) (fun q => ?_) <;> (try simp (disch := first | omega | assumption) only [no_0, no_1, no_lt, no_le, no_eq, no_lt0, no_ge0, no_gt0, no_le0, no_eq0, no_0eq, no_eqm, no_meq, no_m0, no_mlt, no_mge, no_mgt, no_mm, no_i01, no_i10, no_in, no_or, no_ifm, no_mul, nI_add, no_sub, pk_div, iI_if, nI_clamp, oI_n, oI_s, not_true_eq_false, not_false_eq_true, forall_const, true_implies, false_and, and_false, or_false, false_or, Classical.not_not, true_or, or_true, no_b, no_eq1, eq_self, and_self, sk_301, sk_302, sl_302, sp_301, thc_1] at q))
      | with_reducible refine ev_ci (m_X11_mayLook hok (by with_reducible assumption) ?_) ?_
      | with_reducible refine ev_ci (m_X11_thinks hok) ?_
      | with_reducible refine ev_ci (m_X11_fills hok (by first | with_reducible assumption | exact mw_R | exact ms_R) (by with_reducible assumption)) ?_
      | with_reducible refine ev_ci (m_X11_lacks hok (by first | with_reducible assumption | exact th_R (by with_reducible assumption) | exact mw_R | exact ms_R) (by with_reducible assumption)) ?_
      | with_reducible refine ev_ci (m_X11_back hok _) ?_
      | omega
      | with_reducible assumption
      | with_reducible rfl
      | with_reducible refine lp_nx ?_ ?_ ?_ ?_
      | with_reducible refine lp_st ?_ ?_ ?_
      | with_reducible refine ls_c ?_ ?_
      | with_reducible refine vi_c ?_
      | with_reducible refine re_c ?_
      | with_reducible refine vz_c ?_
      | with_reducible refine rz_c ?_
      | exact trivial
      | with_reducible refine And.intro ?_ ?_
      | simp (disch := first | omega | assumption) only [ev_run_c, ev_run_n, ev_fj, ev_stp, ev_lk, ev_fv, ev_as, ev_sz, ev_st1, ev_st2, ev_rm, ev_pk, ev_Jof, ev_go, lv_args, List.map_cons, List.map_nil, List.zip_cons_cons, List.zip_nil_left, List.zip_nil_right, List.nil_append, List.cons_append, ↓reduceIte, reduceCtorEq, Int.reduceToNat, Nat.reduceEqDiff, Nat.reduceAdd, Nat.reduceLT, Nat.reduceLeDiff, Nat.reduceMul, Value.category, false_implies, true_and, and_true, Bool.false_eq_true, Option.some.injEq, exists_eq_left', Option.toList_some, Option.toList_none, ev_km, ev_k2, ev_k3, ev_k4, ev_k5, ev_l0, ev_l1, sh_1, sh_2, sh_3, sh_4, sh_5, at_X11_lackingAfterFilling_9, ca_X11_177, ca_X11_313, ca_X11_319, ca_X11_407, ca_X11_433, cd_X11_lackingAfterFilling_0, cd_X11_lackingAfterFilling_9, no_0, no_1, no_lt, no_le, no_eq, no_lt0, no_ge0, no_gt0, no_le0, no_eq0, no_0eq, no_eqm, no_meq, no_m0, no_mlt, no_mge, no_mgt, no_mm, no_i01, no_i10, no_in, no_or, no_ifm, no_mul, nI_add, no_sub, pk_div, iI_if, nI_clamp, oI_n, oI_s, not_true_eq_false, not_false_eq_true, forall_const, true_implies, false_and, and_false, or_false, false_or, Classical.not_not, true_or, or_true, no_b, no_eq1, eq_self, and_self, sk_301, sk_302, sl_302, sp_301, thc_1]
      | exact rfl
      | (split <;> omega))
  · have h1 : MR N (cpy (th μ 0) 302 0 303 0 1042) := cpy_R (by omega) (th_R hN)
    obtain ⟨i1, i2, i3, i4⟩ := flN_ok hI
    refine ⟨cpy (ms (cpy (th μ 0) 302 0 303 0 1042) (flN N) (flG N)) 303 0 302 0 1042, ?_, ?_, ?_, ?_⟩
    · rw [v0_1]
      refine ev_tri hok (okM_X11_lackingAfterFilling 0) (Nat.le_of_ble_eq_true rfl) 400 ?_
      rw [at_X11_lackingAfterFilling_0]
      repeat' (first
        | (with_reducible refine ev_rid ?_; simp (disch := first | omega | assumption) only [ev_run_c, ev_run_n, ev_fj, ev_stp, ev_lk, ev_fv, ev_as, ev_sz, ev_st1, ev_st2, ev_rm, ev_pk, ev_Jof, ev_go, lv_args, List.map_cons, List.map_nil, List.zip_cons_cons, List.zip_nil_left, List.zip_nil_right, List.nil_append, List.cons_append, ↓reduceIte, reduceCtorEq, Int.reduceToNat, Nat.reduceEqDiff, Nat.reduceAdd, Nat.reduceLT, Nat.reduceLeDiff, Nat.reduceMul, Value.category, false_implies, true_and, and_true, Bool.false_eq_true, Option.some.injEq, exists_eq_left', Option.toList_some, Option.toList_none, ev_km, ev_k2, ev_k3, ev_k4, ev_k5, ev_l0, ev_l1, sh_1, sh_2, sh_3, sh_4, sh_5, at_X11_lackingAfterFilling_9, ca_X11_177, ca_X11_313, ca_X11_319, ca_X11_407, ca_X11_433, cd_X11_lackingAfterFilling_0, cd_X11_lackingAfterFilling_9, no_0, no_1, no_lt, no_le, no_eq, no_lt0, no_ge0, no_gt0, no_le0, no_eq0, no_0eq, no_eqm, no_meq, no_m0, no_mlt, no_mge, no_mgt, no_mm, no_i01, no_i10, no_in, no_or, no_ifm, no_mul, nI_add, no_sub, pk_div, iI_if, nI_clamp, oI_n, oI_s, not_true_eq_false, not_false_eq_true, forall_const, true_implies, false_and, and_false, or_false, false_or, Classical.not_not, true_or, or_true, no_b, no_eq1, eq_self, and_self, sk_301, sk_302, sl_302, sp_301, thc_0, i3])
        | (with_reducible refine ev_gid ?_; simp (disch := first | omega | assumption) only [ev_run_c, ev_run_n, ev_fj, ev_stp, ev_lk, ev_fv, ev_as, ev_sz, ev_st1, ev_st2, ev_rm, ev_pk, ev_Jof, ev_go, lv_args, List.map_cons, List.map_nil, List.zip_cons_cons, List.zip_nil_left, List.zip_nil_right, List.nil_append, List.cons_append, ↓reduceIte, reduceCtorEq, Int.reduceToNat, Nat.reduceEqDiff, Nat.reduceAdd, Nat.reduceLT, Nat.reduceLeDiff, Nat.reduceMul, Value.category, false_implies, true_and, and_true, Bool.false_eq_true, Option.some.injEq, exists_eq_left', Option.toList_some, Option.toList_none, ev_km, ev_k2, ev_k3, ev_k4, ev_k5, ev_l0, ev_l1, sh_1, sh_2, sh_3, sh_4, sh_5, at_X11_lackingAfterFilling_9, ca_X11_177, ca_X11_313, ca_X11_319, ca_X11_407, ca_X11_433, cd_X11_lackingAfterFilling_0, cd_X11_lackingAfterFilling_9, no_0, no_1, no_lt, no_le, no_eq, no_lt0, no_ge0, no_gt0, no_le0, no_eq0, no_0eq, no_eqm, no_meq, no_m0, no_mlt, no_mge, no_mgt, no_mm, no_i01, no_i10, no_in, no_or, no_ifm, no_mul, nI_add, no_sub, pk_div, iI_if, nI_clamp, oI_n, oI_s, not_true_eq_false, not_false_eq_true, forall_const, true_implies, false_and, and_false, or_false, false_or, Classical.not_not, true_or, or_true, no_b, no_eq1, eq_self, and_self, sk_301, sk_302, sl_302, sp_301, thc_0, i3])
        | (with_reducible refine And.intro (fun q => ?_) (fun q => ?_) <;> (try simp (disch := first | omega | assumption) only [no_0, no_1, no_lt, no_le, no_eq, no_lt0, no_ge0, no_gt0, no_le0, no_eq0, no_0eq, no_eqm, no_meq, no_m0, no_mlt, no_mge, no_mgt, no_mm, no_i01, no_i10, no_in, no_or, no_ifm, no_mul, nI_add, no_sub, pk_div, iI_if, nI_clamp, oI_n, oI_s, not_true_eq_false, not_false_eq_true, forall_const, true_implies, false_and, and_false, or_false, false_or, Classical.not_not, true_or, or_true, no_b, no_eq1, eq_self, and_self, sk_301, sk_302, sl_302, sp_301, thc_0, i3] at q))
        | with_reducible refine ev_ci (m_X11_mayLook hok (by with_reducible assumption) ?_) ?_
        | with_reducible refine ev_ci (m_X11_thinks hok) ?_
        | with_reducible refine ev_ci (m_X11_fills hok (by first | with_reducible assumption | exact mw_R | exact ms_R) (by with_reducible assumption)) ?_
        | with_reducible refine ev_ci (m_X11_lacks hok (by first | with_reducible assumption | exact th_R (by with_reducible assumption) | exact mw_R | exact ms_R) (by with_reducible assumption)) ?_
        | with_reducible refine ev_ci (m_X11_back hok _) ?_
        | omega
        | with_reducible assumption
        | with_reducible rfl
        | with_reducible refine lp_nx ?_ ?_ ?_ ?_
        | with_reducible refine lp_st ?_ ?_ ?_
        | with_reducible refine ls_c ?_ ?_
        | with_reducible refine vi_c ?_
        | with_reducible refine re_c ?_
        | with_reducible refine vz_c ?_
        | with_reducible refine rz_c ?_
        | exact trivial
        | with_reducible refine And.intro ?_ ?_
        | simp (disch := first | omega | assumption) only [ev_run_c, ev_run_n, ev_fj, ev_stp, ev_lk, ev_fv, ev_as, ev_sz, ev_st1, ev_st2, ev_rm, ev_pk, ev_Jof, ev_go, lv_args, List.map_cons, List.map_nil, List.zip_cons_cons, List.zip_nil_left, List.zip_nil_right, List.nil_append, List.cons_append, ↓reduceIte, reduceCtorEq, Int.reduceToNat, Nat.reduceEqDiff, Nat.reduceAdd, Nat.reduceLT, Nat.reduceLeDiff, Nat.reduceMul, Value.category, false_implies, true_and, and_true, Bool.false_eq_true, Option.some.injEq, exists_eq_left', Option.toList_some, Option.toList_none, ev_km, ev_k2, ev_k3, ev_k4, ev_k5, ev_l0, ev_l1, sh_1, sh_2, sh_3, sh_4, sh_5, at_X11_lackingAfterFilling_9, ca_X11_177, ca_X11_313, ca_X11_319, ca_X11_407, ca_X11_433, cd_X11_lackingAfterFilling_0, cd_X11_lackingAfterFilling_9, no_0, no_1, no_lt, no_le, no_eq, no_lt0, no_ge0, no_gt0, no_le0, no_eq0, no_0eq, no_eqm, no_meq, no_m0, no_mlt, no_mge, no_mgt, no_mm, no_i01, no_i10, no_in, no_or, no_ifm, no_mul, nI_add, no_sub, pk_div, iI_if, nI_clamp, oI_n, oI_s, not_true_eq_false, not_false_eq_true, forall_const, true_implies, false_and, and_false, or_false, false_or, Classical.not_not, true_or, or_true, no_b, no_eq1, eq_self, and_self, sk_301, sk_302, sl_302, sp_301, thc_0, i3]
        | (split <;> omega))
    · refine bk_R (fun x hx => ?_)
      show (if 303 = 302 ∧ x < 1042 then nI (flN N x) else if 303 = 308 ∧ x < 10 then nI (flG N x) else (cpy (th μ 0) 302 0 303 0 1042).1 303 x) = nI (N x)
      rw [if_neg (by omega), if_neg (by omega)]
      exact cp_303 (th_R hN) x hx
    · exact Fm_tr Fm_th (Fm_tr (Fm_cp (Or.inr rfl)) (Fm_tr Fm_ms (Fm_cp (Or.inl rfl))))
    · rw [cpy_1 (by omega)]
      show (if 301 = 302 ∧ 0 < 1042 then nI (flN N 0) else if 301 = 308 ∧ 0 < 10 then nI (flG N 0) else (cpy (th μ 0) 302 0 303 0 1042).1 301 0) = _
      rw [if_neg (by omega), if_neg (by omega), cpy_1 (by omega), thc_0]
      exact th_0
/-- a row of which only scores differ -/
theorem INV_sc {N' : Nat → Nat} (hI : INV N) (h : ∀ k, k < 4 ∨ 8 ≤ k → (∀ i q, i < 16 → q < 10 → k ≠ 8 + 59 * i + (23 + q)) → N' k = N k) (h2 : ∀ i q, i < 16 → q < 10 → N' (8 + 59 * i + (23 + q)) ≤ 9 ∧ (N' (8 + 59 * i + (23 + q)) ≠ 0 → sP N q i < N (952 + 9 * q + 5))) : INV N' := by
  have hh := iv_h hI
  have hp : ∀ i w, i < 16 → w < 59 → (∀ q, q < 10 → w ≠ 23 + q) → N' (8 + 59 * i + w) = N (8 + 59 * i + w) := fun i w hi hw hn => h _ (by omega) (fun i' q' hi' hq' e => hn q' hq' (by omega))
  have hc : ∀ k, 952 ≤ k → N' k = N k := fun k hk => h _ (by omega) (fun i q hi hq => by omega)
  have e0 : N' 0 = N 0 := h 0 (by omega) (fun i q hi hq => by omega)
  have e1 : N' 1 = N 1 := h 1 (by omega) (fun i q hi hq => by omega)
  have e2 : N' 2 = N 2 := h 2 (by omega) (fun i q hi hq => by omega)
  have e3 : N' 3 = N 3 := h 3 (by omega) (fun i q hi hq => by omega)
  have esP : ∀ q i, sP N' q i = sP N q i := fun q i => by
    unfold sP
    rw [hc (952 + 9 * q + 5) (by omega)]
    exact fx_ext fun k _ => hc _ (by omega)
  have hlt : ∀ i q, i < 16 → q < 10 → N' (8 + 59 * i + (23 + q)) ≠ 0 → i < N 0 ∧ q < N 1 := fun i q hi hq hn => by
    have h3 := (h2 i q hi hq).2 hn
    obtain ⟨k, h4, h5⟩ := sd_iff.mp h3
    have h6 := iv_st hI q k hq h4
    refine ⟨by omega, ?_⟩
    rcases Nat.lt_or_ge q (N 1) with h7 | h7
    · exact h7
    · have := iv_z2 hI q 5 h7 hq (by omega)
      omega
  refine ⟨by rw [e0, e1, e2, e3]; exact hh, ?_, ?_, ?_, ?_, ?_, ?_, ?_, ?_, ?_, ?_, ?_, ?_, ?_, ?_, ?_⟩
  · intro k hk
    by_cases hs : ∃ i q, i < 16 ∧ q < 10 ∧ k = 8 + 59 * i + (23 + q)
    · obtain ⟨i, q, hi, hq, rfl⟩ := hs
      have := (h2 i q hi hq).1
      omega
    · rw [h k (Or.inr hk) (fun i q hi hq e => hs ⟨i, q, hi, hq, e⟩)]
      exact iv_b hI k hk
  · intro q hq; rw [hc _ (by omega), hc _ (by omega), hc _ (by omega)]; exact iv_q hI q hq
  · intro q k hq hk; rw [hc _ (by omega)] at hk; rw [hc _ (by omega), e0]; exact iv_ck hI q k hq hk
  · intro q k hq hk; rw [hc _ (by omega)] at hk; rw [hc _ (by omega), e0]; exact iv_st hI q k hq hk
  · intro q k l hq hkl hl; rw [hc _ (by omega)] at hl; rw [hc _ (by omega), hc _ (by omega)]; exact iv_di hI q k l hq hkl hl
  · intro i hi; rw [hp i 1 hi (by omega) (by omega), hp i 6 hi (by omega) (by omega)]; exact iv_p hI i hi
  · intro i t hi ht; rw [hp i (2 + t) hi (by omega) (by omega)]; exact iv_t hI i t hi ht
  · intro i q hi hq
    rw [hp i (13 + q) hi (by omega) (by omega), hp i (33 + q) hi (by omega) (by omega)]
    have h3 := iv_pq hI i q hi hq
    have h4 := (h2 i q hi hq).1
    omega
  · intro i j hi hj; rw [hp i (43 + j) hi (by omega) (by omega)]; exact iv_w hI i j hi hj
  · intro i w h3 hi hw
    rw [e0] at h3
    by_cases hs : ∃ q, q < 10 ∧ w = 23 + q
    · obtain ⟨q, hq, rfl⟩ := hs
      by_cases h4 : N' (8 + 59 * i + (23 + q)) = 0
      · exact h4
      · have := hlt i q hi hq h4
        omega
    · rw [hp i w hi hw (fun q hq e => hs ⟨q, hq, e⟩)]
      exact iv_z1 hI i w h3 hi hw
  · intro q w h3 hq hw; rw [e1] at h3; rw [hc _ (by omega)]; exact iv_z2 hI q w h3 hq hw
  · intro i q hi h3 hq
    rw [e1] at h3
    have h4 := iv_z3 hI i q hi h3 hq
    rw [hp i (13 + q) hi (by omega) (by omega), hp i (33 + q) hi (by omega) (by omega)]
    refine ⟨h4.1, ?_, h4.2.2⟩
    by_cases h5 : N' (8 + 59 * i + (23 + q)) = 0
    · exact h5
    · have := hlt i q hi hq h5
      omega
  · intro i q hi hq h3; rw [esP, hc _ (by omega)]; exact (h2 i q hi hq).2 h3
  · intro q k hq hk
    rw [hc _ (by omega)] at hk
    have h3 := iv_st hI q k hq hk
    rw [hc (952 + 9 * q + (6 + k)) (by omega), hp (N (952 + 9 * q + (6 + k))) 1 (by omega) (by omega) (by omega)]
    exact iv_ts hI q k hq hk
  · intro i k hi
    rw [e0] at hi
    have h3 := iv_p hI i (by omega)
    have h4 := iv_nm hI i k hi
    rw [hp i 6 (by omega) (by omega) (by omega)]
    refine ⟨h4.1, fun h5 => ?_⟩
    rw [hp i (7 + k) (by omega) (by omega) (by omega)]
    exact h4.2 h5
theorem tkv_ok {s m : Nat} (hs : s ≤ 9) (hm : m ≤ 9) : tkv s m ≤ 9 ∧ (tkv s m = 0 ↔ s = 0) := by
  unfold tkv
  (repeat' split) <;> omega
theorem tlN_at {q j : Nat} (h : j ≠ 6) (h2 : j ≠ 7) : tlN N q j = tkN N q (mid N q) (N 0) j := by unfold tlN; rw [up_ne h2, up_ne h]
theorem INV_tl (hI : INV N) {q : Nat} (hq : q < 10) : INV (tlN N q) := by
  refine INV_sc hI (fun k hk hn => ?_) (fun i q' hi hq' => ?_)
  · rw [tlN_at (by omega) (by omega)]
    exact tkN_ne (fun i hi => hn i q (by have := iv_h hI; omega) hq)
  · have h3 := iv_pq hI i q' hi hq'
    rw [tlN_at (by omega) (by omega)]
    by_cases h : q' = q
    · subst h
      rw [tkN_at]
      have h4 := tkv_ok h3.2.1 (mid_le N q')
      split
      · exact ⟨h4.1, fun h5 => iv_sc hI i q' hi hq' (fun h6 => h5 (h4.2.mpr h6))⟩
      · exact ⟨h3.2.1, fun h5 => iv_sc hI i q' hi hq' h5⟩
    · rw [tkN_ne (fun i' hi' => by omega)]
      exact ⟨h3.2.1, fun h5 => iv_sc hI i q' hi hq' h5⟩
set_option maxHeartbeats 1000000 in
theorem m_X11_spreadAfterTalk (hok : ev_ok sh_S G) (hN : MR N μ) (hI : INV N) {e : Nat} (he : μ.1 301 6 = nI e) (he2 : e < 2) (x : Int32) : ∃ μ', ev_T sh_S G mi_X11_spreadAfterTalk [.ref 301, .int x] μ (.inl (some (.int (v1 e (N 1) x (fun q => if scs N q (N 0) < 2 then iI (spd N q) else iI (spd (tlN N q) q)))), μ')) ∧ MR N μ' ∧ Fm μ μ' ∧ μ'.1 301 0 = nI (c1 e (N 1) x) := by
  have hh := iv_h hI
  rcases (show e = 0 ∨ e = 1 by omega) with rfl | rfl
  · refine ⟨th μ 1, ?_, th_R hN, Fm_th, by rw [c1_0]; exact th_0⟩
    rw [v1_0]
    refine ev_tri hok (okM_X11_spreadAfterTalk 0) (Nat.le_of_ble_eq_true rfl) 400 ?_
    rw [at_X11_spreadAfterTalk_0]
    repeat' (first
      | (with_reducible refine ev_rid ?_; simp (disch := first | omega | assumption) only [ev_run_c, ev_run_n, ev_fj, ev_stp, ev_lk, ev_fv, ev_as, ev_sz, ev_st1, ev_st2, ev_rm, ev_pk, ev_Jof, ev_go, lv_args, List.map_cons, List.map_nil, List.zip_cons_cons, List.zip_nil_left, List.zip_nil_right, List.nil_append, List.cons_append, ↓reduceIte, reduceCtorEq, Int.reduceToNat, Nat.reduceEqDiff, Nat.reduceAdd, Nat.reduceLT, Nat.reduceLeDiff, Nat.reduceMul, Value.category, false_implies, true_and, and_true, Bool.false_eq_true, Option.some.injEq, exists_eq_left', Option.toList_some, Option.toList_none, ev_km, ev_k2, ev_k3, ev_k4, ev_k5, ev_l0, ev_l1, sh_1, sh_2, sh_3, sh_4, sh_5, at_X11_spreadAfterTalk_10, at_X11_spreadAfterTalk_25, ca_X11_189, ca_X11_192, ca_X11_313, ca_X11_319, ca_X11_382, ca_X11_411, cd_X11_spreadAfterTalk_0, cd_X11_spreadAfterTalk_10, cd_X11_spreadAfterTalk_25, no_0, no_1, no_lt, no_le, no_eq, no_lt0, no_ge0, no_gt0, no_le0, no_eq0, no_0eq, no_eqm, no_meq, no_m0, no_mlt, no_mge, no_mgt, no_mm, no_i01, no_i10, no_in, no_or, no_ifm, no_mul, nI_add, no_sub, pk_div, iI_if, nI_clamp, oI_n, oI_s, not_true_eq_false, not_false_eq_true, forall_const, true_implies, false_and, and_false, or_false, false_or, Classical.not_not, true_or, or_true, no_b, no_eq1, eq_self, and_self, sk_301, sk_302, sl_302, sp_301, c1_0])
      | (with_reducible refine ev_gid ?_; simp (disch := first | omega | assumption) only [ev_run_c, ev_run_n, ev_fj, ev_stp, ev_lk, ev_fv, ev_as, ev_sz, ev_st1, ev_st2, ev_rm, ev_pk, ev_Jof, ev_go, lv_args, List.map_cons, List.map_nil, List.zip_cons_cons, List.zip_nil_left, List.zip_nil_right, List.nil_append, List.cons_append, ↓reduceIte, reduceCtorEq, Int.reduceToNat, Nat.reduceEqDiff, Nat.reduceAdd, Nat.reduceLT, Nat.reduceLeDiff, Nat.reduceMul, Value.category, false_implies, true_and, and_true, Bool.false_eq_true, Option.some.injEq, exists_eq_left', Option.toList_some, Option.toList_none, ev_km, ev_k2, ev_k3, ev_k4, ev_k5, ev_l0, ev_l1, sh_1, sh_2, sh_3, sh_4, sh_5, at_X11_spreadAfterTalk_10, at_X11_spreadAfterTalk_25, ca_X11_189, ca_X11_192, ca_X11_313, ca_X11_319, ca_X11_382, ca_X11_411, cd_X11_spreadAfterTalk_0, cd_X11_spreadAfterTalk_10, cd_X11_spreadAfterTalk_25, no_0, no_1, no_lt, no_le, no_eq, no_lt0, no_ge0, no_gt0, no_le0, no_eq0, no_0eq, no_eqm, no_meq, no_m0, no_mlt, no_mge, no_mgt, no_mm, no_i01, no_i10, no_in, no_or, no_ifm, no_mul, nI_add, no_sub, pk_div, iI_if, nI_clamp, oI_n, oI_s, not_true_eq_false, not_false_eq_true, forall_const, true_implies, false_and, and_false, or_false, false_or, Classical.not_not, true_or, or_true, no_b, no_eq1, eq_self, and_self, sk_301, sk_302, sl_302, sp_301, c1_0])
      | (with_reducible refine And.intro (fun q => ?_) (fun q => ?_) <;> (try simp (disch := first | omega | assumption) only [no_0, no_1, no_lt, no_le, no_eq, no_lt0, no_ge0, no_gt0, no_le0, no_eq0, no_0eq, no_eqm, no_meq, no_m0, no_mlt, no_mge, no_mgt, no_mm, no_i01, no_i10, no_in, no_or, no_ifm, no_mul, nI_add, no_sub, pk_div, iI_if, nI_clamp, oI_n, oI_s, not_true_eq_false, not_false_eq_true, forall_const, true_implies, false_and, and_false, or_false, false_or, Classical.not_not, true_or, or_true, no_b, no_eq1, eq_self, and_self, sk_301, sk_302, sl_302, sp_301, c1_0] at q))
      | with_reducible refine ev_ci (m_X11_mayPancake hok (by first | with_reducible assumption | exact th_R (by with_reducible assumption) | exact mw_R | exact ms_R) (by with_reducible assumption) ?_ ?_ _) ?_
      | with_reducible refine ev_ci (m_X11_scores hok (by first | with_reducible assumption | exact th_R (by with_reducible assumption) | exact mw_R | exact ms_R) (by with_reducible assumption) ?_) ?_
      | with_reducible refine ev_ci (m_X11_spread hok (by first | with_reducible assumption | exact th_R (by with_reducible assumption) | exact mw_R | exact ms_R) (by with_reducible assumption) ?_) ?_
      | with_reducible refine ev_ci (m_X11_thinks hok) ?_
      | with_reducible refine ev_ci (m_X11_talks hok (by first | with_reducible assumption | exact mw_R | exact ms_R) (by with_reducible assumption) ?_ ?_) ?_
      | with_reducible refine ev_ci (m_X11_back hok _) ?_
      | omega
      | with_reducible assumption
      | with_reducible rfl
      | with_reducible refine lp_nx ?_ ?_ ?_ ?_
      | with_reducible refine lp_st ?_ ?_ ?_
      | with_reducible refine ls_c ?_ ?_
      | with_reducible refine vi_c ?_
      | with_reducible refine re_c ?_
      | with_reducible refine vz_c ?_
      | with_reducible refine rz_c ?_
      | exact trivial
      | with_reducible refine And.intro ?_ ?_
      | simp (disch := first | omega | assumption) only [ev_run_c, ev_run_n, ev_fj, ev_stp, ev_lk, ev_fv, ev_as, ev_sz, ev_st1, ev_st2, ev_rm, ev_pk, ev_Jof, ev_go, lv_args, List.map_cons, List.map_nil, List.zip_cons_cons, List.zip_nil_left, List.zip_nil_right, List.nil_append, List.cons_append, ↓reduceIte, reduceCtorEq, Int.reduceToNat, Nat.reduceEqDiff, Nat.reduceAdd, Nat.reduceLT, Nat.reduceLeDiff, Nat.reduceMul, Value.category, false_implies, true_and, and_true, Bool.false_eq_true, Option.some.injEq, exists_eq_left', Option.toList_some, Option.toList_none, ev_km, ev_k2, ev_k3, ev_k4, ev_k5, ev_l0, ev_l1, sh_1, sh_2, sh_3, sh_4, sh_5, at_X11_spreadAfterTalk_10, at_X11_spreadAfterTalk_25, ca_X11_189, ca_X11_192, ca_X11_313, ca_X11_319, ca_X11_382, ca_X11_411, cd_X11_spreadAfterTalk_0, cd_X11_spreadAfterTalk_10, cd_X11_spreadAfterTalk_25, no_0, no_1, no_lt, no_le, no_eq, no_lt0, no_ge0, no_gt0, no_le0, no_eq0, no_0eq, no_eqm, no_meq, no_m0, no_mlt, no_mge, no_mgt, no_mm, no_i01, no_i10, no_in, no_or, no_ifm, no_mul, nI_add, no_sub, pk_div, iI_if, nI_clamp, oI_n, oI_s, not_true_eq_false, not_false_eq_true, forall_const, true_implies, false_and, and_false, or_false, false_or, Classical.not_not, true_or, or_true, no_b, no_eq1, eq_self, and_self, sk_301, sk_302, sl_302, sp_301, c1_0]
      | exact rfl
      | (split <;> omega))
  · cases h : rx (N 1) x with
    | none =>
      refine ⟨th μ 2, ?_, th_R hN, Fm_th, by rw [c1_n h]; exact th_0⟩
      rw [v1_n h]
      refine ev_tri hok (okM_X11_spreadAfterTalk 0) (Nat.le_of_ble_eq_true rfl) 400 ?_
      rw [at_X11_spreadAfterTalk_0]
      repeat' (first
        | (with_reducible refine ev_rid ?_; simp (disch := first | omega | assumption) only [ev_run_c, ev_run_n, ev_fj, ev_stp, ev_lk, ev_fv, ev_as, ev_sz, ev_st1, ev_st2, ev_rm, ev_pk, ev_Jof, ev_go, lv_args, List.map_cons, List.map_nil, List.zip_cons_cons, List.zip_nil_left, List.zip_nil_right, List.nil_append, List.cons_append, ↓reduceIte, reduceCtorEq, Int.reduceToNat, Nat.reduceEqDiff, Nat.reduceAdd, Nat.reduceLT, Nat.reduceLeDiff, Nat.reduceMul, Value.category, false_implies, true_and, and_true, Bool.false_eq_true, Option.some.injEq, exists_eq_left', Option.toList_some, Option.toList_none, ev_km, ev_k2, ev_k3, ev_k4, ev_k5, ev_l0, ev_l1, sh_1, sh_2, sh_3, sh_4, sh_5, at_X11_spreadAfterTalk_10, at_X11_spreadAfterTalk_25, ca_X11_189, ca_X11_192, ca_X11_313, ca_X11_319, ca_X11_382, ca_X11_411, cd_X11_spreadAfterTalk_0, cd_X11_spreadAfterTalk_10, cd_X11_spreadAfterTalk_25, no_0, no_1, no_lt, no_le, no_eq, no_lt0, no_ge0, no_gt0, no_le0, no_eq0, no_0eq, no_eqm, no_meq, no_m0, no_mlt, no_mge, no_mgt, no_mm, no_i01, no_i10, no_in, no_or, no_ifm, no_mul, nI_add, no_sub, pk_div, iI_if, nI_clamp, oI_n, oI_s, not_true_eq_false, not_false_eq_true, forall_const, true_implies, false_and, and_false, or_false, false_or, Classical.not_not, true_or, or_true, no_b, no_eq1, eq_self, and_self, sk_301, sk_302, sl_302, sp_301, c1_n h])
        | (with_reducible refine ev_gid ?_; simp (disch := first | omega | assumption) only [ev_run_c, ev_run_n, ev_fj, ev_stp, ev_lk, ev_fv, ev_as, ev_sz, ev_st1, ev_st2, ev_rm, ev_pk, ev_Jof, ev_go, lv_args, List.map_cons, List.map_nil, List.zip_cons_cons, List.zip_nil_left, List.zip_nil_right, List.nil_append, List.cons_append, ↓reduceIte, reduceCtorEq, Int.reduceToNat, Nat.reduceEqDiff, Nat.reduceAdd, Nat.reduceLT, Nat.reduceLeDiff, Nat.reduceMul, Value.category, false_implies, true_and, and_true, Bool.false_eq_true, Option.some.injEq, exists_eq_left', Option.toList_some, Option.toList_none, ev_km, ev_k2, ev_k3, ev_k4, ev_k5, ev_l0, ev_l1, sh_1, sh_2, sh_3, sh_4, sh_5, at_X11_spreadAfterTalk_10, at_X11_spreadAfterTalk_25, ca_X11_189, ca_X11_192, ca_X11_313, ca_X11_319, ca_X11_382, ca_X11_411, cd_X11_spreadAfterTalk_0, cd_X11_spreadAfterTalk_10, cd_X11_spreadAfterTalk_25, no_0, no_1, no_lt, no_le, no_eq, no_lt0, no_ge0, no_gt0, no_le0, no_eq0, no_0eq, no_eqm, no_meq, no_m0, no_mlt, no_mge, no_mgt, no_mm, no_i01, no_i10, no_in, no_or, no_ifm, no_mul, nI_add, no_sub, pk_div, iI_if, nI_clamp, oI_n, oI_s, not_true_eq_false, not_false_eq_true, forall_const, true_implies, false_and, and_false, or_false, false_or, Classical.not_not, true_or, or_true, no_b, no_eq1, eq_self, and_self, sk_301, sk_302, sl_302, sp_301, c1_n h])
        | (with_reducible refine And.intro (fun q => ?_) (fun q => ?_) <;> (try simp (disch := first | omega | assumption) only [no_0, no_1, no_lt, no_le, no_eq, no_lt0, no_ge0, no_gt0, no_le0, no_eq0, no_0eq, no_eqm, no_meq, no_m0, no_mlt, no_mge, no_mgt, no_mm, no_i01, no_i10, no_in, no_or, no_ifm, no_mul, nI_add, no_sub, pk_div, iI_if, nI_clamp, oI_n, oI_s, not_true_eq_false, not_false_eq_true, forall_const, true_implies, false_and, and_false, or_false, false_or, Classical.not_not, true_or, or_true, no_b, no_eq1, eq_self, and_self, sk_301, sk_302, sl_302, sp_301, c1_n h] at q))
        | with_reducible refine ev_ci (m_X11_mayPancake hok (by first | with_reducible assumption | exact th_R (by with_reducible assumption) | exact mw_R | exact ms_R) (by with_reducible assumption) ?_ ?_ _) ?_
        | with_reducible refine ev_ci (m_X11_scores hok (by first | with_reducible assumption | exact th_R (by with_reducible assumption) | exact mw_R | exact ms_R) (by with_reducible assumption) ?_) ?_
        | with_reducible refine ev_ci (m_X11_spread hok (by first | with_reducible assumption | exact th_R (by with_reducible assumption) | exact mw_R | exact ms_R) (by with_reducible assumption) ?_) ?_
        | with_reducible refine ev_ci (m_X11_thinks hok) ?_
        | with_reducible refine ev_ci (m_X11_talks hok (by first | with_reducible assumption | exact mw_R | exact ms_R) (by with_reducible assumption) ?_ ?_) ?_
        | with_reducible refine ev_ci (m_X11_back hok _) ?_
        | omega
        | with_reducible assumption
        | with_reducible rfl
        | with_reducible refine lp_nx ?_ ?_ ?_ ?_
        | with_reducible refine lp_st ?_ ?_ ?_
        | with_reducible refine ls_c ?_ ?_
        | with_reducible refine vi_c ?_
        | with_reducible refine re_c ?_
        | with_reducible refine vz_c ?_
        | with_reducible refine rz_c ?_
        | exact trivial
        | with_reducible refine And.intro ?_ ?_
        | simp (disch := first | omega | assumption) only [ev_run_c, ev_run_n, ev_fj, ev_stp, ev_lk, ev_fv, ev_as, ev_sz, ev_st1, ev_st2, ev_rm, ev_pk, ev_Jof, ev_go, lv_args, List.map_cons, List.map_nil, List.zip_cons_cons, List.zip_nil_left, List.zip_nil_right, List.nil_append, List.cons_append, ↓reduceIte, reduceCtorEq, Int.reduceToNat, Nat.reduceEqDiff, Nat.reduceAdd, Nat.reduceLT, Nat.reduceLeDiff, Nat.reduceMul, Value.category, false_implies, true_and, and_true, Bool.false_eq_true, Option.some.injEq, exists_eq_left', Option.toList_some, Option.toList_none, ev_km, ev_k2, ev_k3, ev_k4, ev_k5, ev_l0, ev_l1, sh_1, sh_2, sh_3, sh_4, sh_5, at_X11_spreadAfterTalk_10, at_X11_spreadAfterTalk_25, ca_X11_189, ca_X11_192, ca_X11_313, ca_X11_319, ca_X11_382, ca_X11_411, cd_X11_spreadAfterTalk_0, cd_X11_spreadAfterTalk_10, cd_X11_spreadAfterTalk_25, no_0, no_1, no_lt, no_le, no_eq, no_lt0, no_ge0, no_gt0, no_le0, no_eq0, no_0eq, no_eqm, no_meq, no_m0, no_mlt, no_mge, no_mgt, no_mm, no_i01, no_i10, no_in, no_or, no_ifm, no_mul, nI_add, no_sub, pk_div, iI_if, nI_clamp, oI_n, oI_s, not_true_eq_false, not_false_eq_true, forall_const, true_implies, false_and, and_false, or_false, false_or, Classical.not_not, true_or, or_true, no_b, no_eq1, eq_self, and_self, sk_301, sk_302, sl_302, sp_301, c1_n h]
        | exact rfl
        | (split <;> omega))
    | some q =>
      obtain ⟨hq, rfl⟩ := rx_s (by omega) h
      rw [v1_s h]
      have h5 := scs_le N q (N 0)
      by_cases h2 : scs N q (N 0) < 2
      · refine ⟨th μ 0, ?_, th_R hN, Fm_th, by rw [c1_s h]; exact th_0⟩
        rw [if_pos h2]
        refine ev_tri hok (okM_X11_spreadAfterTalk 0) (Nat.le_of_ble_eq_true rfl) 400 ?_
        rw [at_X11_spreadAfterTalk_0]
        repeat' (first
          | (with_reducible refine ev_rid ?_; simp (disch := first | omega | assumption) only [ev_run_c, ev_run_n, ev_fj, ev_stp, ev_lk, ev_fv, ev_as, ev_sz, ev_st1, ev_st2, ev_rm, ev_pk, ev_Jof, ev_go, lv_args, List.map_cons, List.map_nil, List.zip_cons_cons, List.zip_nil_left, List.zip_nil_right, List.nil_append, List.cons_append, ↓reduceIte, reduceCtorEq, Int.reduceToNat, Nat.reduceEqDiff, Nat.reduceAdd, Nat.reduceLT, Nat.reduceLeDiff, Nat.reduceMul, Value.category, false_implies, true_and, and_true, Bool.false_eq_true, Option.some.injEq, exists_eq_left', Option.toList_some, Option.toList_none, ev_km, ev_k2, ev_k3, ev_k4, ev_k5, ev_l0, ev_l1, sh_1, sh_2, sh_3, sh_4, sh_5, at_X11_spreadAfterTalk_10, at_X11_spreadAfterTalk_25, ca_X11_189, ca_X11_192, ca_X11_313, ca_X11_319, ca_X11_382, ca_X11_411, cd_X11_spreadAfterTalk_0, cd_X11_spreadAfterTalk_10, cd_X11_spreadAfterTalk_25, no_0, no_1, no_lt, no_le, no_eq, no_lt0, no_ge0, no_gt0, no_le0, no_eq0, no_0eq, no_eqm, no_meq, no_m0, no_mlt, no_mge, no_mgt, no_mm, no_i01, no_i10, no_in, no_or, no_ifm, no_mul, nI_add, no_sub, pk_div, iI_if, nI_clamp, oI_n, oI_s, not_true_eq_false, not_false_eq_true, forall_const, true_implies, false_and, and_false, or_false, false_or, Classical.not_not, true_or, or_true, no_b, no_eq1, eq_self, and_self, sk_301, sk_302, sl_302, sp_301, c1_s h])
          | (with_reducible refine ev_gid ?_; simp (disch := first | omega | assumption) only [ev_run_c, ev_run_n, ev_fj, ev_stp, ev_lk, ev_fv, ev_as, ev_sz, ev_st1, ev_st2, ev_rm, ev_pk, ev_Jof, ev_go, lv_args, List.map_cons, List.map_nil, List.zip_cons_cons, List.zip_nil_left, List.zip_nil_right, List.nil_append, List.cons_append, ↓reduceIte, reduceCtorEq, Int.reduceToNat, Nat.reduceEqDiff, Nat.reduceAdd, Nat.reduceLT, Nat.reduceLeDiff, Nat.reduceMul, Value.category, false_implies, true_and, and_true, Bool.false_eq_true, Option.some.injEq, exists_eq_left', Option.toList_some, Option.toList_none, ev_km, ev_k2, ev_k3, ev_k4, ev_k5, ev_l0, ev_l1, sh_1, sh_2, sh_3, sh_4, sh_5, at_X11_spreadAfterTalk_10, at_X11_spreadAfterTalk_25, ca_X11_189, ca_X11_192, ca_X11_313, ca_X11_319, ca_X11_382, ca_X11_411, cd_X11_spreadAfterTalk_0, cd_X11_spreadAfterTalk_10, cd_X11_spreadAfterTalk_25, no_0, no_1, no_lt, no_le, no_eq, no_lt0, no_ge0, no_gt0, no_le0, no_eq0, no_0eq, no_eqm, no_meq, no_m0, no_mlt, no_mge, no_mgt, no_mm, no_i01, no_i10, no_in, no_or, no_ifm, no_mul, nI_add, no_sub, pk_div, iI_if, nI_clamp, oI_n, oI_s, not_true_eq_false, not_false_eq_true, forall_const, true_implies, false_and, and_false, or_false, false_or, Classical.not_not, true_or, or_true, no_b, no_eq1, eq_self, and_self, sk_301, sk_302, sl_302, sp_301, c1_s h])
          | (with_reducible refine And.intro (fun q => ?_) (fun q => ?_) <;> (try simp (disch := first | omega | assumption) only [no_0, no_1, no_lt, no_le, no_eq, no_lt0, no_ge0, no_gt0, no_le0, no_eq0, no_0eq, no_eqm, no_meq, no_m0, no_mlt, no_mge, no_mgt, no_mm, no_i01, no_i10, no_in, no_or, no_ifm, no_mul, nI_add, no_sub, pk_div, iI_if, nI_clamp, oI_n, oI_s, not_true_eq_false, not_false_eq_true, forall_const, true_implies, false_and, and_false, or_false, false_or, Classical.not_not, true_or, or_true, no_b, no_eq1, eq_self, and_self, sk_301, sk_302, sl_302, sp_301, c1_s h] at q))
          | with_reducible refine ev_ci (m_X11_mayPancake hok (by first | with_reducible assumption | exact th_R (by with_reducible assumption) | exact mw_R | exact ms_R) (by with_reducible assumption) ?_ ?_ _) ?_
          | with_reducible refine ev_ci (m_X11_scores hok (by first | with_reducible assumption | exact th_R (by with_reducible assumption) | exact mw_R | exact ms_R) (by with_reducible assumption) ?_) ?_
          | with_reducible refine ev_ci (m_X11_spread hok (by first | with_reducible assumption | exact th_R (by with_reducible assumption) | exact mw_R | exact ms_R) (by with_reducible assumption) ?_) ?_
          | with_reducible refine ev_ci (m_X11_thinks hok) ?_
          | with_reducible refine ev_ci (m_X11_talks hok (by first | with_reducible assumption | exact mw_R | exact ms_R) (by with_reducible assumption) ?_ ?_) ?_
          | with_reducible refine ev_ci (m_X11_back hok _) ?_
          | omega
          | with_reducible assumption
          | with_reducible rfl
          | with_reducible refine lp_nx ?_ ?_ ?_ ?_
          | with_reducible refine lp_st ?_ ?_ ?_
          | with_reducible refine ls_c ?_ ?_
          | with_reducible refine vi_c ?_
          | with_reducible refine re_c ?_
          | with_reducible refine vz_c ?_
          | with_reducible refine rz_c ?_
          | exact trivial
          | with_reducible refine And.intro ?_ ?_
          | simp (disch := first | omega | assumption) only [ev_run_c, ev_run_n, ev_fj, ev_stp, ev_lk, ev_fv, ev_as, ev_sz, ev_st1, ev_st2, ev_rm, ev_pk, ev_Jof, ev_go, lv_args, List.map_cons, List.map_nil, List.zip_cons_cons, List.zip_nil_left, List.zip_nil_right, List.nil_append, List.cons_append, ↓reduceIte, reduceCtorEq, Int.reduceToNat, Nat.reduceEqDiff, Nat.reduceAdd, Nat.reduceLT, Nat.reduceLeDiff, Nat.reduceMul, Value.category, false_implies, true_and, and_true, Bool.false_eq_true, Option.some.injEq, exists_eq_left', Option.toList_some, Option.toList_none, ev_km, ev_k2, ev_k3, ev_k4, ev_k5, ev_l0, ev_l1, sh_1, sh_2, sh_3, sh_4, sh_5, at_X11_spreadAfterTalk_10, at_X11_spreadAfterTalk_25, ca_X11_189, ca_X11_192, ca_X11_313, ca_X11_319, ca_X11_382, ca_X11_411, cd_X11_spreadAfterTalk_0, cd_X11_spreadAfterTalk_10, cd_X11_spreadAfterTalk_25, no_0, no_1, no_lt, no_le, no_eq, no_lt0, no_ge0, no_gt0, no_le0, no_eq0, no_0eq, no_eqm, no_meq, no_m0, no_mlt, no_mge, no_mgt, no_mm, no_i01, no_i10, no_in, no_or, no_ifm, no_mul, nI_add, no_sub, pk_div, iI_if, nI_clamp, oI_n, oI_s, not_true_eq_false, not_false_eq_true, forall_const, true_implies, false_and, and_false, or_false, false_or, Classical.not_not, true_or, or_true, no_b, no_eq1, eq_self, and_self, sk_301, sk_302, sl_302, sp_301, c1_s h]
          | exact rfl
          | (split <;> omega))
      · have h1 : MR N (cpy (th μ 0) 302 0 303 0 1042) := cpy_R (by omega) (th_R hN)
        have h6 := INV_tl hI (q := q) (by omega)
        refine ⟨cpy (mw (cpy (th μ 0) 302 0 303 0 1042) (tlN N q)) 303 0 302 0 1042, ?_, ?_, ?_, ?_⟩
        · rw [if_neg h2]
          refine ev_tri hok (okM_X11_spreadAfterTalk 0) (Nat.le_of_ble_eq_true rfl) 400 ?_
          rw [at_X11_spreadAfterTalk_0]
          repeat' (first
            | (with_reducible refine ev_rid ?_; simp (disch := first | omega | assumption) only [ev_run_c, ev_run_n, ev_fj, ev_stp, ev_lk, ev_fv, ev_as, ev_sz, ev_st1, ev_st2, ev_rm, ev_pk, ev_Jof, ev_go, lv_args, List.map_cons, List.map_nil, List.zip_cons_cons, List.zip_nil_left, List.zip_nil_right, List.nil_append, List.cons_append, ↓reduceIte, reduceCtorEq, Int.reduceToNat, Nat.reduceEqDiff, Nat.reduceAdd, Nat.reduceLT, Nat.reduceLeDiff, Nat.reduceMul, Value.category, false_implies, true_and, and_true, Bool.false_eq_true, Option.some.injEq, exists_eq_left', Option.toList_some, Option.toList_none, ev_km, ev_k2, ev_k3, ev_k4, ev_k5, ev_l0, ev_l1, sh_1, sh_2, sh_3, sh_4, sh_5, at_X11_spreadAfterTalk_10, at_X11_spreadAfterTalk_25, ca_X11_189, ca_X11_192, ca_X11_313, ca_X11_319, ca_X11_382, ca_X11_411, cd_X11_spreadAfterTalk_0, cd_X11_spreadAfterTalk_10, cd_X11_spreadAfterTalk_25, no_0, no_1, no_lt, no_le, no_eq, no_lt0, no_ge0, no_gt0, no_le0, no_eq0, no_0eq, no_eqm, no_meq, no_m0, no_mlt, no_mge, no_mgt, no_mm, no_i01, no_i10, no_in, no_or, no_ifm, no_mul, nI_add, no_sub, pk_div, iI_if, nI_clamp, oI_n, oI_s, not_true_eq_false, not_false_eq_true, forall_const, true_implies, false_and, and_false, or_false, false_or, Classical.not_not, true_or, or_true, no_b, no_eq1, eq_self, and_self, sk_301, sk_302, sl_302, sp_301, c1_s h])
            | (with_reducible refine ev_gid ?_; simp (disch := first | omega | assumption) only [ev_run_c, ev_run_n, ev_fj, ev_stp, ev_lk, ev_fv, ev_as, ev_sz, ev_st1, ev_st2, ev_rm, ev_pk, ev_Jof, ev_go, lv_args, List.map_cons, List.map_nil, List.zip_cons_cons, List.zip_nil_left, List.zip_nil_right, List.nil_append, List.cons_append, ↓reduceIte, reduceCtorEq, Int.reduceToNat, Nat.reduceEqDiff, Nat.reduceAdd, Nat.reduceLT, Nat.reduceLeDiff, Nat.reduceMul, Value.category, false_implies, true_and, and_true, Bool.false_eq_true, Option.some.injEq, exists_eq_left', Option.toList_some, Option.toList_none, ev_km, ev_k2, ev_k3, ev_k4, ev_k5, ev_l0, ev_l1, sh_1, sh_2, sh_3, sh_4, sh_5, at_X11_spreadAfterTalk_10, at_X11_spreadAfterTalk_25, ca_X11_189, ca_X11_192, ca_X11_313, ca_X11_319, ca_X11_382, ca_X11_411, cd_X11_spreadAfterTalk_0, cd_X11_spreadAfterTalk_10, cd_X11_spreadAfterTalk_25, no_0, no_1, no_lt, no_le, no_eq, no_lt0, no_ge0, no_gt0, no_le0, no_eq0, no_0eq, no_eqm, no_meq, no_m0, no_mlt, no_mge, no_mgt, no_mm, no_i01, no_i10, no_in, no_or, no_ifm, no_mul, nI_add, no_sub, pk_div, iI_if, nI_clamp, oI_n, oI_s, not_true_eq_false, not_false_eq_true, forall_const, true_implies, false_and, and_false, or_false, false_or, Classical.not_not, true_or, or_true, no_b, no_eq1, eq_self, and_self, sk_301, sk_302, sl_302, sp_301, c1_s h])
            | (with_reducible refine And.intro (fun q => ?_) (fun q => ?_) <;> (try simp (disch := first | omega | assumption) only [no_0, no_1, no_lt, no_le, no_eq, no_lt0, no_ge0, no_gt0, no_le0, no_eq0, no_0eq, no_eqm, no_meq, no_m0, no_mlt, no_mge, no_mgt, no_mm, no_i01, no_i10, no_in, no_or, no_ifm, no_mul, nI_add, no_sub, pk_div, iI_if, nI_clamp, oI_n, oI_s, not_true_eq_false, not_false_eq_true, forall_const, true_implies, false_and, and_false, or_false, false_or, Classical.not_not, true_or, or_true, no_b, no_eq1, eq_self, and_self, sk_301, sk_302, sl_302, sp_301, c1_s h] at q))
            | with_reducible refine ev_ci (m_X11_mayPancake hok (by first | with_reducible assumption | exact th_R (by with_reducible assumption) | exact mw_R | exact ms_R) (by with_reducible assumption) ?_ ?_ _) ?_
            | with_reducible refine ev_ci (m_X11_scores hok (by first | with_reducible assumption | exact th_R (by with_reducible assumption) | exact mw_R | exact ms_R) (by with_reducible assumption) ?_) ?_
            | with_reducible refine ev_ci (m_X11_spread hok (by first | with_reducible assumption | exact th_R (by with_reducible assumption) | exact mw_R | exact ms_R) (by with_reducible assumption) ?_) ?_
            | with_reducible refine ev_ci (m_X11_thinks hok) ?_
            | with_reducible refine ev_ci (m_X11_talks hok (by first | with_reducible assumption | exact mw_R | exact ms_R) (by with_reducible assumption) ?_ ?_) ?_
            | with_reducible refine ev_ci (m_X11_back hok _) ?_
            | omega
            | with_reducible assumption
            | with_reducible rfl
            | with_reducible refine lp_nx ?_ ?_ ?_ ?_
            | with_reducible refine lp_st ?_ ?_ ?_
            | with_reducible refine ls_c ?_ ?_
            | with_reducible refine vi_c ?_
            | with_reducible refine re_c ?_
            | with_reducible refine vz_c ?_
            | with_reducible refine rz_c ?_
            | exact trivial
            | with_reducible refine And.intro ?_ ?_
            | simp (disch := first | omega | assumption) only [ev_run_c, ev_run_n, ev_fj, ev_stp, ev_lk, ev_fv, ev_as, ev_sz, ev_st1, ev_st2, ev_rm, ev_pk, ev_Jof, ev_go, lv_args, List.map_cons, List.map_nil, List.zip_cons_cons, List.zip_nil_left, List.zip_nil_right, List.nil_append, List.cons_append, ↓reduceIte, reduceCtorEq, Int.reduceToNat, Nat.reduceEqDiff, Nat.reduceAdd, Nat.reduceLT, Nat.reduceLeDiff, Nat.reduceMul, Value.category, false_implies, true_and, and_true, Bool.false_eq_true, Option.some.injEq, exists_eq_left', Option.toList_some, Option.toList_none, ev_km, ev_k2, ev_k3, ev_k4, ev_k5, ev_l0, ev_l1, sh_1, sh_2, sh_3, sh_4, sh_5, at_X11_spreadAfterTalk_10, at_X11_spreadAfterTalk_25, ca_X11_189, ca_X11_192, ca_X11_313, ca_X11_319, ca_X11_382, ca_X11_411, cd_X11_spreadAfterTalk_0, cd_X11_spreadAfterTalk_10, cd_X11_spreadAfterTalk_25, no_0, no_1, no_lt, no_le, no_eq, no_lt0, no_ge0, no_gt0, no_le0, no_eq0, no_0eq, no_eqm, no_meq, no_m0, no_mlt, no_mge, no_mgt, no_mm, no_i01, no_i10, no_in, no_or, no_ifm, no_mul, nI_add, no_sub, pk_div, iI_if, nI_clamp, oI_n, oI_s, not_true_eq_false, not_false_eq_true, forall_const, true_implies, false_and, and_false, or_false, false_or, Classical.not_not, true_or, or_true, no_b, no_eq1, eq_self, and_self, sk_301, sk_302, sl_302, sp_301, c1_s h]
            | (split <;> omega))
        · refine bk_R (fun x hx => ?_)
          rw [mw_1 (by omega)]
          exact cp_303 (th_R hN) x hx
        · exact Fm_tr Fm_th (Fm_tr (Fm_cp (Or.inr rfl)) (Fm_tr Fm_mw (Fm_cp (Or.inl rfl))))
        · rw [cpy_1 (by omega), mw_1 (by omega), cpy_1 (by omega), c1_s h]
          exact th_0
end MState
