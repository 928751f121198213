/-! ===== the class reads a text, as the reference does; parseSetup ===== -/
section XSetup
variable {G : ev_G} {N : Nat → Nat} {B : Nat → Nat} {n m p : Nat} {μ μ' : ev_M} {σ : ev_A}
set_option maxHeartbeats 1000000 in
theorem m_parseZ (hok : ev_ok sh_S G) (hkw : KW G) (hn : n ≤ 500) (hB0 : ∀ j, j < n → μ.1 2 j = nI (B j)) (hB : ∀ j, B j < 256) : ∃ m, m ≤ n ∧ tkd B n m = 0 ∧ (∀ k, k < m → tkd B n k ≠ 0) ∧ ∀ k, k + 1 < 1000000 → (∀ j, j < k → (itr B n j (s0 B n)).e.1 = 0 ∧ ¬ AC B n (itr B n j (s0 B n)) ∧ INI B n (itr B n j (s0 B n))) → ((itr B n k (s0 B n)).e.1 = 0 → AC B n (itr B n k (s0 B n))) →
    ∃ μ', ev_T sh_S G mi_X7_parse [.ref 5, .ref 1, .int (nI n)] μ (.inl (some (.int (nI (if (itr B n k (s0 B n)).e.1 = 0 then 1 else 0))), μ')) ∧ Fz μ μ' ∧ SR B n m (itr B n k (s0 B n)) μ' ∧ μ'.1 6 0 = nI 0 := by
  have hK := pk_5
  have hcl := m_X4_clear (μ := μ) hok sh_6
  obtain ⟨m, hm1, hm2, hm3, hsp⟩ := m_X9_split (μ := x_clP 6 μ) (B := B) hok hn (fun j hj => (clP_n (by omega)).trans (hB0 j hj)) hB
  refine ⟨m, hm1, hm2, hm3, fun k hk hj hE => ?_⟩
  have hT0 : TT B n m (w1 (tkM B n (m + 1) n (x_clP 6 μ)) 5 6 (nI 0)) := by
    refine ⟨Nat.le_trans hm1 hn, hm2, hB, fun k hk => ⟨?_, ?_, ?_⟩⟩
    · rw [w9_n (Or.inl (by decide))]; exact tkz_29 (Nat.lt_succ_of_le hk)
    · rw [w9_n (Or.inl (by decide))]; exact tkz_30 (Nat.lt_succ_of_le hk)
    · exact tkz_31 (c := n) (Nat.lt_succ_of_le hk)
  have hk28 : ∀ (b k : Nat), b < 28 → (tkM B n (m + 1) n (x_clP 6 μ)).1 b k = (x_clP 6 μ).1 b k := fun b k h => by
    show (if b = 29 ∧ k < m + 1 then _ else if b = 30 ∧ k < m + 1 then _ else if b = 28 ∧ k = 3 then _ else if b = 28 ∧ k = 4 then _ else (x_clP 6 μ).1 b k) = _
    rw [if_neg (by omega), if_neg (by omega), if_neg (by omega), if_neg (by omega)]
  have hk34 : ∀ (b k : Nat), 34 ≤ b → (tkM B n (m + 1) n (x_clP 6 μ)).1 b k = (x_clP 6 μ).1 b k := fun b k h => by
    show (if b = 29 ∧ k < m + 1 then _ else if b = 30 ∧ k < m + 1 then _ else if b = 28 ∧ k = 3 then _ else if b = 28 ∧ k = 4 then _ else (x_clP 6 μ).1 b k) = _
    rw [if_neg (by omega), if_neg (by omega), if_neg (by omega), if_neg (by omega)]
  have hP0 : PR 6 (fun _ => 0) (w1 (tkM B n (m + 1) n (x_clP 6 μ)) 5 6 (nI 0)) := PR_fr (PR_cl (p := 6) (μ := μ)) (fun a k h1 h2 => (w9_n (Or.inl (by omega))).trans (hk28 a k (by omega))) (fun k => tkz_l (c := n) (by omega))
  obtain ⟨μ1, hh, hF, f1, f2, f5, fz⟩ := m_readHead hok hkw hT0 rfl hP0 (fun _ _ => Nat.zero_le _) (Nat.zero_le _) (Nat.zero_le _)
  have hS : SR B n m (s0 B n) μ1 := ⟨TT_q hT0 (Fm9_s hF), f1, f2, f5, Nat.zero_le _, fun z => by
    have hd := hd_ok hT0 z
    exact ⟨hd.1, (fz z).1, INV_hd hd.2.2.1 hd.2.2.2, (fz z).2, hd.2.1, hF.2.2.2.1.trans w9_e, Nat.zero_le _, fun r hr => absurd hr (Nat.not_lt_zero r)⟩⟩
  obtain ⟨μ', hF', hS', hL⟩ := ps_loop hok hkw (L := n) k (s0 B n) μ1 0 hS (by omega) hj hE
  have e0 : w1 (w1 (w1 (w1 (tkM B n (m + 1) n (x_clP 6 μ)) 5 1 (nI 0)) 5 2 (-1)) 5 6 (nI 0)) 5 7 (nI 0) = pe (0, -1) 0 (w1 (tkM B n (m + 1) n (x_clP 6 μ)) 5 6 (nI 0)) := by
    refine Prod.ext (funext fun b => funext fun k => ?_) rfl
    rw [pe_at]
    show (if b = 5 ∧ k = 7 then nI 0 else if b = 5 ∧ k = 6 then nI 0 else if b = 5 ∧ k = 2 then (-1 : Int32) else if b = 5 ∧ k = 1 then nI 0 else (tkM B n (m + 1) n (x_clP 6 μ)).1 b k) = if b = 5 ∧ k = 7 then nI 0 else if b = 5 ∧ k = 2 then (-1 : Int32) else if b = 5 ∧ k = 1 then nI 0 else (if b = 5 ∧ k = 6 then nI 0 else (tkM B n (m + 1) n (x_clP 6 μ)).1 b k)
    by_cases c7 : b = 5 ∧ k = 7
    · rw [if_pos c7, if_pos c7]
    · rw [if_neg c7, if_neg c7]
      by_cases c6 : b = 5 ∧ k = 6
      · rw [if_pos c6, if_neg (by omega), if_neg (by omega), if_pos c6]
      · rw [if_neg c6, if_neg c6]
  have e1 : ((ev_up (ev_up (ev_up (ev_up (tkM B n (m + 1) n (x_clP 6 μ)).1 5 1 (nI 0)) 5 2 (-1)) 5 6 (nI 0)) 5 7 (nI 0), (tkM B n (m + 1) n (x_clP 6 μ)).2) : ev_M) = pe (0, -1) 0 (w1 (tkM B n (m + 1) n (x_clP 6 μ)) 5 6 (nI 0)) := e0
  rw [← e1] at hh
  refine ⟨μ', LT_T hok okM_X7_parse (Nat.le_of_ble_eq_true rfl) ?_, ?_, hS', hF'.2.2.2.1.trans (hF.2.2.2.2.trans ((w9_n (Or.inl (by omega))).trans ((hk28 6 0 (by omega)).trans clP_0)))⟩
  · refine LT_go1 (n := 400) okM_X7_parse hL ?_
    rw [show ev_at cd_X7_parse 0 = cd_X7_parse_0 from rfl]
    repeat' (first
      | (with_reducible refine ev_rid ?_; simp (disch := first | omega | assumption) only [ev_run_c, ev_run_n, ev_fj, ev_stp, ev_lk, ev_fv, ev_as, ev_sz, ev_st1, ev_st2, ev_rm, ev_pk, ev_Jof, ev_go, lv_args, List.map_cons, List.map_nil, List.zip_cons_cons, List.zip_nil_left, List.zip_nil_right, List.nil_append, List.cons_append, ↓reduceIte, reduceCtorEq, Int.reduceToNat, Nat.reduceEqDiff, Nat.reduceAdd, Nat.reduceLT, Nat.reduceLeDiff, Nat.reduceMul, Nat.reduceSub, Value.category, false_implies, true_and, and_true, Bool.false_eq_true, Option.some.injEq, exists_eq_left', Option.toList_some, Option.toList_none, ev_km, ev_k2, ev_k3, ev_k4, ev_k5, ev_l0, ev_l1, sh_1, sh_2, sh_3, sh_4, sh_5, at_X7_parse_105, at_X7_parse_126, at_X7_parse_140, at_X7_parse_149, at_X7_parse_155, at_X7_parse_45, at_X7_parse_84, ca_X7_36, ca_X7_39, ca_X7_52, ca_X7_56, ca_X7_60, ca_X7_64, ca_X7_67, cd_X7_parse_0, cd_X7_parse_105, cd_X7_parse_126, cd_X7_parse_140, cd_X7_parse_149, cd_X7_parse_155, cd_X7_parse_45, cd_X7_parse_84, fl_X7_12, fl_X7_18, fl_X7_25, fl_X7_43, fl_X7_46, fl_X7_49, ko_X7_55, no_0, no_1, no_lt, no_le, no_eq, no_lt0, no_ge0, no_gt0, no_le0, no_eq0, no_0eq, no_eqm, no_meq, no_m0, no_mlt, no_mge, no_mgt, no_mm, no_i01, no_i10, no_in, no_or, no_ifm, no_mul, nI_add, no_sub, pk_div, iI_if, nI_clamp, oI_n, oI_s, not_true_eq_false, not_false_eq_true, forall_const, true_implies, false_and, and_false, or_false, false_or, Classical.not_not, true_or, or_true, no_b, no_eq1, eq_self, and_self, no_on, hK])
      | (with_reducible refine ev_gid ?_; simp (disch := first | omega | assumption) only [ev_run_c, ev_run_n, ev_fj, ev_stp, ev_lk, ev_fv, ev_as, ev_sz, ev_st1, ev_st2, ev_rm, ev_pk, ev_Jof, ev_go, lv_args, List.map_cons, List.map_nil, List.zip_cons_cons, List.zip_nil_left, List.zip_nil_right, List.nil_append, List.cons_append, ↓reduceIte, reduceCtorEq, Int.reduceToNat, Nat.reduceEqDiff, Nat.reduceAdd, Nat.reduceLT, Nat.reduceLeDiff, Nat.reduceMul, Nat.reduceSub, Value.category, false_implies, true_and, and_true, Bool.false_eq_true, Option.some.injEq, exists_eq_left', Option.toList_some, Option.toList_none, ev_km, ev_k2, ev_k3, ev_k4, ev_k5, ev_l0, ev_l1, sh_1, sh_2, sh_3, sh_4, sh_5, at_X7_parse_105, at_X7_parse_126, at_X7_parse_140, at_X7_parse_149, at_X7_parse_155, at_X7_parse_45, at_X7_parse_84, ca_X7_36, ca_X7_39, ca_X7_52, ca_X7_56, ca_X7_60, ca_X7_64, ca_X7_67, cd_X7_parse_0, cd_X7_parse_105, cd_X7_parse_126, cd_X7_parse_140, cd_X7_parse_149, cd_X7_parse_155, cd_X7_parse_45, cd_X7_parse_84, fl_X7_12, fl_X7_18, fl_X7_25, fl_X7_43, fl_X7_46, fl_X7_49, ko_X7_55, no_0, no_1, no_lt, no_le, no_eq, no_lt0, no_ge0, no_gt0, no_le0, no_eq0, no_0eq, no_eqm, no_meq, no_m0, no_mlt, no_mge, no_mgt, no_mm, no_i01, no_i10, no_in, no_or, no_ifm, no_mul, nI_add, no_sub, pk_div, iI_if, nI_clamp, oI_n, oI_s, not_true_eq_false, not_false_eq_true, forall_const, true_implies, false_and, and_false, or_false, false_or, Classical.not_not, true_or, or_true, no_b, no_eq1, eq_self, and_self, no_on, hK])
      | (with_reducible refine And.intro (fun q => ?_) (fun q => ?_) <;> (try simp (disch := first | omega | assumption) only [no_0, no_1, no_lt, no_le, no_eq, no_lt0, no_ge0, no_gt0, no_le0, no_eq0, no_0eq, no_eqm, no_meq, no_m0, no_mlt, no_mge, no_mgt, no_mm, no_i01, no_i10, no_in, no_or, no_ifm, no_mul, nI_add, no_sub, pk_div, iI_if, nI_clamp, oI_n, oI_s, not_true_eq_false, not_false_eq_true, forall_const, true_implies, false_and, and_false, or_false, false_or, Classical.not_not, true_or, or_true, no_b, no_eq1, eq_self, and_self, no_on, hK] at q))
      | (with_reducible refine ev_ci hcl ?_)
      | (with_reducible refine ev_ci hsp ?_)
      | (with_reducible refine ev_ci hh ?_)
      | with_reducible refine ev_ci (m_fail_n hok (by assumption) ?_ _ _) ?_
      | omega
      | with_reducible assumption
      | with_reducible rfl
      | (refine Nat.lt_of_lt_of_le ?_ (Nat.le_refl 312); omega)
      | with_reducible refine lp_nx ?_ ?_ ?_ ?_
      | with_reducible refine lp_st ?_ ?_ ?_
      | with_reducible refine ls_c ?_ ?_
      | with_reducible refine vi_c ?_
      | with_reducible refine re_c ?_
      | with_reducible refine vz_c ?_
      | with_reducible refine rz_c ?_
      | exact trivial
      | with_reducible refine And.intro ?_ ?_
      | simp (disch := first | omega | assumption) only [ev_run_c, ev_run_n, ev_fj, ev_stp, ev_lk, ev_fv, ev_as, ev_sz, ev_st1, ev_st2, ev_rm, ev_pk, ev_Jof, ev_go, lv_args, List.map_cons, List.map_nil, List.zip_cons_cons, List.zip_nil_left, List.zip_nil_right, List.nil_append, List.cons_append, ↓reduceIte, reduceCtorEq, Int.reduceToNat, Nat.reduceEqDiff, Nat.reduceAdd, Nat.reduceLT, Nat.reduceLeDiff, Nat.reduceMul, Nat.reduceSub, Value.category, false_implies, true_and, and_true, Bool.false_eq_true, Option.some.injEq, exists_eq_left', Option.toList_some, Option.toList_none, ev_km, ev_k2, ev_k3, ev_k4, ev_k5, ev_l0, ev_l1, sh_1, sh_2, sh_3, sh_4, sh_5, at_X7_parse_105, at_X7_parse_126, at_X7_parse_140, at_X7_parse_149, at_X7_parse_155, at_X7_parse_45, at_X7_parse_84, ca_X7_36, ca_X7_39, ca_X7_52, ca_X7_56, ca_X7_60, ca_X7_64, ca_X7_67, cd_X7_parse_0, cd_X7_parse_105, cd_X7_parse_126, cd_X7_parse_140, cd_X7_parse_149, cd_X7_parse_155, cd_X7_parse_45, cd_X7_parse_84, fl_X7_12, fl_X7_18, fl_X7_25, fl_X7_43, fl_X7_46, fl_X7_49, ko_X7_55, no_0, no_1, no_lt, no_le, no_eq, no_lt0, no_ge0, no_gt0, no_le0, no_eq0, no_0eq, no_eqm, no_meq, no_m0, no_mlt, no_mge, no_mgt, no_mm, no_i01, no_i10, no_in, no_or, no_ifm, no_mul, nI_add, no_sub, pk_div, iI_if, nI_clamp, oI_n, oI_s, not_true_eq_false, not_false_eq_true, forall_const, true_implies, false_and, and_false, or_false, false_or, Classical.not_not, true_or, or_true, no_b, no_eq1, eq_self, and_self, no_on, hK]
      | exact rfl
      | (split <;> omega))
  · refine ⟨fun b k hb => ?_, fun b k h7 h31 => ?_, ?_⟩
    · rw [hF'.1 b k hb, hF.1 b k (by omega), w9_n (Or.inl (by omega))]
      rcases hb with hb | hb
      · rw [hk28 b k (by omega)]; exact clP_n (by omega)
      · rw [hk34 b k hb]; exact clP_n (by omega)
    · rw [hF'.2.1 b k h7, hF.2.1 b k h7]
      exact (tkz_l (c := n) h31).trans (clP_l (p := 6) (by omega))
    · rw [hF'.2.2.1, hF.2.2.1]
      exact clP_2 (p := 6)
/-- the class reads a text -/
theorem m_parseE (hok : ev_ok sh_S G) (hkw : KW G) (hn : n ≤ 500) (hB0 : ∀ j, j < n → μ.1 2 j = nI (B j)) (hB : ∀ j, B j < 256) {k : Nat} {t : PS} (hP : PE B n k t) : ∃ μ', ev_T sh_S G mi_X7_parse [.ref 5, .ref 1, .int (nI n)] μ (.inl (some (.int (nI (if t.e.1 = 0 then 1 else 0))), μ')) ∧ Fz μ μ' ∧ μ'.1 6 0 = nI 0 ∧ μ'.1 5 1 = nI t.e.1 ∧ μ'.1 5 2 = t.e.2 ∧ (t.e.1 = 0 → t.e = (0, -1) ∧ PR 6 t.Q μ' ∧ INV t.Q) := by
  obtain ⟨m, h1, h2, h3, h4⟩ := m_parseZ (μ := μ) hok hkw hn hB0 hB
  obtain ⟨p1, p2, p3, p4⟩ := hP
  have hz : ∀ j, j < k → (q_head B n).1 = 0 := fun j hj => (p1.2 0 (by omega)).1
  obtain ⟨μ', g1, g2, g3, g4⟩ := h4 k p4 (fun j hj => ⟨(p1.2 j hj).1, (p1.2 j hj).2, INI_all k (s0 B n) (by
      have h5 := rN_0 (hz j hj)
      have h6 := nmc_0 h5.2.1
      have h7 := nmc_0 (rN_0 h5.1).2.1
      exact INV_hd (by omega) (by omega)) (fun i hi => (p1.2 i hi).1) j hj⟩) (fun z => by rw [p1.1] at z ⊢; exact (p3 z).1)
  rw [p1.1] at g1 g3
  exact ⟨μ', g1, g2, g4, g3.2.1, g3.2.2.1, fun z => ⟨(g3.2.2.2.2.2 z).1, (g3.2.2.2.2.2 z).2.1, (p3 z).2.1⟩⟩
/-- a panel's row doesn't tell whether it is loaded -/
theorem PR_fr0 (h : PR p N μ) (h1 : ∀ a k, p ≤ a → a < p + 22 → ¬ (a = p ∧ k = 0) → μ'.1 a k = μ.1 a k) (h2 : ∀ k, μ'.2.1 (p + 1) k = μ.2.1 (p + 1) k) : PR p N μ' := by
  have hh := pr_h h
  have hs := pr_sh h
  refine ⟨⟨?_, ?_, ?_, ?_, ?_, ?_⟩, fun i hi => ?_, fun i hi => ?_, fun i hi => ?_, fun q hq => ?_, fun i t hi ht => ?_, fun i j hi hj => ?_, fun i q hi hq => ?_, fun i q hi hq => ?_, ⟨fun q hq => ?_, fun q k hq hk => ?_⟩, ⟨fun q hq => ?_, fun q k hq hk => ?_⟩, ⟨?_, ?_, ?_, ?_⟩, fun i q hi hq => ?_⟩
  · exact (h1 _ _ (by omega) (by omega) (by omega)).trans (hh.1)
  · exact (h1 _ _ (by omega) (by omega) (by omega)).trans (hh.2.1)
  · exact (h1 _ _ (by omega) (by omega) (by omega)).trans (hh.2.2.1)
  · exact (h1 _ _ (by omega) (by omega) (by omega)).trans (hh.2.2.2.1)
  · exact (h1 _ _ (by omega) (by omega) (by omega)).trans (hh.2.2.2.2.1)
  · exact (h1 _ _ (by omega) (by omega) (by omega)).trans (hh.2.2.2.2.2)
  · exact (h2 _).trans (pr_nm h i hi)
  · exact (h1 _ _ (by omega) (by omega) (by omega)).trans (pr_ki h i hi)
  · exact (h1 _ _ (by omega) (by omega) (by omega)).trans (pr_li h i hi)
  · exact (h1 _ _ (by omega) (by omega) (by omega)).trans (pr_to h q hq)
  · exact (h1 _ _ (by omega) (by omega) (by omega)).trans (pr_ta h i t hi ht)
  · exact (h1 _ _ (by omega) (by omega) (by omega)).trans (pr_tg h i j hi hj)
  · exact (h1 _ _ (by omega) (by omega) (by omega)).trans (pr_bi h i q hi hq)
  · exact (h1 _ _ (by omega) (by omega) (by omega)).trans (pr_de h i q hi hq)
  · exact (h1 _ _ (by omega) (by omega) (by omega)).trans (pr_cn h q hq)
  · exact (h1 _ _ (by omega) (by omega) (by omega)).trans (pr_cm h q k hq hk)
  · exact (h1 _ _ (by omega) (by omega) (by omega)).trans (pr_sn h q hq)
  · exact (h1 _ _ (by omega) (by omega) (by omega)).trans (pr_sm h q k hq hk)
  · exact (h1 _ _ (by omega) (by omega) (by omega)).trans (hs.1)
  · exact (h1 _ _ (by omega) (by omega) (by omega)).trans (hs.2.1)
  · exact (h1 _ _ (by omega) (by omega) (by omega)).trans (hs.2.2.1)
  · exact (h1 _ _ (by omega) (by omega) (by omega)).trans (hs.2.2.2)
  · exact (h1 _ _ (by omega) (by omega) (by omega)).trans (pr_sc h i q hi hq)
/-- what a setup makes of a state -/
def stE (σ : ev_A) (t : PS) : ev_A := if t.e.1 = 0 then (t.Q, 1, aH σ, 0, aV σ, fun _ => 0, aB σ, 0, 0, -1, aG σ, aGn σ) else (aN σ, aE σ, aH σ, aK σ, aV σ, aS σ, aB σ, 0, t.e.1, t.e.2, aG σ, aGn σ)
/-- parseSetup: thrown, answer, state -/
def s_parse (σ : ev_A) (t : PS) (x : Int32) : Nat × Int32 × ev_A := match rx (aBn σ + 1) x with
  | none => (1, nI 0, σ)
  | some _ => (if t.e.1 = 0 then 0 else 2, if t.e.1 = 0 then nI (t.Q 1) else nI 0, stE σ t)
theorem OKA_parse (hA : OKA σ) {k n : Nat} {t : PS} (hP : PE B n k t) (x : Int32) : OKA (s_parse σ t x).2.2 := by
  obtain ⟨h1, h2, h3, h4, h5, h6, h7, h8, h9, h10, h11⟩ := hA
  unfold s_parse
  cases rx (aBn σ + 1) x with
  | none => exact ⟨h1, h2, h3, h4, h5, h6, h7, h8, h9, h10, h11⟩
  | some j =>
    show OKA (stE σ t)
    unfold stE
    by_cases z : t.e.1 = 0
    · rw [if_pos z]
      exact ⟨(hP.2.2.1 z).2.1, (show (1 : Nat) < 2 by decide), Nat.zero_le _, fun i hi => absurd hi (Nat.not_lt_zero i), fun _ _ => Nat.zero_lt_succ 1, fun s _ hs => absurd (show (0 : Nat) = 1 from hs) (by decide), Nat.zero_le _, h8, Nat.zero_lt_succ 4, h10, h11⟩
    · rw [if_neg z]
      exact ⟨h1, h2, h3, h4, h5, h6, Nat.zero_le _, h8, hP.2.1, h10, h11⟩
/-- what throws, by its number -/
theorem hq_5' : sh_pt 0 5 = 78 := hq_5
set_option maxRecDepth 20000 in
set_option maxHeartbeats 2000000 in
theorem x_X10_parseSetup (hok : ev_ok sh_S G) (hkw : KW G) (h : XS σ μ) (hA : OKA σ) (x : Int32) {k : Nat} {t : PS} (hP : ∀ j, rx (aBn σ + 1) x = some j → PE (aB σ) j k t) : ∃ μ', ev_T sh_S G mi_X10_parseSetup [.ref 0, .int x] μ (if (s_parse σ t x).1 = 0 then .inl (some (.int (s_parse σ t x).2.1), μ') else .inr (if (s_parse σ t x).1 = 1 then "java/lang/IndexOutOfBoundsException" else "java/lang/IllegalArgumentException", μ')) ∧ XS (s_parse σ t x).2.2 μ' ∧ Fc μ μ' := by
  have hb5 : aBn σ ≤ 500 := hA.2.2.2.2.2.2.1
  have hs := h.2.2.2.1.1
  unfold s_parse
  cases hr : rx (aBn σ + 1) x with
  | none =>
    refine ⟨μ, ?_, h, Fc_rf⟩
    show ev_T _ _ _ _ _ (.inr ("java/lang/IndexOutOfBoundsException", μ))
    rcases rx_or hr with g | g
    · refine ev_tri hok okM_X10_parseSetup (Nat.le_of_ble_eq_true rfl) 400 ?_
      rw [at_X10_parseSetup_0]
      repeat' (first
        | (with_reducible refine ev_rid ?_; simp (disch := first | omega | assumption) only [ev_run_c, ev_run_n, ev_fj, ev_stp, ev_lk, ev_fv, ev_as, ev_sz, ev_st1, ev_st2, ev_rm, ev_pk, ev_Jof, ev_go, lv_args, List.map_cons, List.map_nil, List.zip_cons_cons, List.zip_nil_left, List.zip_nil_right, List.nil_append, List.cons_append, ↓reduceIte, reduceCtorEq, Int.reduceToNat, Nat.reduceEqDiff, Nat.reduceAdd, Nat.reduceLT, Nat.reduceLeDiff, Nat.reduceMul, Nat.reduceSub, Value.category, false_implies, true_and, and_true, Bool.false_eq_true, Option.some.injEq, exists_eq_left', Option.toList_some, Option.toList_none, ev_km, ev_k2, ev_k3, ev_k4, ev_k5, ev_l0, ev_l1, sh_1, sh_2, sh_3, sh_4, sh_5, at_X10_parseSetup_115, at_X10_parseSetup_15, at_X10_parseSetup_25, at_X10_parseSetup_59, at_X10_parseSetup_90, ca_X10_63, ca_X10_67, ca_X10_76, ca_X10_84, cd_X10_parseSetup_0, cd_X10_parseSetup_115, cd_X10_parseSetup_15, cd_X10_parseSetup_25, cd_X10_parseSetup_59, cd_X10_parseSetup_90, fl_X10_14, fl_X10_24, fl_X10_31, fl_X10_41, fl_X10_45, fl_X10_49, fl_X10_75, fl_X10_80, fl_X10_87, th_X10_56, th_X10_70, no_0, no_1, no_lt, no_le, no_eq, no_lt0, no_ge0, no_gt0, no_le0, no_eq0, no_0eq, no_eqm, no_meq, no_m0, no_mlt, no_mge, no_mgt, no_mm, no_i01, no_i10, no_in, no_or, no_ifm, no_mul, nI_add, no_sub, pk_div, iI_if, nI_clamp, oI_n, oI_s, not_true_eq_false, not_false_eq_true, forall_const, true_implies, false_and, and_false, or_false, false_or, Classical.not_not, true_or, or_true, no_b, no_eq1, eq_self, and_self, no_on, sk_0, hq_0, hs_1, hs, g])
        | (with_reducible refine ev_gid ?_; simp (disch := first | omega | assumption) only [ev_run_c, ev_run_n, ev_fj, ev_stp, ev_lk, ev_fv, ev_as, ev_sz, ev_st1, ev_st2, ev_rm, ev_pk, ev_Jof, ev_go, lv_args, List.map_cons, List.map_nil, List.zip_cons_cons, List.zip_nil_left, List.zip_nil_right, List.nil_append, List.cons_append, ↓reduceIte, reduceCtorEq, Int.reduceToNat, Nat.reduceEqDiff, Nat.reduceAdd, Nat.reduceLT, Nat.reduceLeDiff, Nat.reduceMul, Nat.reduceSub, Value.category, false_implies, true_and, and_true, Bool.false_eq_true, Option.some.injEq, exists_eq_left', Option.toList_some, Option.toList_none, ev_km, ev_k2, ev_k3, ev_k4, ev_k5, ev_l0, ev_l1, sh_1, sh_2, sh_3, sh_4, sh_5, at_X10_parseSetup_115, at_X10_parseSetup_15, at_X10_parseSetup_25, at_X10_parseSetup_59, at_X10_parseSetup_90, ca_X10_63, ca_X10_67, ca_X10_76, ca_X10_84, cd_X10_parseSetup_0, cd_X10_parseSetup_115, cd_X10_parseSetup_15, cd_X10_parseSetup_25, cd_X10_parseSetup_59, cd_X10_parseSetup_90, fl_X10_14, fl_X10_24, fl_X10_31, fl_X10_41, fl_X10_45, fl_X10_49, fl_X10_75, fl_X10_80, fl_X10_87, th_X10_56, th_X10_70, no_0, no_1, no_lt, no_le, no_eq, no_lt0, no_ge0, no_gt0, no_le0, no_eq0, no_0eq, no_eqm, no_meq, no_m0, no_mlt, no_mge, no_mgt, no_mm, no_i01, no_i10, no_in, no_or, no_ifm, no_mul, nI_add, no_sub, pk_div, iI_if, nI_clamp, oI_n, oI_s, not_true_eq_false, not_false_eq_true, forall_const, true_implies, false_and, and_false, or_false, false_or, Classical.not_not, true_or, or_true, no_b, no_eq1, eq_self, and_self, no_on, sk_0, hq_0, hs_1, hs, g])
        | (with_reducible refine And.intro (fun q => ?_) (fun q => ?_) <;> (try simp (disch := first | omega | assumption) only [no_0, no_1, no_lt, no_le, no_eq, no_lt0, no_ge0, no_gt0, no_le0, no_eq0, no_0eq, no_eqm, no_meq, no_m0, no_mlt, no_mge, no_mgt, no_mm, no_i01, no_i10, no_in, no_or, no_ifm, no_mul, nI_add, no_sub, pk_div, iI_if, nI_clamp, oI_n, oI_s, not_true_eq_false, not_false_eq_true, forall_const, true_implies, false_and, and_false, or_false, false_or, Classical.not_not, true_or, or_true, no_b, no_eq1, eq_self, and_self, no_on, sk_0, hq_0, hs_1, hs, g] at q))
        | omega
        | with_reducible assumption
        | with_reducible rfl
        | (refine Nat.lt_of_lt_of_le ?_ (Nat.le_refl 312); omega)
        | with_reducible refine lp_nx ?_ ?_ ?_ ?_
        | with_reducible refine lp_st ?_ ?_ ?_
        | with_reducible refine ls_c ?_ ?_
        | with_reducible refine vi_c ?_
        | with_reducible refine re_c ?_
        | with_reducible refine vz_c ?_
        | with_reducible refine rz_c ?_
        | exact trivial
        | with_reducible refine And.intro ?_ ?_
        | simp (disch := first | omega | assumption) only [ev_run_c, ev_run_n, ev_fj, ev_stp, ev_lk, ev_fv, ev_as, ev_sz, ev_st1, ev_st2, ev_rm, ev_pk, ev_Jof, ev_go, lv_args, List.map_cons, List.map_nil, List.zip_cons_cons, List.zip_nil_left, List.zip_nil_right, List.nil_append, List.cons_append, ↓reduceIte, reduceCtorEq, Int.reduceToNat, Nat.reduceEqDiff, Nat.reduceAdd, Nat.reduceLT, Nat.reduceLeDiff, Nat.reduceMul, Nat.reduceSub, Value.category, false_implies, true_and, and_true, Bool.false_eq_true, Option.some.injEq, exists_eq_left', Option.toList_some, Option.toList_none, ev_km, ev_k2, ev_k3, ev_k4, ev_k5, ev_l0, ev_l1, sh_1, sh_2, sh_3, sh_4, sh_5, at_X10_parseSetup_115, at_X10_parseSetup_15, at_X10_parseSetup_25, at_X10_parseSetup_59, at_X10_parseSetup_90, ca_X10_63, ca_X10_67, ca_X10_76, ca_X10_84, cd_X10_parseSetup_0, cd_X10_parseSetup_115, cd_X10_parseSetup_15, cd_X10_parseSetup_25, cd_X10_parseSetup_59, cd_X10_parseSetup_90, fl_X10_14, fl_X10_24, fl_X10_31, fl_X10_41, fl_X10_45, fl_X10_49, fl_X10_75, fl_X10_80, fl_X10_87, th_X10_56, th_X10_70, no_0, no_1, no_lt, no_le, no_eq, no_lt0, no_ge0, no_gt0, no_le0, no_eq0, no_0eq, no_eqm, no_meq, no_m0, no_mlt, no_mge, no_mgt, no_mm, no_i01, no_i10, no_in, no_or, no_ifm, no_mul, nI_add, no_sub, pk_div, iI_if, nI_clamp, oI_n, oI_s, not_true_eq_false, not_false_eq_true, forall_const, true_implies, false_and, and_false, or_false, false_or, Classical.not_not, true_or, or_true, no_b, no_eq1, eq_self, and_self, no_on, sk_0, hq_0, hs_1, hs, g]
        | exact rfl
        | (split <;> omega))
    · have g9 : ¬ x ≤ nI (aBn σ) := fun q => by
        have q2 : nI (aBn σ + 1) ≤ x := g
        have q3 := Int32.le_iff_toInt_le.mp q2
        have q4 := Int32.le_iff_toInt_le.mp q
        rw [nI_toInt (by omega)] at q3 q4
        omega
      have g8 : (x ≤ nI (aBn σ)) = False := eq_false g9
      refine ev_tri hok okM_X10_parseSetup (Nat.le_of_ble_eq_true rfl) 400 ?_
      rw [at_X10_parseSetup_0]
      repeat' (first
        | (with_reducible refine ev_rid ?_; simp (disch := first | omega | assumption) only [ev_run_c, ev_run_n, ev_fj, ev_stp, ev_lk, ev_fv, ev_as, ev_sz, ev_st1, ev_st2, ev_rm, ev_pk, ev_Jof, ev_go, lv_args, List.map_cons, List.map_nil, List.zip_cons_cons, List.zip_nil_left, List.zip_nil_right, List.nil_append, List.cons_append, ↓reduceIte, reduceCtorEq, Int.reduceToNat, Nat.reduceEqDiff, Nat.reduceAdd, Nat.reduceLT, Nat.reduceLeDiff, Nat.reduceMul, Nat.reduceSub, Value.category, false_implies, true_and, and_true, Bool.false_eq_true, Option.some.injEq, exists_eq_left', Option.toList_some, Option.toList_none, ev_km, ev_k2, ev_k3, ev_k4, ev_k5, ev_l0, ev_l1, sh_1, sh_2, sh_3, sh_4, sh_5, at_X10_parseSetup_115, at_X10_parseSetup_15, at_X10_parseSetup_25, at_X10_parseSetup_59, at_X10_parseSetup_90, ca_X10_63, ca_X10_67, ca_X10_76, ca_X10_84, cd_X10_parseSetup_0, cd_X10_parseSetup_115, cd_X10_parseSetup_15, cd_X10_parseSetup_25, cd_X10_parseSetup_59, cd_X10_parseSetup_90, fl_X10_14, fl_X10_24, fl_X10_31, fl_X10_41, fl_X10_45, fl_X10_49, fl_X10_75, fl_X10_80, fl_X10_87, th_X10_56, th_X10_70, no_0, no_1, no_lt, no_le, no_eq, no_lt0, no_ge0, no_gt0, no_le0, no_eq0, no_0eq, no_eqm, no_meq, no_m0, no_mlt, no_mge, no_mgt, no_mm, no_i01, no_i10, no_in, no_or, no_ifm, no_mul, nI_add, no_sub, pk_div, iI_if, nI_clamp, oI_n, oI_s, not_true_eq_false, not_false_eq_true, forall_const, true_implies, false_and, and_false, or_false, false_or, Classical.not_not, true_or, or_true, no_b, no_eq1, eq_self, and_self, no_on, sk_0, hq_0, hs_1, hs, g8])
        | (with_reducible refine ev_gid ?_; simp (disch := first | omega | assumption) only [ev_run_c, ev_run_n, ev_fj, ev_stp, ev_lk, ev_fv, ev_as, ev_sz, ev_st1, ev_st2, ev_rm, ev_pk, ev_Jof, ev_go, lv_args, List.map_cons, List.map_nil, List.zip_cons_cons, List.zip_nil_left, List.zip_nil_right, List.nil_append, List.cons_append, ↓reduceIte, reduceCtorEq, Int.reduceToNat, Nat.reduceEqDiff, Nat.reduceAdd, Nat.reduceLT, Nat.reduceLeDiff, Nat.reduceMul, Nat.reduceSub, Value.category, false_implies, true_and, and_true, Bool.false_eq_true, Option.some.injEq, exists_eq_left', Option.toList_some, Option.toList_none, ev_km, ev_k2, ev_k3, ev_k4, ev_k5, ev_l0, ev_l1, sh_1, sh_2, sh_3, sh_4, sh_5, at_X10_parseSetup_115, at_X10_parseSetup_15, at_X10_parseSetup_25, at_X10_parseSetup_59, at_X10_parseSetup_90, ca_X10_63, ca_X10_67, ca_X10_76, ca_X10_84, cd_X10_parseSetup_0, cd_X10_parseSetup_115, cd_X10_parseSetup_15, cd_X10_parseSetup_25, cd_X10_parseSetup_59, cd_X10_parseSetup_90, fl_X10_14, fl_X10_24, fl_X10_31, fl_X10_41, fl_X10_45, fl_X10_49, fl_X10_75, fl_X10_80, fl_X10_87, th_X10_56, th_X10_70, no_0, no_1, no_lt, no_le, no_eq, no_lt0, no_ge0, no_gt0, no_le0, no_eq0, no_0eq, no_eqm, no_meq, no_m0, no_mlt, no_mge, no_mgt, no_mm, no_i01, no_i10, no_in, no_or, no_ifm, no_mul, nI_add, no_sub, pk_div, iI_if, nI_clamp, oI_n, oI_s, not_true_eq_false, not_false_eq_true, forall_const, true_implies, false_and, and_false, or_false, false_or, Classical.not_not, true_or, or_true, no_b, no_eq1, eq_self, and_self, no_on, sk_0, hq_0, hs_1, hs, g8])
        | (with_reducible refine And.intro (fun q => ?_) (fun q => ?_) <;> (try simp (disch := first | omega | assumption) only [no_0, no_1, no_lt, no_le, no_eq, no_lt0, no_ge0, no_gt0, no_le0, no_eq0, no_0eq, no_eqm, no_meq, no_m0, no_mlt, no_mge, no_mgt, no_mm, no_i01, no_i10, no_in, no_or, no_ifm, no_mul, nI_add, no_sub, pk_div, iI_if, nI_clamp, oI_n, oI_s, not_true_eq_false, not_false_eq_true, forall_const, true_implies, false_and, and_false, or_false, false_or, Classical.not_not, true_or, or_true, no_b, no_eq1, eq_self, and_self, no_on, sk_0, hq_0, hs_1, hs, g8] at q))
        | omega
        | with_reducible assumption
        | with_reducible rfl
        | (refine Nat.lt_of_lt_of_le ?_ (Nat.le_refl 312); omega)
        | with_reducible refine lp_nx ?_ ?_ ?_ ?_
        | with_reducible refine lp_st ?_ ?_ ?_
        | with_reducible refine ls_c ?_ ?_
        | with_reducible refine vi_c ?_
        | with_reducible refine re_c ?_
        | with_reducible refine vz_c ?_
        | with_reducible refine rz_c ?_
        | exact trivial
        | with_reducible refine And.intro ?_ ?_
        | simp (disch := first | omega | assumption) only [ev_run_c, ev_run_n, ev_fj, ev_stp, ev_lk, ev_fv, ev_as, ev_sz, ev_st1, ev_st2, ev_rm, ev_pk, ev_Jof, ev_go, lv_args, List.map_cons, List.map_nil, List.zip_cons_cons, List.zip_nil_left, List.zip_nil_right, List.nil_append, List.cons_append, ↓reduceIte, reduceCtorEq, Int.reduceToNat, Nat.reduceEqDiff, Nat.reduceAdd, Nat.reduceLT, Nat.reduceLeDiff, Nat.reduceMul, Nat.reduceSub, Value.category, false_implies, true_and, and_true, Bool.false_eq_true, Option.some.injEq, exists_eq_left', Option.toList_some, Option.toList_none, ev_km, ev_k2, ev_k3, ev_k4, ev_k5, ev_l0, ev_l1, sh_1, sh_2, sh_3, sh_4, sh_5, at_X10_parseSetup_115, at_X10_parseSetup_15, at_X10_parseSetup_25, at_X10_parseSetup_59, at_X10_parseSetup_90, ca_X10_63, ca_X10_67, ca_X10_76, ca_X10_84, cd_X10_parseSetup_0, cd_X10_parseSetup_115, cd_X10_parseSetup_15, cd_X10_parseSetup_25, cd_X10_parseSetup_59, cd_X10_parseSetup_90, fl_X10_14, fl_X10_24, fl_X10_31, fl_X10_41, fl_X10_45, fl_X10_49, fl_X10_75, fl_X10_80, fl_X10_87, th_X10_56, th_X10_70, no_0, no_1, no_lt, no_le, no_eq, no_lt0, no_ge0, no_gt0, no_le0, no_eq0, no_0eq, no_eqm, no_meq, no_m0, no_mlt, no_mge, no_mgt, no_mm, no_i01, no_i10, no_in, no_or, no_ifm, no_mul, nI_add, no_sub, pk_div, iI_if, nI_clamp, oI_n, oI_s, not_true_eq_false, not_false_eq_true, forall_const, true_implies, false_and, and_false, or_false, false_or, Classical.not_not, true_or, or_true, no_b, no_eq1, eq_self, and_self, no_on, sk_0, hq_0, hs_1, hs, g8]
        | exact rfl
        | (split <;> omega))
  | some j =>
    obtain ⟨hj, e6⟩ := rx_s (by omega) hr
    subst e6
    have hPj := hP j hr
    obtain ⟨μ1, m1, m2, m3, m4, m5, m6⟩ := m_parseE (μ := μ) hok hkw (by omega) (fun i hi => h.2.2.2.1.2 i (by omega)) hA.2.2.2.2.2.2.2.1 hPj
    have hE := m_X1_empty (μ := μ1) hok OW_1
    obtain ⟨⟨x1, x2⟩, ⟨x3, x4, x5, x6, x7⟩, x8, x9⟩ := id h
    have za : ∀ a y, (a = 3 ∨ a = 4 ∨ 34 ≤ a) → (owr 1 [] μ1).1 a y = μ.1 a y := fun a y ha => (owr_n (by omega) (by omega)).trans (m2.1 a y (by omega))
    have zl : ∀ a y, a ≠ 7 → a ≠ 31 → (owr 1 [] μ1).2.1 a y = μ.2.1 a y := fun a y h7 h31 => m2.2.1 a y h7 h31
    have zr : (owr 1 [] μ1).2.2 = μ.2.2 := m2.2.2
    have z6 : (owr 1 [] μ1).1 6 0 = nI 0 := (owr_n (by omega) (by omega)).trans m3
    have z51 : (owr 1 [] μ1).1 5 1 = nI t.e.1 := (owr_n (by omega) (by omega)).trans m4
    have z52 : (owr 1 [] μ1).1 5 2 = t.e.2 := (owr_n (by omega) (by omega)).trans m5
    have z11 : (owr 1 [] μ1).1 1 1 = nI 0 := owr_s
    have jle : j ≤ aBn σ := by omega
    by_cases z : t.e.1 = 0
    · obtain ⟨n1, n2, n3⟩ := m6 z
      rw [if_pos z] at m1
      have n2 : PR 6 t.Q (owr 1 [] μ1) := PR_fr n2 (fun a k ha hk => owr_n (by omega) (by omega)) (fun k => rfl)
      generalize owr 1 [] μ1 = M at hE za zl zr z6 z51 z52 z11 n2
      have ec := m_X4_copyFrom (μ := M) hok sh_34 sh_6 (by omega) (Or.inl z6)
      have hf := fun (μ : ev_M) => m_X2_forget (μ := μ) hok
      have hPn : PR 34 t.Q (x_cpP 6 34 M) := PR_cp (by omega) n2 n3
      have e4 : (x_cpP 6 34 M).1 34 4 = nI (t.Q 1) := (pr_h hPn).2.2.2.1
      have ev0 : μ.2.2 256 0 = 257 := (x8 0 (by omega)).1
      have ev1 : μ.2.2 256 1 = 279 := (x8 1 (by omega)).1
      have er : (x_cpP 6 34 M).2.2 = μ.2.2 := cpP_2.trans zr
      have eu0 : (w1 (w1 (x_cpP 6 34 M) 34 0 (nI 1)) 78 2 (nI 0)).2.2 256 0 = 257 := by rw [show (w1 (w1 (x_cpP 6 34 M) 34 0 (nI 1)) 78 2 (nI 0)).2.2 = μ.2.2 from er]; exact ev0
      have eu1 : (w1 (w1 (w1 (x_cpP 6 34 M) 34 0 (nI 1)) 78 2 (nI 0)) 257 0 (nI 0)).2.2 256 1 = 279 := by rw [show (w1 (w1 (w1 (x_cpP 6 34 M) 34 0 (nI 1)) 78 2 (nI 0)) 257 0 (nI 0)).2.2 = μ.2.2 from er]; exact ev1
      have e9 : (w1 (w1 (w1 (w1 (x_cpP 6 34 M) 34 0 (nI 1)) 78 2 (nI 0)) 257 0 (nI 0)) 279 0 (nI 0)).1 34 4 = nI (t.Q 1) := by rw [w1_n (by omega), w1_n (by omega), w1_n (by omega), w1_n (by omega)]; exact e4
      have k34 : sh_kd 34 = 2 := by decide +kernel
      have k257 : sh_kd 257 = 2 := by decide +kernel
      have k279 : sh_kd 279 = 2 := by decide +kernel
      have p53 : sh_pt 5 0 = 6 := pk_5.2.1
      refine ⟨w1 (w1 (w1 (w1 (x_cpP 6 34 M) 34 0 (nI 1)) 78 2 (nI 0)) 257 0 (nI 0)) 279 0 (nI 0), ?_, ?_, ?_⟩
      · show ev_T _ _ _ _ _ (if (if t.e.1 = 0 then 0 else 2) = 0 then .inl (some (.int (if t.e.1 = 0 then nI (t.Q 1) else nI 0)), _) else _)
        rw [if_pos z, if_pos z, if_pos rfl]
        refine ev_tri hok okM_X10_parseSetup (Nat.le_of_ble_eq_true rfl) 400 ?_
        rw [at_X10_parseSetup_0]
        repeat' (first
          | (with_reducible refine ev_rid ?_; simp (disch := first | omega | assumption) only [ev_run_c, ev_run_n, ev_fj, ev_stp, ev_lk, ev_fv, ev_as, ev_sz, ev_st1, ev_st2, ev_rm, ev_pk, ev_Jof, ev_go, lv_args, List.map_cons, List.map_nil, List.zip_cons_cons, List.zip_nil_left, List.zip_nil_right, List.nil_append, List.cons_append, ↓reduceIte, reduceCtorEq, Int.reduceToNat, Nat.reduceEqDiff, Nat.reduceAdd, Nat.reduceLT, Nat.reduceLeDiff, Nat.reduceMul, Nat.reduceSub, Value.category, false_implies, true_and, and_true, Bool.false_eq_true, Option.some.injEq, exists_eq_left', Option.toList_some, Option.toList_none, ev_km, ev_k2, ev_k3, ev_k4, ev_k5, ev_l0, ev_l1, sh_1, sh_2, sh_3, sh_4, sh_5, at_X10_parseSetup_115, at_X10_parseSetup_15, at_X10_parseSetup_25, at_X10_parseSetup_59, at_X10_parseSetup_90, ca_X10_63, ca_X10_67, ca_X10_76, ca_X10_84, cd_X10_parseSetup_0, cd_X10_parseSetup_115, cd_X10_parseSetup_15, cd_X10_parseSetup_25, cd_X10_parseSetup_59, cd_X10_parseSetup_90, fl_X10_14, fl_X10_24, fl_X10_31, fl_X10_41, fl_X10_45, fl_X10_49, fl_X10_75, fl_X10_80, fl_X10_87, th_X10_56, th_X10_70, no_0, no_1, no_lt, no_le, no_eq, no_lt0, no_ge0, no_gt0, no_le0, no_eq0, no_0eq, no_eqm, no_meq, no_m0, no_mlt, no_mge, no_mgt, no_mm, no_i01, no_i10, no_in, no_or, no_ifm, no_mul, nI_add, no_sub, pk_div, iI_if, nI_clamp, oI_n, oI_s, not_true_eq_false, not_false_eq_true, forall_const, true_implies, false_and, and_false, or_false, false_or, Classical.not_not, true_or, or_true, no_b, no_eq1, eq_self, and_self, no_on, sk_0, hq_0, hq_2, hq_3, hq_5, hq_6, hs_1, hs_5, hs_256, hl_256, hs, p53, k34, k257, k279, e9, eu0, eu1, w1_d])
          | (with_reducible refine ev_gid ?_; simp (disch := first | omega | assumption) only [ev_run_c, ev_run_n, ev_fj, ev_stp, ev_lk, ev_fv, ev_as, ev_sz, ev_st1, ev_st2, ev_rm, ev_pk, ev_Jof, ev_go, lv_args, List.map_cons, List.map_nil, List.zip_cons_cons, List.zip_nil_left, List.zip_nil_right, List.nil_append, List.cons_append, ↓reduceIte, reduceCtorEq, Int.reduceToNat, Nat.reduceEqDiff, Nat.reduceAdd, Nat.reduceLT, Nat.reduceLeDiff, Nat.reduceMul, Nat.reduceSub, Value.category, false_implies, true_and, and_true, Bool.false_eq_true, Option.some.injEq, exists_eq_left', Option.toList_some, Option.toList_none, ev_km, ev_k2, ev_k3, ev_k4, ev_k5, ev_l0, ev_l1, sh_1, sh_2, sh_3, sh_4, sh_5, at_X10_parseSetup_115, at_X10_parseSetup_15, at_X10_parseSetup_25, at_X10_parseSetup_59, at_X10_parseSetup_90, ca_X10_63, ca_X10_67, ca_X10_76, ca_X10_84, cd_X10_parseSetup_0, cd_X10_parseSetup_115, cd_X10_parseSetup_15, cd_X10_parseSetup_25, cd_X10_parseSetup_59, cd_X10_parseSetup_90, fl_X10_14, fl_X10_24, fl_X10_31, fl_X10_41, fl_X10_45, fl_X10_49, fl_X10_75, fl_X10_80, fl_X10_87, th_X10_56, th_X10_70, no_0, no_1, no_lt, no_le, no_eq, no_lt0, no_ge0, no_gt0, no_le0, no_eq0, no_0eq, no_eqm, no_meq, no_m0, no_mlt, no_mge, no_mgt, no_mm, no_i01, no_i10, no_in, no_or, no_ifm, no_mul, nI_add, no_sub, pk_div, iI_if, nI_clamp, oI_n, oI_s, not_true_eq_false, not_false_eq_true, forall_const, true_implies, false_and, and_false, or_false, false_or, Classical.not_not, true_or, or_true, no_b, no_eq1, eq_self, and_self, no_on, sk_0, hq_0, hq_2, hq_3, hq_5, hq_6, hs_1, hs_5, hs_256, hl_256, hs, p53, k34, k257, k279, e9, eu0, eu1, w1_d])
          | (with_reducible refine And.intro (fun q => ?_) (fun q => ?_) <;> (try simp (disch := first | omega | assumption) only [no_0, no_1, no_lt, no_le, no_eq, no_lt0, no_ge0, no_gt0, no_le0, no_eq0, no_0eq, no_eqm, no_meq, no_m0, no_mlt, no_mge, no_mgt, no_mm, no_i01, no_i10, no_in, no_or, no_ifm, no_mul, nI_add, no_sub, pk_div, iI_if, nI_clamp, oI_n, oI_s, not_true_eq_false, not_false_eq_true, forall_const, true_implies, false_and, and_false, or_false, false_or, Classical.not_not, true_or, or_true, no_b, no_eq1, eq_self, and_self, no_on, sk_0, hq_0, hq_2, hq_3, hq_5, hq_6, hs_1, hs_5, hs_256, hl_256, hs, p53, k34, k257, k279, e9, eu0, eu1, w1_d] at q))
          | (with_reducible refine ev_ci m1 ?_)
          | (with_reducible refine ev_ci hE ?_)
          | (with_reducible refine ev_ci ec ?_)
          | (with_reducible refine ev_ci (hf _) ?_)
          | omega
          | with_reducible assumption
          | with_reducible rfl
          | (refine Nat.lt_of_lt_of_le ?_ (Nat.le_refl 312); omega)
          | with_reducible refine lp_nx ?_ ?_ ?_ ?_
          | with_reducible refine lp_st ?_ ?_ ?_
          | with_reducible refine ls_c ?_ ?_
          | with_reducible refine vi_c ?_
          | with_reducible refine re_c ?_
          | with_reducible refine vz_c ?_
          | with_reducible refine rz_c ?_
          | exact trivial
          | with_reducible refine And.intro ?_ ?_
          | simp (disch := first | omega | assumption) only [ev_run_c, ev_run_n, ev_fj, ev_stp, ev_lk, ev_fv, ev_as, ev_sz, ev_st1, ev_st2, ev_rm, ev_pk, ev_Jof, ev_go, lv_args, List.map_cons, List.map_nil, List.zip_cons_cons, List.zip_nil_left, List.zip_nil_right, List.nil_append, List.cons_append, ↓reduceIte, reduceCtorEq, Int.reduceToNat, Nat.reduceEqDiff, Nat.reduceAdd, Nat.reduceLT, Nat.reduceLeDiff, Nat.reduceMul, Nat.reduceSub, Value.category, false_implies, true_and, and_true, Bool.false_eq_true, Option.some.injEq, exists_eq_left', Option.toList_some, Option.toList_none, ev_km, ev_k2, ev_k3, ev_k4, ev_k5, ev_l0, ev_l1, sh_1, sh_2, sh_3, sh_4, sh_5, at_X10_parseSetup_115, at_X10_parseSetup_15, at_X10_parseSetup_25, at_X10_parseSetup_59, at_X10_parseSetup_90, ca_X10_63, ca_X10_67, ca_X10_76, ca_X10_84, cd_X10_parseSetup_0, cd_X10_parseSetup_115, cd_X10_parseSetup_15, cd_X10_parseSetup_25, cd_X10_parseSetup_59, cd_X10_parseSetup_90, fl_X10_14, fl_X10_24, fl_X10_31, fl_X10_41, fl_X10_45, fl_X10_49, fl_X10_75, fl_X10_80, fl_X10_87, th_X10_56, th_X10_70, no_0, no_1, no_lt, no_le, no_eq, no_lt0, no_ge0, no_gt0, no_le0, no_eq0, no_0eq, no_eqm, no_meq, no_m0, no_mlt, no_mge, no_mgt, no_mm, no_i01, no_i10, no_in, no_or, no_ifm, no_mul, nI_add, no_sub, pk_div, iI_if, nI_clamp, oI_n, oI_s, not_true_eq_false, not_false_eq_true, forall_const, true_implies, false_and, and_false, or_false, false_or, Classical.not_not, true_or, or_true, no_b, no_eq1, eq_self, and_self, no_on, sk_0, hq_0, hq_2, hq_3, hq_5, hq_6, hs_1, hs_5, hs_256, hl_256, hs, p53, k34, k257, k279, e9, eu0, eu1, w1_d]
          | exact rfl
          | (split <;> omega))
      · show XS (stE σ t) _
        unfold stE
        rw [if_pos z]
        have f1 : ∀ a y, (a = 3 ∨ a = 4 ∨ 56 ≤ a) → ¬ (a = 78 ∧ y = 2) → ¬ (a = 257 ∧ y = 0) → ¬ (a = 279 ∧ y = 0) → (w1 (w1 (w1 (w1 (x_cpP 6 34 M) 34 0 (nI 1)) 78 2 (nI 0)) 257 0 (nI 0)) 279 0 (nI 0)).1 a y = μ.1 a y := fun a y h1 h2 h3 h4 => by
          rw [w1_n h4, w1_n h3, w1_n h2, w1_n (by omega), cpP_n (by omega)]
          exact za a y (by omega)
        have f2 : (w1 (w1 (w1 (w1 (x_cpP 6 34 M) 34 0 (nI 1)) 78 2 (nI 0)) 257 0 (nI 0)) 279 0 (nI 0)).2.2 = μ.2.2 := er
        have f3 : ∀ x, hx (w1 (w1 (w1 (w1 (x_cpP 6 34 M) 34 0 (nI 1)) 78 2 (nI 0)) 257 0 (nI 0)) 279 0 (nI 0)) x = hx μ x := hx_c (f1 78 1 (by omega) (by omega) (by omega) (by omega)) (fun x => by rw [f2])
        have f5 : ∀ y, (w1 (w1 (w1 (w1 (x_cpP 6 34 M) 34 0 (nI 1)) 78 2 (nI 0)) 257 0 (nI 0)) 279 0 (nI 0)).1 5 y = M.1 5 y := fun y => by
          rw [w1_n (by omega), w1_n (by omega), w1_n (by omega), w1_n (by omega), cpP_n (by omega)]
        refine ⟨⟨PR_fr0 hPn (fun a k ha hk hn => ?_) (fun k => rfl), ?_⟩, ⟨⟨fun i hi => ?_, fun i j hi hj hij => ?_, hl_c x3.2.2 (f1 78 1 (by omega) (by omega) (by omega) (by omega))⟩, ?_, fun i hi => ?_, fun i hi => absurd hi (Nat.not_lt_zero i), fun _ => rfl⟩, fun s hs => ⟨?_, ?_, fun hv => absurd (show (0 : Nat) = 1 from hv) (by decide)⟩, ⟨?_, fun i hi => absurd hi (Nat.not_lt_zero i)⟩, ⟨?_, ?_⟩, ⟨(f1 3 1 (by omega) (by omega) (by omega) (by omega)).trans x9.2.2.1.1, fun i hi => (f1 4 i (by omega) (by omega) (by omega) (by omega)).trans (x9.2.2.1.2 i hi)⟩, ?_⟩
        · rw [w1_n (by omega), w1_n (by omega), w1_n (by omega), w1_n hn]
        · rw [w1_n (by omega), w1_n (by omega), w1_n (by omega), w1_s]
        · rw [f3]; exact x3.1 i hi
        · rw [f3, f3]; exact x3.2.1 i j hi hj hij
        · rw [w1_n (by omega), w1_n (by omega), w1_s]
        · have g := x3.1 i hi
          rw [f3, f1 _ _ (by omega) (by omega) (by omega) (by omega)]; exact x5 i hi
        · rw [f2]; exact (x8 s hs).1
        · rcases (show s = 0 ∨ s = 1 by omega) with rfl | rfl
          · rw [w1_n (by omega), w1_s]
          · rw [w1_s]
        · rw [w1_n (by omega), w1_n (by omega), w1_n (by omega), w1_n (by omega), cpP_n (by omega)]
          exact z11
        · rw [f5, z51, n1]
        · rw [f5, z52, n1]
        · rw [w1_n (by omega), w1_n (by omega), w1_n (by omega), w1_n (by omega), cpP_n (by omega)]
          exact Or.inl z6
      · exact fun a k ha => ⟨by rw [w1_n (by omega), w1_n (by omega), w1_n (by omega), w1_n (by omega), cpP_n (by omega)]; exact za a k (by omega), (cpP_l (o := 6) (p := 34) (by omega)).trans (zl a k (by omega) (by omega)), by rw [show (w1 (w1 (w1 (w1 (x_cpP 6 34 M) 34 0 (nI 1)) 78 2 (nI 0)) 257 0 (nI 0)) 279 0 (nI 0)).2.2 = μ.2.2 from er]⟩
    · rw [if_neg z] at m1
      refine ⟨owr 1 [] μ1, ?_, ?_, fun a k ha => ⟨za a k (by omega), zl a k (by omega) (by omega), by rw [zr]⟩⟩
      · show ev_T _ _ _ _ _ (if (if t.e.1 = 0 then 0 else 2) = 0 then _ else .inr (if (if t.e.1 = 0 then 0 else 2) = 1 then _ else _, _))
        rw [if_neg z, if_neg (show ¬ (2 : Nat) = 0 by decide), if_neg (show ¬ (2 : Nat) = 1 by decide)]
        refine ev_tri hok okM_X10_parseSetup (Nat.le_of_ble_eq_true rfl) 400 ?_
        rw [at_X10_parseSetup_0]
        repeat' (first
          | (with_reducible refine ev_rid ?_; simp (disch := first | omega | assumption) only [ev_run_c, ev_run_n, ev_fj, ev_stp, ev_lk, ev_fv, ev_as, ev_sz, ev_st1, ev_st2, ev_rm, ev_pk, ev_Jof, ev_go, lv_args, List.map_cons, List.map_nil, List.zip_cons_cons, List.zip_nil_left, List.zip_nil_right, List.nil_append, List.cons_append, ↓reduceIte, reduceCtorEq, Int.reduceToNat, Nat.reduceEqDiff, Nat.reduceAdd, Nat.reduceLT, Nat.reduceLeDiff, Nat.reduceMul, Nat.reduceSub, Value.category, false_implies, true_and, and_true, Bool.false_eq_true, Option.some.injEq, exists_eq_left', Option.toList_some, Option.toList_none, ev_km, ev_k2, ev_k3, ev_k4, ev_k5, ev_l0, ev_l1, sh_1, sh_2, sh_3, sh_4, sh_5, at_X10_parseSetup_115, at_X10_parseSetup_15, at_X10_parseSetup_25, at_X10_parseSetup_59, at_X10_parseSetup_90, ca_X10_63, ca_X10_67, ca_X10_76, ca_X10_84, cd_X10_parseSetup_0, cd_X10_parseSetup_115, cd_X10_parseSetup_15, cd_X10_parseSetup_25, cd_X10_parseSetup_59, cd_X10_parseSetup_90, fl_X10_14, fl_X10_24, fl_X10_31, fl_X10_41, fl_X10_45, fl_X10_49, fl_X10_75, fl_X10_80, fl_X10_87, th_X10_56, th_X10_70, no_0, no_1, no_lt, no_le, no_eq, no_lt0, no_ge0, no_gt0, no_le0, no_eq0, no_0eq, no_eqm, no_meq, no_m0, no_mlt, no_mge, no_mgt, no_mm, no_i01, no_i10, no_in, no_or, no_ifm, no_mul, nI_add, no_sub, pk_div, iI_if, nI_clamp, oI_n, oI_s, not_true_eq_false, not_false_eq_true, forall_const, true_implies, false_and, and_false, or_false, false_or, Classical.not_not, true_or, or_true, no_b, no_eq1, eq_self, and_self, no_on, sk_0, hq_0, hq_2, hs_1, hs_5, hs])
          | (with_reducible refine ev_gid ?_; simp (disch := first | omega | assumption) only [ev_run_c, ev_run_n, ev_fj, ev_stp, ev_lk, ev_fv, ev_as, ev_sz, ev_st1, ev_st2, ev_rm, ev_pk, ev_Jof, ev_go, lv_args, List.map_cons, List.map_nil, List.zip_cons_cons, List.zip_nil_left, List.zip_nil_right, List.nil_append, List.cons_append, ↓reduceIte, reduceCtorEq, Int.reduceToNat, Nat.reduceEqDiff, Nat.reduceAdd, Nat.reduceLT, Nat.reduceLeDiff, Nat.reduceMul, Nat.reduceSub, Value.category, false_implies, true_and, and_true, Bool.false_eq_true, Option.some.injEq, exists_eq_left', Option.toList_some, Option.toList_none, ev_km, ev_k2, ev_k3, ev_k4, ev_k5, ev_l0, ev_l1, sh_1, sh_2, sh_3, sh_4, sh_5, at_X10_parseSetup_115, at_X10_parseSetup_15, at_X10_parseSetup_25, at_X10_parseSetup_59, at_X10_parseSetup_90, ca_X10_63, ca_X10_67, ca_X10_76, ca_X10_84, cd_X10_parseSetup_0, cd_X10_parseSetup_115, cd_X10_parseSetup_15, cd_X10_parseSetup_25, cd_X10_parseSetup_59, cd_X10_parseSetup_90, fl_X10_14, fl_X10_24, fl_X10_31, fl_X10_41, fl_X10_45, fl_X10_49, fl_X10_75, fl_X10_80, fl_X10_87, th_X10_56, th_X10_70, no_0, no_1, no_lt, no_le, no_eq, no_lt0, no_ge0, no_gt0, no_le0, no_eq0, no_0eq, no_eqm, no_meq, no_m0, no_mlt, no_mge, no_mgt, no_mm, no_i01, no_i10, no_in, no_or, no_ifm, no_mul, nI_add, no_sub, pk_div, iI_if, nI_clamp, oI_n, oI_s, not_true_eq_false, not_false_eq_true, forall_const, true_implies, false_and, and_false, or_false, false_or, Classical.not_not, true_or, or_true, no_b, no_eq1, eq_self, and_self, no_on, sk_0, hq_0, hq_2, hs_1, hs_5, hs])
          | (with_reducible refine And.intro (fun q => ?_) (fun q => ?_) <;> (try simp (disch := first | omega | assumption) only [no_0, no_1, no_lt, no_le, no_eq, no_lt0, no_ge0, no_gt0, no_le0, no_eq0, no_0eq, no_eqm, no_meq, no_m0, no_mlt, no_mge, no_mgt, no_mm, no_i01, no_i10, no_in, no_or, no_ifm, no_mul, nI_add, no_sub, pk_div, iI_if, nI_clamp, oI_n, oI_s, not_true_eq_false, not_false_eq_true, forall_const, true_implies, false_and, and_false, or_false, false_or, Classical.not_not, true_or, or_true, no_b, no_eq1, eq_self, and_self, no_on, sk_0, hq_0, hq_2, hs_1, hs_5, hs] at q))
          | (with_reducible refine ev_ci m1 ?_)
          | (with_reducible refine ev_ci hE ?_)
          | omega
          | with_reducible assumption
          | with_reducible rfl
          | (refine Nat.lt_of_lt_of_le ?_ (Nat.le_refl 312); omega)
          | with_reducible refine lp_nx ?_ ?_ ?_ ?_
          | with_reducible refine lp_st ?_ ?_ ?_
          | with_reducible refine ls_c ?_ ?_
          | with_reducible refine vi_c ?_
          | with_reducible refine re_c ?_
          | with_reducible refine vz_c ?_
          | with_reducible refine rz_c ?_
          | exact trivial
          | with_reducible refine And.intro ?_ ?_
          | simp (disch := first | omega | assumption) only [ev_run_c, ev_run_n, ev_fj, ev_stp, ev_lk, ev_fv, ev_as, ev_sz, ev_st1, ev_st2, ev_rm, ev_pk, ev_Jof, ev_go, lv_args, List.map_cons, List.map_nil, List.zip_cons_cons, List.zip_nil_left, List.zip_nil_right, List.nil_append, List.cons_append, ↓reduceIte, reduceCtorEq, Int.reduceToNat, Nat.reduceEqDiff, Nat.reduceAdd, Nat.reduceLT, Nat.reduceLeDiff, Nat.reduceMul, Nat.reduceSub, Value.category, false_implies, true_and, and_true, Bool.false_eq_true, Option.some.injEq, exists_eq_left', Option.toList_some, Option.toList_none, ev_km, ev_k2, ev_k3, ev_k4, ev_k5, ev_l0, ev_l1, sh_1, sh_2, sh_3, sh_4, sh_5, at_X10_parseSetup_115, at_X10_parseSetup_15, at_X10_parseSetup_25, at_X10_parseSetup_59, at_X10_parseSetup_90, ca_X10_63, ca_X10_67, ca_X10_76, ca_X10_84, cd_X10_parseSetup_0, cd_X10_parseSetup_115, cd_X10_parseSetup_15, cd_X10_parseSetup_25, cd_X10_parseSetup_59, cd_X10_parseSetup_90, fl_X10_14, fl_X10_24, fl_X10_31, fl_X10_41, fl_X10_45, fl_X10_49, fl_X10_75, fl_X10_80, fl_X10_87, th_X10_56, th_X10_70, no_0, no_1, no_lt, no_le, no_eq, no_lt0, no_ge0, no_gt0, no_le0, no_eq0, no_0eq, no_eqm, no_meq, no_m0, no_mlt, no_mge, no_mgt, no_mm, no_i01, no_i10, no_in, no_or, no_ifm, no_mul, nI_add, no_sub, pk_div, iI_if, nI_clamp, oI_n, oI_s, not_true_eq_false, not_false_eq_true, forall_const, true_implies, false_and, and_false, or_false, false_or, Classical.not_not, true_or, or_true, no_b, no_eq1, eq_self, and_self, no_on, sk_0, hq_0, hq_2, hs_1, hs_5, hs]
          | exact rfl
          | (split <;> omega))
      · show XS (stE σ t) _
        unfold stE
        rw [if_neg z]
        have fr : ∀ b N', 34 ≤ b → PR b N' μ → PR b N' (owr 1 [] μ1) := fun b N' hb hP => PR_fr hP (fun a k ha hk => za a k (by omega)) (fun k => zl _ k (by omega) (by omega))
        have z3 : ∀ x, hx (owr 1 [] μ1) x = hx μ x := hx_c (za 78 1 (by omega)) (fun x => by rw [zr])
        refine ⟨⟨fr 34 _ (by omega) x1, (za 34 0 (by omega)).trans x2⟩, ⟨⟨fun i hi => ?_, fun i j hi hj hij => ?_, hl_c x3.2.2 (za 78 1 (by omega))⟩, (za 78 2 (by omega)).trans x4, fun i hi => ?_, fun i hi => ?_, x7⟩, fun s hs => ⟨?_, (za _ 0 (by omega)).trans (x8 s hs).2.1, fun hv => fr _ _ (by omega) ((x8 s hs).2.2 hv)⟩, ⟨z11, fun i hi => absurd hi (Nat.not_lt_zero i)⟩, ⟨z51, z52⟩, ⟨(za 3 1 (by omega)).trans x9.2.2.1.1, fun i hi => (za 4 i (by omega)).trans (x9.2.2.1.2 i hi)⟩, Or.inl z6⟩
        · rw [z3]; exact x3.1 i hi
        · rw [z3, z3]; exact x3.2.1 i j hi hj hij
        · have g := x3.1 i hi
          rw [z3, za _ _ (by omega)]; exact x5 i hi
        · have hi8 : i < 8 := Nat.lt_of_lt_of_le hi hA.2.2.1
          have g := x3.1 i hi8
          rw [z3, za _ _ (by omega)]
          exact ⟨fr _ _ (by omega) (x6 i hi).1, (x6 i hi).2⟩
        · rw [zr]; exact (x8 s hs).1
end XSetup
