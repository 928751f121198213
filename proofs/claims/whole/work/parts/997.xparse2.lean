/-! ===== the class's parser: a whole setup ===== -/
section XParse2
variable {G : ev_G} {N : Nat → Nat} {B : Nat → Nat} {n m p : Nat} {μ μ' : ev_M}
theorem INV_hd {a b : Nat} (ha : a ≤ 900) (hb : b ≤ 10) : INV (up (up (fun _ => 0) 2 a) 3 b) := by
  have hf : ∀ k, k ≠ 2 → k ≠ 3 → up (up (fun _ => 0) 2 a) 3 b k = 0 := fun k h2 h3 => by
    show (if k = 3 then b else if k = 2 then a else 0) = 0
    rw [if_neg h3, if_neg h2]
  have h2 : up (up (fun _ => 0) 2 a) 3 b 2 = a := rfl
  have h3 : up (up (fun _ => 0) 2 a) 3 b 3 = b := rfl
  generalize up (up (fun _ => 0) 2 a) 3 b = f at hf h2 h3
  have z : ∀ k, 4 ≤ k → f k = 0 := fun k hk => hf k (by omega) (by omega)
  have z0 := hf 0 (by omega) (by omega)
  have z1 := hf 1 (by omega) (by omega)
  refine ⟨⟨by omega, by omega, by omega, by omega⟩, fun k hk => by rw [z k (by omega)]; omega, fun q hq => ⟨by rw [z _ (by omega)]; omega, by rw [z _ (by omega)]; omega, by rw [z _ (by omega)]; omega⟩,
    fun q k hq hk => by rw [z _ (by omega)] at hk; omega, fun q k hq hk => by rw [z _ (by omega)] at hk; omega, fun q k l hq hk hl => by rw [z (952 + 9 * q + 5) (by omega)] at hl; omega,
    fun i hi => ⟨by rw [z _ (by omega)]; omega, by rw [z _ (by omega)]; omega⟩, fun i t hi ht => by rw [z _ (by omega)]; omega,
    fun i q hi hq => ⟨by rw [z _ (by omega)]; omega, by rw [z _ (by omega)]; omega, by rw [z _ (by omega)]; omega⟩, fun i j hi hj => by rw [z _ (by omega)]; omega,
    fun i w h1 hi hw => z _ (by omega), fun q w h1 hq hw => z _ (by omega), fun i q hi h1 hq => ⟨z _ (by omega), z _ (by omega), z _ (by omega)⟩,
    fun i q hi hq h => absurd (z _ (by omega)) h, fun q k hq hk => by rw [z _ (by omega)] at hk; omega, fun i k hi => by omega⟩
/-- the start of the loop -/
def s0 (B : Nat → Nat) (n : Nat) : PS := (up (up (fun _ => 0) 2 (tvl B n 1)) 3 (tvl B n 2), 3, 0, fun _ => 0, fun _ => 0, 0, q_head B n)
/-- what a whole setup keeps -/
def Fz (μ μ' : ev_M) : Prop := (∀ b k, b < 5 ∨ 34 ≤ b → μ'.1 b k = μ.1 b k) ∧ (∀ b k, b ≠ 7 → b ≠ 31 → μ'.2.1 b k = μ.2.1 b k) ∧ μ'.2.2 = μ.2.2
theorem hd_ok (hT : TT B n m μ) (z : (q_head B n).1 = 0) : q_head B n = (0, -1) ∧ 3 ≤ m ∧ tvl B n 1 ≤ 900 ∧ tvl B n 2 ≤ 10 := by
  have h1 : OKe m (er (0, -1) (kwi B n 0 ≠ 0) 1 0 B n) 1 := fun y => by
    have h2 := er_0 y (by decide)
    have h3 : kwi B n 0 = 0 := Classical.byContradiction (fun q => h2.2.1 q)
    refine ⟨h2.2.2, tk_nxt hT (Nat.zero_le m) (fun q => ?_)⟩
    unfold kwi at h3
    rw [if_neg (by omega)] at h3
    omega
  have h4 := oN (l := 0) (g := 11) hT (oN (l := 0) (g := 901) hT h1)
  have h5 := rN_0 z
  have h6 := nmc_0 h5.2.1
  have h7 := nmc_0 (rN_0 h5.1).2.1
  exact ⟨(h4 z).1, (h4 z).2, by omega, by omega⟩
theorem tkz_30 {i c k : Nat} (h : k < i) : (tkM B n i c μ).1 30 k = nI (tst B n k) := by
  show (if 30 = 29 ∧ k < i then nI (tkd B n k) else if 30 = 30 ∧ k < i then nI (tst B n k) else if 30 = 28 ∧ k = 3 then nI i else if 30 = 28 ∧ k = 4 then nI c else μ.1 30 k) = nI (tst B n k)
  rw [if_neg (by omega), if_pos ⟨rfl, h⟩]
theorem tkz_29 {i c k : Nat} (h : k < i) : (tkM B n i c μ).1 29 k = nI (tkd B n k) := by
  show (if 29 = 29 ∧ k < i then nI (tkd B n k) else if 29 = 30 ∧ k < i then nI (tst B n k) else if 29 = 28 ∧ k = 3 then nI i else if 29 = 28 ∧ k = 4 then nI c else μ.1 29 k) = nI (tkd B n k)
  rw [if_pos ⟨rfl, h⟩]
theorem tkz_31 {i c k : Nat} (h : k < i) : (tkM B n i c μ).2.1 31 k = w64 (tvl B n k) := by
  show (if 31 = 31 ∧ k < i then w64 (tvl B n k) else μ.2.1 31 k) = w64 (tvl B n k)
  rw [if_pos ⟨rfl, h⟩]
theorem tkz_l {i c b k : Nat} (h : b ≠ 31) : (tkM B n i c μ).2.1 b k = μ.2.1 b k := by
  show (if b = 31 ∧ k < i then w64 (tvl B n k) else μ.2.1 b k) = μ.2.1 b k
  rw [if_neg (by omega)]
set_option maxHeartbeats 1000000 in
theorem m_parse (hok : ev_ok sh_S G) (hkw : KW G) (hn : n ≤ 500) (hB0 : ∀ j, j < n → μ.1 2 j = nI (B j)) (hB : ∀ j, B j < 256) : ∃ m, m ≤ n ∧ tkd B n m = 0 ∧ (∀ k, k < m → tkd B n k ≠ 0) ∧ ∀ k, k + 1 < 1000000 → (∀ j, j < k → (itr B n j (s0 B n)).e.1 = 0 ∧ ¬ AC B n (itr B n j (s0 B n)) ∧ INI B n (itr B n j (s0 B n))) → ((itr B n k (s0 B n)).e.1 = 0 → AC B n (itr B n k (s0 B n))) →
    ∃ μ', ev_T sh_S G mi_X7_parse [.ref 5, .ref 1, .int (nI n)] μ (.inl (some (.int (nI (if (itr B n k (s0 B n)).e.1 = 0 then 1 else 0))), μ')) ∧ Fz μ μ' ∧ SR B n m (itr B n k (s0 B n)) μ' := by
  have hK := pk_5
  have hcl := m_X4_clear (μ := μ) hok sh_6
  obtain ⟨m, hm1, hm2, hm3, hsp⟩ := m_X9_split (μ := x_clP 6 μ) (B := B) hok hn (fun j hj => (clP_n (by omega)).trans (hB0 j hj)) hB
  refine ⟨m, hm1, hm2, hm3, fun k hk hj hE => ?_⟩
  have hT0 : TT B n m (w1 (tkM B n (m + 1) n (x_clP 6 μ)) 5 6 (nI 0)) := by
    refine ⟨Nat.le_trans hm1 hn, hm2, hB, fun k hk => ⟨?_, ?_, ?_⟩⟩
    · rw [w9_n (Or.inl (by decide))]; exact tkz_29 (Nat.lt_succ_of_le hk)
    · rw [w9_n (Or.inl (by decide))]; exact tkz_30 (Nat.lt_succ_of_le hk)
    · exact tkz_31 (c := n) (Nat.lt_succ_of_le hk)
  have hk28 : ∀ (b k : Nat), b < 28 → (tkM B n (m + 1) n (x_clP 6 μ)).1 b k = (x_clP 6 μ).1 b k := fun b k h => by
    show (if b = 29 ∧ k < m + 1 then _ else if b = 30 ∧ k < m + 1 then _ else if b = 28 ∧ k = 3 then _ else if b = 28 ∧ k = 4 then _ else (x_clP 6 μ).1 b k) = _
    rw [if_neg (by omega), if_neg (by omega), if_neg (by omega), if_neg (by omega)]
  have hk34 : ∀ (b k : Nat), 34 ≤ b → (tkM B n (m + 1) n (x_clP 6 μ)).1 b k = (x_clP 6 μ).1 b k := fun b k h => by
    show (if b = 29 ∧ k < m + 1 then _ else if b = 30 ∧ k < m + 1 then _ else if b = 28 ∧ k = 3 then _ else if b = 28 ∧ k = 4 then _ else (x_clP 6 μ).1 b k) = _
    rw [if_neg (by omega), if_neg (by omega), if_neg (by omega), if_neg (by omega)]
  have hP0 : PR 6 (fun _ => 0) (w1 (tkM B n (m + 1) n (x_clP 6 μ)) 5 6 (nI 0)) := PR_fr (PR_cl (p := 6) (μ := μ)) (fun a k h1 h2 => (w9_n (Or.inl (by omega))).trans (hk28 a k (by omega))) (fun k => tkz_l (c := n) (by omega))
  obtain ⟨μ1, hh, hF, f1, f2, f5, fz⟩ := m_readHead hok hkw hT0 rfl hP0 (fun _ _ => Nat.zero_le _) (Nat.zero_le _) (Nat.zero_le _)
  have hS : SR B n m (s0 B n) μ1 := ⟨TT_q hT0 (Fm9_s hF), f1, f2, f5, Nat.zero_le _, fun z => by
    have hd := hd_ok hT0 z
    exact ⟨hd.1, (fz z).1, INV_hd hd.2.2.1 hd.2.2.2, (fz z).2, hd.2.1, hF.2.2.2.1.trans w9_e, Nat.zero_le _, fun r hr => absurd hr (Nat.not_lt_zero r)⟩⟩
  obtain ⟨μ', hF', hS', hL⟩ := ps_loop hok hkw (L := n) k (s0 B n) μ1 0 hS (by omega) hj hE
  have e0 : w1 (w1 (w1 (w1 (tkM B n (m + 1) n (x_clP 6 μ)) 5 1 (nI 0)) 5 2 (-1)) 5 6 (nI 0)) 5 7 (nI 0) = pe (0, -1) 0 (w1 (tkM B n (m + 1) n (x_clP 6 μ)) 5 6 (nI 0)) := by
    refine Prod.ext (funext fun b => funext fun k => ?_) rfl
    rw [pe_at]
    show (if b = 5 ∧ k = 7 then nI 0 else if b = 5 ∧ k = 6 then nI 0 else if b = 5 ∧ k = 2 then (-1 : Int32) else if b = 5 ∧ k = 1 then nI 0 else (tkM B n (m + 1) n (x_clP 6 μ)).1 b k) = if b = 5 ∧ k = 7 then nI 0 else if b = 5 ∧ k = 2 then (-1 : Int32) else if b = 5 ∧ k = 1 then nI 0 else (if b = 5 ∧ k = 6 then nI 0 else (tkM B n (m + 1) n (x_clP 6 μ)).1 b k)
    by_cases c7 : b = 5 ∧ k = 7
    · rw [if_pos c7, if_pos c7]
    · rw [if_neg c7, if_neg c7]
      by_cases c6 : b = 5 ∧ k = 6
      · rw [if_pos c6, if_neg (by omega), if_neg (by omega), if_pos c6]
      · rw [if_neg c6, if_neg c6]
  have e1 : ((ev_up (ev_up (ev_up (ev_up (tkM B n (m + 1) n (x_clP 6 μ)).1 5 1 (nI 0)) 5 2 (-1)) 5 6 (nI 0)) 5 7 (nI 0), (tkM B n (m + 1) n (x_clP 6 μ)).2) : ev_M) = pe (0, -1) 0 (w1 (tkM B n (m + 1) n (x_clP 6 μ)) 5 6 (nI 0)) := e0
  rw [← e1] at hh
  refine ⟨μ', LT_T hok okM_X7_parse (Nat.le_of_ble_eq_true rfl) ?_, ?_, hS'⟩
  · refine LT_go1 (n := 400) okM_X7_parse hL ?_
    rw [show ev_at cd_X7_parse 0 = cd_X7_parse_0 from rfl]
    repeat' (first
      | (with_reducible refine ev_rid ?_; simp (disch := first | omega | assumption) only [ev_run_c, ev_run_n, ev_fj, ev_stp, ev_lk, ev_fv, ev_as, ev_sz, ev_st1, ev_st2, ev_rm, ev_pk, ev_Jof, ev_go, lv_args, List.map_cons, List.map_nil, List.zip_cons_cons, List.zip_nil_left, List.zip_nil_right, List.nil_append, List.cons_append, ↓reduceIte, reduceCtorEq, Int.reduceToNat, Nat.reduceEqDiff, Nat.reduceAdd, Nat.reduceLT, Nat.reduceLeDiff, Nat.reduceMul, Nat.reduceSub, Value.category, false_implies, true_and, and_true, Bool.false_eq_true, Option.some.injEq, exists_eq_left', Option.toList_some, Option.toList_none, ev_km, ev_k2, ev_k3, ev_k4, ev_k5, ev_l0, ev_l1, sh_1, sh_2, sh_3, sh_4, sh_5, at_X7_parse_105, at_X7_parse_126, at_X7_parse_140, at_X7_parse_149, at_X7_parse_155, at_X7_parse_45, at_X7_parse_84, ca_X7_36, ca_X7_39, ca_X7_52, ca_X7_56, ca_X7_60, ca_X7_64, ca_X7_67, cd_X7_parse_0, cd_X7_parse_105, cd_X7_parse_126, cd_X7_parse_140, cd_X7_parse_149, cd_X7_parse_155, cd_X7_parse_45, cd_X7_parse_84, fl_X7_12, fl_X7_18, fl_X7_25, fl_X7_43, fl_X7_46, fl_X7_49, ko_X7_55, no_0, no_1, no_lt, no_le, no_eq, no_lt0, no_ge0, no_gt0, no_le0, no_eq0, no_0eq, no_eqm, no_meq, no_m0, no_mlt, no_mge, no_mgt, no_mm, no_i01, no_i10, no_in, no_or, no_ifm, no_mul, nI_add, no_sub, pk_div, iI_if, nI_clamp, oI_n, oI_s, not_true_eq_false, not_false_eq_true, forall_const, true_implies, false_and, and_false, or_false, false_or, Classical.not_not, true_or, or_true, no_b, no_eq1, eq_self, and_self, no_on, hK])
      | (with_reducible refine ev_gid ?_; simp (disch := first | omega | assumption) only [ev_run_c, ev_run_n, ev_fj, ev_stp, ev_lk, ev_fv, ev_as, ev_sz, ev_st1, ev_st2, ev_rm, ev_pk, ev_Jof, ev_go, lv_args, List.map_cons, List.map_nil, List.zip_cons_cons, List.zip_nil_left, List.zip_nil_right, List.nil_append, List.cons_append, ↓reduceIte, reduceCtorEq, Int.reduceToNat, Nat.reduceEqDiff, Nat.reduceAdd, Nat.reduceLT, Nat.reduceLeDiff, Nat.reduceMul, Nat.reduceSub, Value.category, false_implies, true_and, and_true, Bool.false_eq_true, Option.some.injEq, exists_eq_left', Option.toList_some, Option.toList_none, ev_km, ev_k2, ev_k3, ev_k4, ev_k5, ev_l0, ev_l1, sh_1, sh_2, sh_3, sh_4, sh_5, at_X7_parse_105, at_X7_parse_126, at_X7_parse_140, at_X7_parse_149, at_X7_parse_155, at_X7_parse_45, at_X7_parse_84, ca_X7_36, ca_X7_39, ca_X7_52, ca_X7_56, ca_X7_60, ca_X7_64, ca_X7_67, cd_X7_parse_0, cd_X7_parse_105, cd_X7_parse_126, cd_X7_parse_140, cd_X7_parse_149, cd_X7_parse_155, cd_X7_parse_45, cd_X7_parse_84, fl_X7_12, fl_X7_18, fl_X7_25, fl_X7_43, fl_X7_46, fl_X7_49, ko_X7_55, no_0, no_1, no_lt, no_le, no_eq, no_lt0, no_ge0, no_gt0, no_le0, no_eq0, no_0eq, no_eqm, no_meq, no_m0, no_mlt, no_mge, no_mgt, no_mm, no_i01, no_i10, no_in, no_or, no_ifm, no_mul, nI_add, no_sub, pk_div, iI_if, nI_clamp, oI_n, oI_s, not_true_eq_false, not_false_eq_true, forall_const, true_implies, false_and, and_false, or_false, false_or, Classical.not_not, true_or, or_true, no_b, no_eq1, eq_self, and_self, no_on, hK])
      | (with_reducible refine And.intro (fun q => ?_) (fun q => ?_) <;> (try simp (disch := first | omega | assumption) only [no_0, no_1, no_lt, no_le, no_eq, no_lt0, no_ge0, no_gt0, no_le0, no_eq0, no_0eq, no_eqm, no_meq, no_m0, no_mlt, no_mge, no_mgt, no_mm, no_i01, no_i10, no_in, no_or, no_ifm, no_mul, nI_add, no_sub, pk_div, iI_if, nI_clamp, oI_n, oI_s, not_true_eq_false, not_false_eq_true, forall_const, true_implies, false_and, and_false, or_false, false_or, Classical.not_not, true_or, or_true, no_b, no_eq1, eq_self, and_self, no_on, hK] at q))
      | (with_reducible refine ev_ci hcl ?_)
      | (with_reducible refine ev_ci hsp ?_)
      | (with_reducible refine ev_ci hh ?_)
      | with_reducible refine ev_ci (m_fail_n hok (by assumption) ?_ _ _) ?_
      | omega
      | with_reducible assumption
      | with_reducible rfl
      | (refine Nat.lt_of_lt_of_le ?_ (Nat.le_refl 312); omega)
      | with_reducible refine lp_nx ?_ ?_ ?_ ?_
      | with_reducible refine lp_st ?_ ?_ ?_
      | with_reducible refine ls_c ?_ ?_
      | with_reducible refine vi_c ?_
      | with_reducible refine re_c ?_
      | with_reducible refine vz_c ?_
      | with_reducible refine rz_c ?_
      | exact trivial
      | with_reducible refine And.intro ?_ ?_
      | simp (disch := first | omega | assumption) only [ev_run_c, ev_run_n, ev_fj, ev_stp, ev_lk, ev_fv, ev_as, ev_sz, ev_st1, ev_st2, ev_rm, ev_pk, ev_Jof, ev_go, lv_args, List.map_cons, List.map_nil, List.zip_cons_cons, List.zip_nil_left, List.zip_nil_right, List.nil_append, List.cons_append, ↓reduceIte, reduceCtorEq, Int.reduceToNat, Nat.reduceEqDiff, Nat.reduceAdd, Nat.reduceLT, Nat.reduceLeDiff, Nat.reduceMul, Nat.reduceSub, Value.category, false_implies, true_and, and_true, Bool.false_eq_true, Option.some.injEq, exists_eq_left', Option.toList_some, Option.toList_none, ev_km, ev_k2, ev_k3, ev_k4, ev_k5, ev_l0, ev_l1, sh_1, sh_2, sh_3, sh_4, sh_5, at_X7_parse_105, at_X7_parse_126, at_X7_parse_140, at_X7_parse_149, at_X7_parse_155, at_X7_parse_45, at_X7_parse_84, ca_X7_36, ca_X7_39, ca_X7_52, ca_X7_56, ca_X7_60, ca_X7_64, ca_X7_67, cd_X7_parse_0, cd_X7_parse_105, cd_X7_parse_126, cd_X7_parse_140, cd_X7_parse_149, cd_X7_parse_155, cd_X7_parse_45, cd_X7_parse_84, fl_X7_12, fl_X7_18, fl_X7_25, fl_X7_43, fl_X7_46, fl_X7_49, ko_X7_55, no_0, no_1, no_lt, no_le, no_eq, no_lt0, no_ge0, no_gt0, no_le0, no_eq0, no_0eq, no_eqm, no_meq, no_m0, no_mlt, no_mge, no_mgt, no_mm, no_i01, no_i10, no_in, no_or, no_ifm, no_mul, nI_add, no_sub, pk_div, iI_if, nI_clamp, oI_n, oI_s, not_true_eq_false, not_false_eq_true, forall_const, true_implies, false_and, and_false, or_false, false_or, Classical.not_not, true_or, or_true, no_b, no_eq1, eq_self, and_self, no_on, hK]
      | exact rfl
      | (split <;> omega))
  · refine ⟨fun b k hb => ?_, fun b k h7 h31 => ?_, ?_⟩
    · rw [hF'.1 b k hb, hF.1 b k (by omega), w9_n (Or.inl (by omega))]
      rcases hb with hb | hb
      · rw [hk28 b k (by omega)]; exact clP_n (by omega)
      · rw [hk34 b k hb]; exact clP_n (by omega)
    · rw [hF'.2.1 b k h7, hF.2.1 b k h7]
      exact (tkz_l (c := n) h31).trans (clP_l (p := 6) (by omega))
    · rw [hF'.2.2.1, hF.2.2.1]
      exact clP_2 (p := 6)
end XParse2
