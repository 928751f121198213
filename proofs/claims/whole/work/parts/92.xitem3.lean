/-! ===== the class's parser: a person, a taster ===== -/
section XItem3
variable {G : ev_G} {N : Nat → Nat} {B : Nat → Nat} {n m p : Nat} {μ μ' : ev_M}
theorem pe_w {e : Nat × Int32} {a b k : Nat} {v : Int32} (h : b ≠ 5) : w1 (pe e a μ) b k v = pe e a (w1 μ b k v) := by
  refine Prod.ext (funext fun c => funext fun j => ?_) rfl
  show (if c = b ∧ j = k then v else (pe e a μ).1 c j) = (pe e a (w1 μ b k v)).1 c j
  rw [pe_at, pe_at]
  show _ = if c = 5 ∧ j = 7 then nI a else if c = 5 ∧ j = 2 then e.2 else if c = 5 ∧ j = 1 then nI e.1 else (if c = b ∧ j = k then v else μ.1 c j)
  (repeat' split) <;> first | rfl | (exfalso; omega)
theorem RD_t {y : ev_Mi} {a a' a2 : Nat} {e' : Nat × Int32} {N' : Nat → Nat} {T : ev_M} (hp6 : p = 6) (h : ev_T sh_S G y [.ref 5] (pe (0, -1) a μ) (.inl (none, pe e' a2 T))) (hf : Fp p μ T) (h2 : e'.1 < 5) (hP : e'.1 = 0 → PR p N' T ∧ a2 = a') : RD G y a μ e' N' a' := by
  subst hp6
  refine ⟨_, h, ?_, pe_1, pe_2, h2, fun z => ⟨PR_pe (hP z).1, by rw [pe_7, (hP z).2]⟩⟩
  refine ⟨fun b k hb => ?_, fun b k hb => ?_, ?_, ?_, ?_⟩
  · rw [pe_n (by omega)]; exact hf.1 b k (by omega)
  · rw [pe_s, hf.2.1]
  · rw [pe_s, hf.2.1]
  · rw [pe_6]; exact hf.1 5 6 (by omega)
  · rw [pe_n (by omega)]; exact hf.2.2
theorem TT_fp {T : ev_M} (hT : TT B n m μ) (hp6 : p = 6) (h : Fp p μ T) : TT B n m T := by
  subst hp6
  exact ⟨hT.1, hT.2.1, hT.2.2.1, fun k hk => ⟨(h.1 29 k (by omega)).trans (hT.2.2.2 k hk).1, (h.1 30 k (by omega)).trans (hT.2.2.2 k hk).2.1, by rw [h.2.1]; exact (hT.2.2.2 k hk).2.2⟩⟩
def q_person (B : Nat → Nat) (n : Nat) (N : Nat → Nat) (a : Nat) : Nat × Int32 := rN B n (er (rC B n (0, -1) a) (pv B n N a < N 0) 3 a B n) (a + 1) 0 10
theorem er_True {e : Nat × Int32} {b : Prop} [Decidable b] {c i : Nat} (h : b) : er e b c i B n = er e True c i B n := by
  unfold er
  by_cases g : e.1 = 0
  · rw [if_pos ⟨g, h⟩, if_pos ⟨g, trivial⟩]
  · rw [if_neg (fun z => g z.1), if_neg (fun z => g z.1)]
set_option maxHeartbeats 1000000 in
theorem rd_person (hok : ev_ok sh_S G) (hT : TT B n m μ) (hp6 : p = 6) (hP : PR p N μ) (hI : INV N) (h16 : N 0 < 16) {a : Nat} (ha : a ≤ m) : RD G mi_X7_readPerson a μ (q_person B n N a) (apN N (tln B n a) (fun k => B (tst B n a + k)) (tvl B n (a + 1))) (a + 1 + 1) := by
  have hK := And.intro pk_5.1 pk_5.2.2
  have hpp : sh_pt 5 0 = p := by rw [hp6]; exact pk_5.2.1
  have hp : p ∈ sh_B := by rw [hp6]; exact sh_6
  have hlt := xp_lt hp
  have hh := iv_h hI
  have hm5 := hT.1
  unfold q_person
  have h0 := m_value (μ := pe (0, -1) a μ) hok (TT_pe hT) ha
  have h1 := m_checkName (μ := μ) hok hT (e := (0, -1)) (a := a) (by decide) (fun _ => ha) (by omega)
  have c1 : (rC B n (0, -1) a).1 < 5 := rC_c (by decide)
  have g1 := fun (h : (rC B n (0, -1) a).1 = 0) => (rC_0 h).2.1
  have n1 : (rC B n (0, -1) a).1 = 0 → a + 1 ≤ m := fun h => tk_nxt hT ha (by have := (cmc_0 (rC_0 h).2.1).1; omega)
  generalize rC B n (0, -1) a = e1 at h1 c1 g1 n1 ⊢
  have hPz : PR p N (pe e1 a μ) := PR_p hp6 hP
  have h2 := m_X4_personNamed hok hp hPz hh.1 (w64 (tvl B n a))
  have key : ∀ (e2 : Nat × Int32), e2.1 < 5 → (e2.1 = 0 → e1.1 = 0 ∧ e2 = e1) → e2 = er e1 (pv B n N a < N 0) 3 a B n → RD G mi_X7_readPerson a μ (rN B n e2 (a + 1) 0 10) (apN N (tln B n a) (fun k => B (tst B n a + k)) (tvl B n (a + 1))) (a + 1 + 1) := by
    intro e2 c2 g2 he2
    have h3 := m_number (μ := μ) (e := e2) (a := a + 1) (l := 0) (g := 10) (y := nI 9) hok hT c2 (fun h => n1 (g2 h).1) (by omega) (by omega) (by omega) (by decide)
    have c3 : (rN B n e2 (a + 1) 0 10).1 < 5 := rN_c c2
    have g3 := fun (h : (rN B n e2 (a + 1) 0 10).1 = 0) => rN_0 h
    by_cases hz : (rN B n e2 (a + 1) 0 10).1 = 0
    · obtain ⟨z2, z3, z4⟩ := g3 hz
      obtain ⟨z1, z5⟩ := g2 z2
      have hcm := cmc_0 (g1 z1)
      obtain ⟨-, -, -, w1', w2', w3', w4'⟩ := tkd_1 hcm.1
      have hv := nmc_0 z3
      have hnp : ¬ pv B n N a < N 0 := fun q => by rw [he2, er_t z1 q] at z2; exact absurd z2 (by show ¬ (3 : Nat) = 0; omega)
      have hnp2 : ¬ fnm N (w64 (tvl B n a)) (N 0) < N 0 := hnp
      have h9 : iI (-1) = -1 := rfl
      rw [if_neg hnp2, h9] at h2
      rw [z4, z5] at h3 hz ⊢
      have hr : rv e1.1 (tvl B n (a + 1)) = nI (tvl B n (a + 1)) := by rw [z1]; rfl
      rw [hr] at h3
      have hPy : PR p N (pe e1 (a + 1 + 1) μ) := PR_p hp6 hP
      have hop := m_X4_addPerson hok hp hPy h16 (w64 (tvl B n a)) (tvl B n (a + 1))
      have hPR := PR_ap (f := fun k => B (tst B n a + k)) (len := tln B n a) (k := tvl B n (a + 1)) hPy hI h16 hcm.2 (fun j hj => hT.2.2.1 _)
      rw [← w4'] at hPR
      refine ⟨x_ap p (N 0) (w64 (tvl B n a)) (tvl B n (a + 1)) (pe e1 (a + 1 + 1) μ), ?_, ?_, ?_, ?_, by omega, fun _ => ⟨by rw [← hp6]; exact hPR, ?_⟩⟩
      · refine ev_tri hok okM_X7_readPerson (Nat.le_of_ble_eq_true rfl) 400 ?_
        rw [at_X7_readPerson_0]
        repeat' (first
          | (with_reducible refine ev_rid ?_; simp (disch := first | omega | assumption) only [ev_run_c, ev_run_n, ev_fj, ev_stp, ev_lk, ev_fv, ev_as, ev_sz, ev_st1, ev_st2, ev_rm, ev_pk, ev_Jof, ev_go, lv_args, List.map_cons, List.map_nil, List.zip_cons_cons, List.zip_nil_left, List.zip_nil_right, List.nil_append, List.cons_append, ↓reduceIte, reduceCtorEq, Int.reduceToNat, Nat.reduceEqDiff, Nat.reduceAdd, Nat.reduceLT, Nat.reduceLeDiff, Nat.reduceMul, Nat.reduceSub, Value.category, false_implies, true_and, and_true, Bool.false_eq_true, Option.some.injEq, exists_eq_left', Option.toList_some, Option.toList_none, ev_km, ev_k2, ev_k3, ev_k4, ev_k5, ev_l0, ev_l1, sh_1, sh_2, sh_3, sh_4, sh_5, at_X7_readPerson_37, at_X7_readPerson_71, ca_X7_166, ca_X7_188, ca_X7_191, ca_X7_195, ca_X7_67, ca_X7_81, cd_X7_readPerson_0, cd_X7_readPerson_37, cd_X7_readPerson_71, fl_X7_12, fl_X7_25, fl_X7_43, fl_X7_49, ev_b_9, no_0, no_1, no_lt, no_le, no_eq, no_lt0, no_ge0, no_gt0, no_le0, no_eq0, no_0eq, no_eqm, no_meq, no_m0, no_mlt, no_mge, no_mgt, no_mm, no_i01, no_i10, no_in, no_or, no_ifm, no_mul, nI_add, no_sub, pk_div, iI_if, nI_clamp, oI_n, oI_s, not_true_eq_false, not_false_eq_true, forall_const, true_implies, false_and, and_false, or_false, false_or, Classical.not_not, true_or, or_true, no_b, no_eq1, eq_self, and_self, xk_0 hp, xk_1 hp, xk_2 hp, xk_3 hp, xk_4 hp, xk_5 hp, xk_6 hp, xk_7 hp, xk_8 hp, xk_9 hp, xk_10 hp, xk_11 hp, xk_12 hp, xk_13 hp, xk_14 hp, xk_15 hp, xk_16 hp, xk_17 hp, xk_18 hp, xk_19 hp, xk_20 hp, xk_21 hp, xl_1 hp, xl_2 hp, xl_3 hp, xl_4 hp, xl_6 hp, xl_8 hp, xl_10 hp, xl_12 hp, xl_14 hp, xl_15 hp, xl_17 hp, xl_18 hp, xl_21 hp, xp_7 hp, xp_8 hp, xp_9 hp, xp_10 hp, xp_11 hp, xp_12 hp, xp_13 hp, xp_14 hp, xp_15 hp, xp_16 hp, xp_17 hp, xp_t5 hp, xp_t7 hp, xp_t9 hp, xp_t11 hp, xp_t20 hp, xp_s19 hp, xp_a13 hp, xp_b13 hp, xp_a16 hp, xp_b16 hp, xc_r5 hp, xc_c5 hp, xc_r7 hp, xc_c7 hp, xc_r9 hp, xc_c9 hp, xc_r11 hp, xc_c11 hp, xc_r20 hp, xc_c20 hp, no_on, hK, hpp, pe_1, pe_7, pe_w7, w1_d, hz, no_mm])
          | (with_reducible refine ev_gid ?_; simp (disch := first | omega | assumption) only [ev_run_c, ev_run_n, ev_fj, ev_stp, ev_lk, ev_fv, ev_as, ev_sz, ev_st1, ev_st2, ev_rm, ev_pk, ev_Jof, ev_go, lv_args, List.map_cons, List.map_nil, List.zip_cons_cons, List.zip_nil_left, List.zip_nil_right, List.nil_append, List.cons_append, ↓reduceIte, reduceCtorEq, Int.reduceToNat, Nat.reduceEqDiff, Nat.reduceAdd, Nat.reduceLT, Nat.reduceLeDiff, Nat.reduceMul, Nat.reduceSub, Value.category, false_implies, true_and, and_true, Bool.false_eq_true, Option.some.injEq, exists_eq_left', Option.toList_some, Option.toList_none, ev_km, ev_k2, ev_k3, ev_k4, ev_k5, ev_l0, ev_l1, sh_1, sh_2, sh_3, sh_4, sh_5, at_X7_readPerson_37, at_X7_readPerson_71, ca_X7_166, ca_X7_188, ca_X7_191, ca_X7_195, ca_X7_67, ca_X7_81, cd_X7_readPerson_0, cd_X7_readPerson_37, cd_X7_readPerson_71, fl_X7_12, fl_X7_25, fl_X7_43, fl_X7_49, ev_b_9, no_0, no_1, no_lt, no_le, no_eq, no_lt0, no_ge0, no_gt0, no_le0, no_eq0, no_0eq, no_eqm, no_meq, no_m0, no_mlt, no_mge, no_mgt, no_mm, no_i01, no_i10, no_in, no_or, no_ifm, no_mul, nI_add, no_sub, pk_div, iI_if, nI_clamp, oI_n, oI_s, not_true_eq_false, not_false_eq_true, forall_const, true_implies, false_and, and_false, or_false, false_or, Classical.not_not, true_or, or_true, no_b, no_eq1, eq_self, and_self, xk_0 hp, xk_1 hp, xk_2 hp, xk_3 hp, xk_4 hp, xk_5 hp, xk_6 hp, xk_7 hp, xk_8 hp, xk_9 hp, xk_10 hp, xk_11 hp, xk_12 hp, xk_13 hp, xk_14 hp, xk_15 hp, xk_16 hp, xk_17 hp, xk_18 hp, xk_19 hp, xk_20 hp, xk_21 hp, xl_1 hp, xl_2 hp, xl_3 hp, xl_4 hp, xl_6 hp, xl_8 hp, xl_10 hp, xl_12 hp, xl_14 hp, xl_15 hp, xl_17 hp, xl_18 hp, xl_21 hp, xp_7 hp, xp_8 hp, xp_9 hp, xp_10 hp, xp_11 hp, xp_12 hp, xp_13 hp, xp_14 hp, xp_15 hp, xp_16 hp, xp_17 hp, xp_t5 hp, xp_t7 hp, xp_t9 hp, xp_t11 hp, xp_t20 hp, xp_s19 hp, xp_a13 hp, xp_b13 hp, xp_a16 hp, xp_b16 hp, xc_r5 hp, xc_c5 hp, xc_r7 hp, xc_c7 hp, xc_r9 hp, xc_c9 hp, xc_r11 hp, xc_c11 hp, xc_r20 hp, xc_c20 hp, no_on, hK, hpp, pe_1, pe_7, pe_w7, w1_d, hz, no_mm])
          | (with_reducible refine And.intro (fun q => ?_) (fun q => ?_) <;> (try simp (disch := first | omega | assumption) only [no_0, no_1, no_lt, no_le, no_eq, no_lt0, no_ge0, no_gt0, no_le0, no_eq0, no_0eq, no_eqm, no_meq, no_m0, no_mlt, no_mge, no_mgt, no_mm, no_i01, no_i10, no_in, no_or, no_ifm, no_mul, nI_add, no_sub, pk_div, iI_if, nI_clamp, oI_n, oI_s, not_true_eq_false, not_false_eq_true, forall_const, true_implies, false_and, and_false, or_false, false_or, Classical.not_not, true_or, or_true, no_b, no_eq1, eq_self, and_self, xk_0 hp, xk_1 hp, xk_2 hp, xk_3 hp, xk_4 hp, xk_5 hp, xk_6 hp, xk_7 hp, xk_8 hp, xk_9 hp, xk_10 hp, xk_11 hp, xk_12 hp, xk_13 hp, xk_14 hp, xk_15 hp, xk_16 hp, xk_17 hp, xk_18 hp, xk_19 hp, xk_20 hp, xk_21 hp, xl_1 hp, xl_2 hp, xl_3 hp, xl_4 hp, xl_6 hp, xl_8 hp, xl_10 hp, xl_12 hp, xl_14 hp, xl_15 hp, xl_17 hp, xl_18 hp, xl_21 hp, xp_7 hp, xp_8 hp, xp_9 hp, xp_10 hp, xp_11 hp, xp_12 hp, xp_13 hp, xp_14 hp, xp_15 hp, xp_16 hp, xp_17 hp, xp_t5 hp, xp_t7 hp, xp_t9 hp, xp_t11 hp, xp_t20 hp, xp_s19 hp, xp_a13 hp, xp_b13 hp, xp_a16 hp, xp_b16 hp, xc_r5 hp, xc_c5 hp, xc_r7 hp, xc_c7 hp, xc_r9 hp, xc_c9 hp, xc_r11 hp, xc_c11 hp, xc_r20 hp, xc_c20 hp, no_on, hK, hpp, pe_1, pe_7, pe_w7, w1_d, hz, no_mm] at q))
          | (with_reducible refine ev_ci h0 ?_)
          | (with_reducible refine ev_ci h1 ?_)
          | (with_reducible refine ev_ci h2 ?_)
          | (with_reducible refine ev_ci h3 ?_)
          | (with_reducible refine ev_ci hop ?_)
          | with_reducible refine ev_ci (m_fail_n hok (by assumption) ?_ _ _) ?_
          | omega
          | with_reducible assumption
          | with_reducible rfl
          | (refine Nat.lt_of_lt_of_le ?_ (Nat.le_refl 312); omega)
          | with_reducible refine lp_nx ?_ ?_ ?_ ?_
          | with_reducible refine lp_st ?_ ?_ ?_
          | with_reducible refine ls_c ?_ ?_
          | with_reducible refine vi_c ?_
          | with_reducible refine re_c ?_
          | with_reducible refine vz_c ?_
          | with_reducible refine rz_c ?_
          | exact trivial
          | with_reducible refine And.intro ?_ ?_
          | simp (disch := first | omega | assumption) only [ev_run_c, ev_run_n, ev_fj, ev_stp, ev_lk, ev_fv, ev_as, ev_sz, ev_st1, ev_st2, ev_rm, ev_pk, ev_Jof, ev_go, lv_args, List.map_cons, List.map_nil, List.zip_cons_cons, List.zip_nil_left, List.zip_nil_right, List.nil_append, List.cons_append, ↓reduceIte, reduceCtorEq, Int.reduceToNat, Nat.reduceEqDiff, Nat.reduceAdd, Nat.reduceLT, Nat.reduceLeDiff, Nat.reduceMul, Nat.reduceSub, Value.category, false_implies, true_and, and_true, Bool.false_eq_true, Option.some.injEq, exists_eq_left', Option.toList_some, Option.toList_none, ev_km, ev_k2, ev_k3, ev_k4, ev_k5, ev_l0, ev_l1, sh_1, sh_2, sh_3, sh_4, sh_5, at_X7_readPerson_37, at_X7_readPerson_71, ca_X7_166, ca_X7_188, ca_X7_191, ca_X7_195, ca_X7_67, ca_X7_81, cd_X7_readPerson_0, cd_X7_readPerson_37, cd_X7_readPerson_71, fl_X7_12, fl_X7_25, fl_X7_43, fl_X7_49, ev_b_9, no_0, no_1, no_lt, no_le, no_eq, no_lt0, no_ge0, no_gt0, no_le0, no_eq0, no_0eq, no_eqm, no_meq, no_m0, no_mlt, no_mge, no_mgt, no_mm, no_i01, no_i10, no_in, no_or, no_ifm, no_mul, nI_add, no_sub, pk_div, iI_if, nI_clamp, oI_n, oI_s, not_true_eq_false, not_false_eq_true, forall_const, true_implies, false_and, and_false, or_false, false_or, Classical.not_not, true_or, or_true, no_b, no_eq1, eq_self, and_self, xk_0 hp, xk_1 hp, xk_2 hp, xk_3 hp, xk_4 hp, xk_5 hp, xk_6 hp, xk_7 hp, xk_8 hp, xk_9 hp, xk_10 hp, xk_11 hp, xk_12 hp, xk_13 hp, xk_14 hp, xk_15 hp, xk_16 hp, xk_17 hp, xk_18 hp, xk_19 hp, xk_20 hp, xk_21 hp, xl_1 hp, xl_2 hp, xl_3 hp, xl_4 hp, xl_6 hp, xl_8 hp, xl_10 hp, xl_12 hp, xl_14 hp, xl_15 hp, xl_17 hp, xl_18 hp, xl_21 hp, xp_7 hp, xp_8 hp, xp_9 hp, xp_10 hp, xp_11 hp, xp_12 hp, xp_13 hp, xp_14 hp, xp_15 hp, xp_16 hp, xp_17 hp, xp_t5 hp, xp_t7 hp, xp_t9 hp, xp_t11 hp, xp_t20 hp, xp_s19 hp, xp_a13 hp, xp_b13 hp, xp_a16 hp, xp_b16 hp, xc_r5 hp, xc_c5 hp, xc_r7 hp, xc_c7 hp, xc_r9 hp, xc_c9 hp, xc_r11 hp, xc_c11 hp, xc_r20 hp, xc_c20 hp, no_on, hK, hpp, pe_1, pe_7, pe_w7, w1_d, hz, no_mm]
          | exact rfl
          | (split <;> omega))
      · unfold x_ap
        refine ⟨fun b k hb => ?_, fun b k hb => ?_, rfl, ?_, ?_⟩
        · rw [w1_n (by omega), w1_n (by omega), wl_1]; exact pe_n (by omega)
        · rw [w1_2, w1_2, wl_n (by omega), pe_s]
        · rw [w1_n (by omega), w1_n (by omega), wl_1]; exact pe_6
        · rw [w1_n (by omega), w1_n (by omega), wl_1]; exact pe_n (by omega)
      · unfold x_ap
        rw [w1_n (by omega), w1_n (by omega), wl_1]; exact pe_1
      · unfold x_ap
        rw [w1_n (by omega), w1_n (by omega), wl_1]; exact pe_2
      · unfold x_ap
        rw [w1_n (by omega), w1_n (by omega), wl_1]; exact pe_7
    · refine RD_e (a2 := a + 1 + 1) ?_ hz c3
      by_cases hc : pv B n N a < N 0
      · have hc2 : fnm N (w64 (tvl B n a)) (N 0) < N 0 := hc
        rw [if_pos hc2] at h2
        have hf := m_fail (μ := μ) (e := e1) (a := a) (c := 3) (i := a) hok hT c1 (fun _ => ha)
        rw [← er_True (b := pv B n N a < N 0) hc, ← he2] at hf
        refine ev_tri hok okM_X7_readPerson (Nat.le_of_ble_eq_true rfl) 400 ?_
        rw [at_X7_readPerson_0]
        repeat' (first
          | (with_reducible refine ev_rid ?_; simp (disch := first | omega | assumption) only [ev_run_c, ev_run_n, ev_fj, ev_stp, ev_lk, ev_fv, ev_as, ev_sz, ev_st1, ev_st2, ev_rm, ev_pk, ev_Jof, ev_go, lv_args, List.map_cons, List.map_nil, List.zip_cons_cons, List.zip_nil_left, List.zip_nil_right, List.nil_append, List.cons_append, ↓reduceIte, reduceCtorEq, Int.reduceToNat, Nat.reduceEqDiff, Nat.reduceAdd, Nat.reduceLT, Nat.reduceLeDiff, Nat.reduceMul, Nat.reduceSub, Value.category, false_implies, true_and, and_true, Bool.false_eq_true, Option.some.injEq, exists_eq_left', Option.toList_some, Option.toList_none, ev_km, ev_k2, ev_k3, ev_k4, ev_k5, ev_l0, ev_l1, sh_1, sh_2, sh_3, sh_4, sh_5, at_X7_readPerson_37, at_X7_readPerson_71, ca_X7_166, ca_X7_188, ca_X7_191, ca_X7_195, ca_X7_67, ca_X7_81, cd_X7_readPerson_0, cd_X7_readPerson_37, cd_X7_readPerson_71, fl_X7_12, fl_X7_25, fl_X7_43, fl_X7_49, ev_b_9, no_0, no_1, no_lt, no_le, no_eq, no_lt0, no_ge0, no_gt0, no_le0, no_eq0, no_0eq, no_eqm, no_meq, no_m0, no_mlt, no_mge, no_mgt, no_mm, no_i01, no_i10, no_in, no_or, no_ifm, no_mul, nI_add, no_sub, pk_div, iI_if, nI_clamp, oI_n, oI_s, not_true_eq_false, not_false_eq_true, forall_const, true_implies, false_and, and_false, or_false, false_or, Classical.not_not, true_or, or_true, no_b, no_eq1, eq_self, and_self, xk_0 hp, xk_1 hp, xk_2 hp, xk_3 hp, xk_4 hp, xk_5 hp, xk_6 hp, xk_7 hp, xk_8 hp, xk_9 hp, xk_10 hp, xk_11 hp, xk_12 hp, xk_13 hp, xk_14 hp, xk_15 hp, xk_16 hp, xk_17 hp, xk_18 hp, xk_19 hp, xk_20 hp, xk_21 hp, xl_1 hp, xl_2 hp, xl_3 hp, xl_4 hp, xl_6 hp, xl_8 hp, xl_10 hp, xl_12 hp, xl_14 hp, xl_15 hp, xl_17 hp, xl_18 hp, xl_21 hp, xp_7 hp, xp_8 hp, xp_9 hp, xp_10 hp, xp_11 hp, xp_12 hp, xp_13 hp, xp_14 hp, xp_15 hp, xp_16 hp, xp_17 hp, xp_t5 hp, xp_t7 hp, xp_t9 hp, xp_t11 hp, xp_t20 hp, xp_s19 hp, xp_a13 hp, xp_b13 hp, xp_a16 hp, xp_b16 hp, xc_r5 hp, xc_c5 hp, xc_r7 hp, xc_c7 hp, xc_r9 hp, xc_c9 hp, xc_r11 hp, xc_c11 hp, xc_r20 hp, xc_c20 hp, no_on, hK, hpp, pe_1, pe_7, pe_w7, w1_d, hz])
          | (with_reducible refine ev_gid ?_; simp (disch := first | omega | assumption) only [ev_run_c, ev_run_n, ev_fj, ev_stp, ev_lk, ev_fv, ev_as, ev_sz, ev_st1, ev_st2, ev_rm, ev_pk, ev_Jof, ev_go, lv_args, List.map_cons, List.map_nil, List.zip_cons_cons, List.zip_nil_left, List.zip_nil_right, List.nil_append, List.cons_append, ↓reduceIte, reduceCtorEq, Int.reduceToNat, Nat.reduceEqDiff, Nat.reduceAdd, Nat.reduceLT, Nat.reduceLeDiff, Nat.reduceMul, Nat.reduceSub, Value.category, false_implies, true_and, and_true, Bool.false_eq_true, Option.some.injEq, exists_eq_left', Option.toList_some, Option.toList_none, ev_km, ev_k2, ev_k3, ev_k4, ev_k5, ev_l0, ev_l1, sh_1, sh_2, sh_3, sh_4, sh_5, at_X7_readPerson_37, at_X7_readPerson_71, ca_X7_166, ca_X7_188, ca_X7_191, ca_X7_195, ca_X7_67, ca_X7_81, cd_X7_readPerson_0, cd_X7_readPerson_37, cd_X7_readPerson_71, fl_X7_12, fl_X7_25, fl_X7_43, fl_X7_49, ev_b_9, no_0, no_1, no_lt, no_le, no_eq, no_lt0, no_ge0, no_gt0, no_le0, no_eq0, no_0eq, no_eqm, no_meq, no_m0, no_mlt, no_mge, no_mgt, no_mm, no_i01, no_i10, no_in, no_or, no_ifm, no_mul, nI_add, no_sub, pk_div, iI_if, nI_clamp, oI_n, oI_s, not_true_eq_false, not_false_eq_true, forall_const, true_implies, false_and, and_false, or_false, false_or, Classical.not_not, true_or, or_true, no_b, no_eq1, eq_self, and_self, xk_0 hp, xk_1 hp, xk_2 hp, xk_3 hp, xk_4 hp, xk_5 hp, xk_6 hp, xk_7 hp, xk_8 hp, xk_9 hp, xk_10 hp, xk_11 hp, xk_12 hp, xk_13 hp, xk_14 hp, xk_15 hp, xk_16 hp, xk_17 hp, xk_18 hp, xk_19 hp, xk_20 hp, xk_21 hp, xl_1 hp, xl_2 hp, xl_3 hp, xl_4 hp, xl_6 hp, xl_8 hp, xl_10 hp, xl_12 hp, xl_14 hp, xl_15 hp, xl_17 hp, xl_18 hp, xl_21 hp, xp_7 hp, xp_8 hp, xp_9 hp, xp_10 hp, xp_11 hp, xp_12 hp, xp_13 hp, xp_14 hp, xp_15 hp, xp_16 hp, xp_17 hp, xp_t5 hp, xp_t7 hp, xp_t9 hp, xp_t11 hp, xp_t20 hp, xp_s19 hp, xp_a13 hp, xp_b13 hp, xp_a16 hp, xp_b16 hp, xc_r5 hp, xc_c5 hp, xc_r7 hp, xc_c7 hp, xc_r9 hp, xc_c9 hp, xc_r11 hp, xc_c11 hp, xc_r20 hp, xc_c20 hp, no_on, hK, hpp, pe_1, pe_7, pe_w7, w1_d, hz])
          | (with_reducible refine And.intro (fun q => ?_) (fun q => ?_) <;> (try simp (disch := first | omega | assumption) only [no_0, no_1, no_lt, no_le, no_eq, no_lt0, no_ge0, no_gt0, no_le0, no_eq0, no_0eq, no_eqm, no_meq, no_m0, no_mlt, no_mge, no_mgt, no_mm, no_i01, no_i10, no_in, no_or, no_ifm, no_mul, nI_add, no_sub, pk_div, iI_if, nI_clamp, oI_n, oI_s, not_true_eq_false, not_false_eq_true, forall_const, true_implies, false_and, and_false, or_false, false_or, Classical.not_not, true_or, or_true, no_b, no_eq1, eq_self, and_self, xk_0 hp, xk_1 hp, xk_2 hp, xk_3 hp, xk_4 hp, xk_5 hp, xk_6 hp, xk_7 hp, xk_8 hp, xk_9 hp, xk_10 hp, xk_11 hp, xk_12 hp, xk_13 hp, xk_14 hp, xk_15 hp, xk_16 hp, xk_17 hp, xk_18 hp, xk_19 hp, xk_20 hp, xk_21 hp, xl_1 hp, xl_2 hp, xl_3 hp, xl_4 hp, xl_6 hp, xl_8 hp, xl_10 hp, xl_12 hp, xl_14 hp, xl_15 hp, xl_17 hp, xl_18 hp, xl_21 hp, xp_7 hp, xp_8 hp, xp_9 hp, xp_10 hp, xp_11 hp, xp_12 hp, xp_13 hp, xp_14 hp, xp_15 hp, xp_16 hp, xp_17 hp, xp_t5 hp, xp_t7 hp, xp_t9 hp, xp_t11 hp, xp_t20 hp, xp_s19 hp, xp_a13 hp, xp_b13 hp, xp_a16 hp, xp_b16 hp, xc_r5 hp, xc_c5 hp, xc_r7 hp, xc_c7 hp, xc_r9 hp, xc_c9 hp, xc_r11 hp, xc_c11 hp, xc_r20 hp, xc_c20 hp, no_on, hK, hpp, pe_1, pe_7, pe_w7, w1_d, hz] at q))
          | (with_reducible refine ev_ci h0 ?_)
          | (with_reducible refine ev_ci h1 ?_)
          | (with_reducible refine ev_ci h2 ?_)
          | (with_reducible refine ev_ci h3 ?_)
          | (with_reducible refine ev_ci hf ?_)
          | with_reducible refine ev_ci (m_fail_n hok (by assumption) ?_ _ _) ?_
          | omega
          | with_reducible assumption
          | with_reducible rfl
          | (refine Nat.lt_of_lt_of_le ?_ (Nat.le_refl 312); omega)
          | with_reducible refine lp_nx ?_ ?_ ?_ ?_
          | with_reducible refine lp_st ?_ ?_ ?_
          | with_reducible refine ls_c ?_ ?_
          | with_reducible refine vi_c ?_
          | with_reducible refine re_c ?_
          | with_reducible refine vz_c ?_
          | with_reducible refine rz_c ?_
          | exact trivial
          | with_reducible refine And.intro ?_ ?_
          | simp (disch := first | omega | assumption) only [ev_run_c, ev_run_n, ev_fj, ev_stp, ev_lk, ev_fv, ev_as, ev_sz, ev_st1, ev_st2, ev_rm, ev_pk, ev_Jof, ev_go, lv_args, List.map_cons, List.map_nil, List.zip_cons_cons, List.zip_nil_left, List.zip_nil_right, List.nil_append, List.cons_append, ↓reduceIte, reduceCtorEq, Int.reduceToNat, Nat.reduceEqDiff, Nat.reduceAdd, Nat.reduceLT, Nat.reduceLeDiff, Nat.reduceMul, Nat.reduceSub, Value.category, false_implies, true_and, and_true, Bool.false_eq_true, Option.some.injEq, exists_eq_left', Option.toList_some, Option.toList_none, ev_km, ev_k2, ev_k3, ev_k4, ev_k5, ev_l0, ev_l1, sh_1, sh_2, sh_3, sh_4, sh_5, at_X7_readPerson_37, at_X7_readPerson_71, ca_X7_166, ca_X7_188, ca_X7_191, ca_X7_195, ca_X7_67, ca_X7_81, cd_X7_readPerson_0, cd_X7_readPerson_37, cd_X7_readPerson_71, fl_X7_12, fl_X7_25, fl_X7_43, fl_X7_49, ev_b_9, no_0, no_1, no_lt, no_le, no_eq, no_lt0, no_ge0, no_gt0, no_le0, no_eq0, no_0eq, no_eqm, no_meq, no_m0, no_mlt, no_mge, no_mgt, no_mm, no_i01, no_i10, no_in, no_or, no_ifm, no_mul, nI_add, no_sub, pk_div, iI_if, nI_clamp, oI_n, oI_s, not_true_eq_false, not_false_eq_true, forall_const, true_implies, false_and, and_false, or_false, false_or, Classical.not_not, true_or, or_true, no_b, no_eq1, eq_self, and_self, xk_0 hp, xk_1 hp, xk_2 hp, xk_3 hp, xk_4 hp, xk_5 hp, xk_6 hp, xk_7 hp, xk_8 hp, xk_9 hp, xk_10 hp, xk_11 hp, xk_12 hp, xk_13 hp, xk_14 hp, xk_15 hp, xk_16 hp, xk_17 hp, xk_18 hp, xk_19 hp, xk_20 hp, xk_21 hp, xl_1 hp, xl_2 hp, xl_3 hp, xl_4 hp, xl_6 hp, xl_8 hp, xl_10 hp, xl_12 hp, xl_14 hp, xl_15 hp, xl_17 hp, xl_18 hp, xl_21 hp, xp_7 hp, xp_8 hp, xp_9 hp, xp_10 hp, xp_11 hp, xp_12 hp, xp_13 hp, xp_14 hp, xp_15 hp, xp_16 hp, xp_17 hp, xp_t5 hp, xp_t7 hp, xp_t9 hp, xp_t11 hp, xp_t20 hp, xp_s19 hp, xp_a13 hp, xp_b13 hp, xp_a16 hp, xp_b16 hp, xc_r5 hp, xc_c5 hp, xc_r7 hp, xc_c7 hp, xc_r9 hp, xc_c9 hp, xc_r11 hp, xc_c11 hp, xc_r20 hp, xc_c20 hp, no_on, hK, hpp, pe_1, pe_7, pe_w7, w1_d, hz]
          | exact rfl
          | (split <;> omega))
      · have hc2 : ¬ fnm N (w64 (tvl B n a)) (N 0) < N 0 := hc
        have h9 : iI (-1) = -1 := rfl
        rw [if_neg hc2, h9] at h2
        have he3 : e2 = e1 := he2.trans (er_f hc)
        rw [he3] at h3 hz c3 ⊢
        refine ev_tri hok okM_X7_readPerson (Nat.le_of_ble_eq_true rfl) 400 ?_
        rw [at_X7_readPerson_0]
        repeat' (first
          | (with_reducible refine ev_rid ?_; simp (disch := first | omega | assumption) only [ev_run_c, ev_run_n, ev_fj, ev_stp, ev_lk, ev_fv, ev_as, ev_sz, ev_st1, ev_st2, ev_rm, ev_pk, ev_Jof, ev_go, lv_args, List.map_cons, List.map_nil, List.zip_cons_cons, List.zip_nil_left, List.zip_nil_right, List.nil_append, List.cons_append, ↓reduceIte, reduceCtorEq, Int.reduceToNat, Nat.reduceEqDiff, Nat.reduceAdd, Nat.reduceLT, Nat.reduceLeDiff, Nat.reduceMul, Nat.reduceSub, Value.category, false_implies, true_and, and_true, Bool.false_eq_true, Option.some.injEq, exists_eq_left', Option.toList_some, Option.toList_none, ev_km, ev_k2, ev_k3, ev_k4, ev_k5, ev_l0, ev_l1, sh_1, sh_2, sh_3, sh_4, sh_5, at_X7_readPerson_37, at_X7_readPerson_71, ca_X7_166, ca_X7_188, ca_X7_191, ca_X7_195, ca_X7_67, ca_X7_81, cd_X7_readPerson_0, cd_X7_readPerson_37, cd_X7_readPerson_71, fl_X7_12, fl_X7_25, fl_X7_43, fl_X7_49, ev_b_9, no_0, no_1, no_lt, no_le, no_eq, no_lt0, no_ge0, no_gt0, no_le0, no_eq0, no_0eq, no_eqm, no_meq, no_m0, no_mlt, no_mge, no_mgt, no_mm, no_i01, no_i10, no_in, no_or, no_ifm, no_mul, nI_add, no_sub, pk_div, iI_if, nI_clamp, oI_n, oI_s, not_true_eq_false, not_false_eq_true, forall_const, true_implies, false_and, and_false, or_false, false_or, Classical.not_not, true_or, or_true, no_b, no_eq1, eq_self, and_self, xk_0 hp, xk_1 hp, xk_2 hp, xk_3 hp, xk_4 hp, xk_5 hp, xk_6 hp, xk_7 hp, xk_8 hp, xk_9 hp, xk_10 hp, xk_11 hp, xk_12 hp, xk_13 hp, xk_14 hp, xk_15 hp, xk_16 hp, xk_17 hp, xk_18 hp, xk_19 hp, xk_20 hp, xk_21 hp, xl_1 hp, xl_2 hp, xl_3 hp, xl_4 hp, xl_6 hp, xl_8 hp, xl_10 hp, xl_12 hp, xl_14 hp, xl_15 hp, xl_17 hp, xl_18 hp, xl_21 hp, xp_7 hp, xp_8 hp, xp_9 hp, xp_10 hp, xp_11 hp, xp_12 hp, xp_13 hp, xp_14 hp, xp_15 hp, xp_16 hp, xp_17 hp, xp_t5 hp, xp_t7 hp, xp_t9 hp, xp_t11 hp, xp_t20 hp, xp_s19 hp, xp_a13 hp, xp_b13 hp, xp_a16 hp, xp_b16 hp, xc_r5 hp, xc_c5 hp, xc_r7 hp, xc_c7 hp, xc_r9 hp, xc_c9 hp, xc_r11 hp, xc_c11 hp, xc_r20 hp, xc_c20 hp, no_on, hK, hpp, pe_1, pe_7, pe_w7, w1_d, hz, no_mm])
          | (with_reducible refine ev_gid ?_; simp (disch := first | omega | assumption) only [ev_run_c, ev_run_n, ev_fj, ev_stp, ev_lk, ev_fv, ev_as, ev_sz, ev_st1, ev_st2, ev_rm, ev_pk, ev_Jof, ev_go, lv_args, List.map_cons, List.map_nil, List.zip_cons_cons, List.zip_nil_left, List.zip_nil_right, List.nil_append, List.cons_append, ↓reduceIte, reduceCtorEq, Int.reduceToNat, Nat.reduceEqDiff, Nat.reduceAdd, Nat.reduceLT, Nat.reduceLeDiff, Nat.reduceMul, Nat.reduceSub, Value.category, false_implies, true_and, and_true, Bool.false_eq_true, Option.some.injEq, exists_eq_left', Option.toList_some, Option.toList_none, ev_km, ev_k2, ev_k3, ev_k4, ev_k5, ev_l0, ev_l1, sh_1, sh_2, sh_3, sh_4, sh_5, at_X7_readPerson_37, at_X7_readPerson_71, ca_X7_166, ca_X7_188, ca_X7_191, ca_X7_195, ca_X7_67, ca_X7_81, cd_X7_readPerson_0, cd_X7_readPerson_37, cd_X7_readPerson_71, fl_X7_12, fl_X7_25, fl_X7_43, fl_X7_49, ev_b_9, no_0, no_1, no_lt, no_le, no_eq, no_lt0, no_ge0, no_gt0, no_le0, no_eq0, no_0eq, no_eqm, no_meq, no_m0, no_mlt, no_mge, no_mgt, no_mm, no_i01, no_i10, no_in, no_or, no_ifm, no_mul, nI_add, no_sub, pk_div, iI_if, nI_clamp, oI_n, oI_s, not_true_eq_false, not_false_eq_true, forall_const, true_implies, false_and, and_false, or_false, false_or, Classical.not_not, true_or, or_true, no_b, no_eq1, eq_self, and_self, xk_0 hp, xk_1 hp, xk_2 hp, xk_3 hp, xk_4 hp, xk_5 hp, xk_6 hp, xk_7 hp, xk_8 hp, xk_9 hp, xk_10 hp, xk_11 hp, xk_12 hp, xk_13 hp, xk_14 hp, xk_15 hp, xk_16 hp, xk_17 hp, xk_18 hp, xk_19 hp, xk_20 hp, xk_21 hp, xl_1 hp, xl_2 hp, xl_3 hp, xl_4 hp, xl_6 hp, xl_8 hp, xl_10 hp, xl_12 hp, xl_14 hp, xl_15 hp, xl_17 hp, xl_18 hp, xl_21 hp, xp_7 hp, xp_8 hp, xp_9 hp, xp_10 hp, xp_11 hp, xp_12 hp, xp_13 hp, xp_14 hp, xp_15 hp, xp_16 hp, xp_17 hp, xp_t5 hp, xp_t7 hp, xp_t9 hp, xp_t11 hp, xp_t20 hp, xp_s19 hp, xp_a13 hp, xp_b13 hp, xp_a16 hp, xp_b16 hp, xc_r5 hp, xc_c5 hp, xc_r7 hp, xc_c7 hp, xc_r9 hp, xc_c9 hp, xc_r11 hp, xc_c11 hp, xc_r20 hp, xc_c20 hp, no_on, hK, hpp, pe_1, pe_7, pe_w7, w1_d, hz, no_mm])
          | (with_reducible refine And.intro (fun q => ?_) (fun q => ?_) <;> (try simp (disch := first | omega | assumption) only [no_0, no_1, no_lt, no_le, no_eq, no_lt0, no_ge0, no_gt0, no_le0, no_eq0, no_0eq, no_eqm, no_meq, no_m0, no_mlt, no_mge, no_mgt, no_mm, no_i01, no_i10, no_in, no_or, no_ifm, no_mul, nI_add, no_sub, pk_div, iI_if, nI_clamp, oI_n, oI_s, not_true_eq_false, not_false_eq_true, forall_const, true_implies, false_and, and_false, or_false, false_or, Classical.not_not, true_or, or_true, no_b, no_eq1, eq_self, and_self, xk_0 hp, xk_1 hp, xk_2 hp, xk_3 hp, xk_4 hp, xk_5 hp, xk_6 hp, xk_7 hp, xk_8 hp, xk_9 hp, xk_10 hp, xk_11 hp, xk_12 hp, xk_13 hp, xk_14 hp, xk_15 hp, xk_16 hp, xk_17 hp, xk_18 hp, xk_19 hp, xk_20 hp, xk_21 hp, xl_1 hp, xl_2 hp, xl_3 hp, xl_4 hp, xl_6 hp, xl_8 hp, xl_10 hp, xl_12 hp, xl_14 hp, xl_15 hp, xl_17 hp, xl_18 hp, xl_21 hp, xp_7 hp, xp_8 hp, xp_9 hp, xp_10 hp, xp_11 hp, xp_12 hp, xp_13 hp, xp_14 hp, xp_15 hp, xp_16 hp, xp_17 hp, xp_t5 hp, xp_t7 hp, xp_t9 hp, xp_t11 hp, xp_t20 hp, xp_s19 hp, xp_a13 hp, xp_b13 hp, xp_a16 hp, xp_b16 hp, xc_r5 hp, xc_c5 hp, xc_r7 hp, xc_c7 hp, xc_r9 hp, xc_c9 hp, xc_r11 hp, xc_c11 hp, xc_r20 hp, xc_c20 hp, no_on, hK, hpp, pe_1, pe_7, pe_w7, w1_d, hz, no_mm] at q))
          | (with_reducible refine ev_ci h0 ?_)
          | (with_reducible refine ev_ci h1 ?_)
          | (with_reducible refine ev_ci h2 ?_)
          | (with_reducible refine ev_ci h3 ?_)
          | with_reducible refine ev_ci (m_fail_n hok (by assumption) ?_ _ _) ?_
          | omega
          | with_reducible assumption
          | with_reducible rfl
          | (refine Nat.lt_of_lt_of_le ?_ (Nat.le_refl 312); omega)
          | with_reducible refine lp_nx ?_ ?_ ?_ ?_
          | with_reducible refine lp_st ?_ ?_ ?_
          | with_reducible refine ls_c ?_ ?_
          | with_reducible refine vi_c ?_
          | with_reducible refine re_c ?_
          | with_reducible refine vz_c ?_
          | with_reducible refine rz_c ?_
          | exact trivial
          | with_reducible refine And.intro ?_ ?_
          | simp (disch := first | omega | assumption) only [ev_run_c, ev_run_n, ev_fj, ev_stp, ev_lk, ev_fv, ev_as, ev_sz, ev_st1, ev_st2, ev_rm, ev_pk, ev_Jof, ev_go, lv_args, List.map_cons, List.map_nil, List.zip_cons_cons, List.zip_nil_left, List.zip_nil_right, List.nil_append, List.cons_append, ↓reduceIte, reduceCtorEq, Int.reduceToNat, Nat.reduceEqDiff, Nat.reduceAdd, Nat.reduceLT, Nat.reduceLeDiff, Nat.reduceMul, Nat.reduceSub, Value.category, false_implies, true_and, and_true, Bool.false_eq_true, Option.some.injEq, exists_eq_left', Option.toList_some, Option.toList_none, ev_km, ev_k2, ev_k3, ev_k4, ev_k5, ev_l0, ev_l1, sh_1, sh_2, sh_3, sh_4, sh_5, at_X7_readPerson_37, at_X7_readPerson_71, ca_X7_166, ca_X7_188, ca_X7_191, ca_X7_195, ca_X7_67, ca_X7_81, cd_X7_readPerson_0, cd_X7_readPerson_37, cd_X7_readPerson_71, fl_X7_12, fl_X7_25, fl_X7_43, fl_X7_49, ev_b_9, no_0, no_1, no_lt, no_le, no_eq, no_lt0, no_ge0, no_gt0, no_le0, no_eq0, no_0eq, no_eqm, no_meq, no_m0, no_mlt, no_mge, no_mgt, no_mm, no_i01, no_i10, no_in, no_or, no_ifm, no_mul, nI_add, no_sub, pk_div, iI_if, nI_clamp, oI_n, oI_s, not_true_eq_false, not_false_eq_true, forall_const, true_implies, false_and, and_false, or_false, false_or, Classical.not_not, true_or, or_true, no_b, no_eq1, eq_self, and_self, xk_0 hp, xk_1 hp, xk_2 hp, xk_3 hp, xk_4 hp, xk_5 hp, xk_6 hp, xk_7 hp, xk_8 hp, xk_9 hp, xk_10 hp, xk_11 hp, xk_12 hp, xk_13 hp, xk_14 hp, xk_15 hp, xk_16 hp, xk_17 hp, xk_18 hp, xk_19 hp, xk_20 hp, xk_21 hp, xl_1 hp, xl_2 hp, xl_3 hp, xl_4 hp, xl_6 hp, xl_8 hp, xl_10 hp, xl_12 hp, xl_14 hp, xl_15 hp, xl_17 hp, xl_18 hp, xl_21 hp, xp_7 hp, xp_8 hp, xp_9 hp, xp_10 hp, xp_11 hp, xp_12 hp, xp_13 hp, xp_14 hp, xp_15 hp, xp_16 hp, xp_17 hp, xp_t5 hp, xp_t7 hp, xp_t9 hp, xp_t11 hp, xp_t20 hp, xp_s19 hp, xp_a13 hp, xp_b13 hp, xp_a16 hp, xp_b16 hp, xc_r5 hp, xc_c5 hp, xc_r7 hp, xc_c7 hp, xc_r9 hp, xc_c9 hp, xc_r11 hp, xc_c11 hp, xc_r20 hp, xc_c20 hp, no_on, hK, hpp, pe_1, pe_7, pe_w7, w1_d, hz, no_mm]
          | exact rfl
          | (split <;> omega))
  exact key _ (er_c c1 (by decide)) (fun h => ⟨(er_0 h (by decide)).1, (er_0 h (by decide)).2.2⟩) rfl
/-- tastes, one after the other -/
def tsE (B : Nat → Nat) (n : Nat) (e : Nat × Int32) (a : Nat) : Nat → Nat × Int32
  | 0 => e
  | k + 1 => rN B n (tsE B n e a k) (a + k) 0 10
def tsN (B : Nat → Nat) (n : Nat) (N : Nat → Nat) (i a : Nat) : Nat → Nat → Nat
  | 0 => N
  | k + 1 => up (tsN B n N i a k) (8 + 59 * i + (2 + k)) (tvl B n (a + k))
def tsT (B : Nat → Nat) (n p i c1 : Nat) (e : Nat × Int32) (a : Nat) (μ : ev_M) : Nat → ev_M
  | 0 => μ
  | k + 1 => if c1 = 0 then w1 (tsT B n p i c1 e a μ k) (p + 6) (i * 4 + k) (rv (tsE B n e a (k + 1)).1 (tvl B n (a + k))) else tsT B n p i c1 e a μ k
theorem tsN_ne {i a k x : Nat} (h : x < 8 + 59 * i + 2 ∨ 8 + 59 * i + (2 + k) ≤ x) : tsN B n N i a k x = N x := by
  induction k with
  | zero => rfl
  | succ k ih =>
    show up (tsN B n N i a k) (8 + 59 * i + (2 + k)) (tvl B n (a + k)) x = N x
    rw [up_ne (by omega)]
    exact ih (by omega)
theorem tsE_ok {e : Nat × Int32} {a : Nat} (hT : TT B n m μ) (hc : e.1 < 5) (ha : e.1 = 0 → a ≤ m) (k : Nat) : (tsE B n e a k).1 < 5 ∧ ((tsE B n e a k).1 = 0 → a + k ≤ m ∧ e.1 = 0 ∧ tsE B n e a k = e) := by
  induction k with
  | zero => exact ⟨hc, fun h => ⟨ha h, h, rfl⟩⟩
  | succ k ih =>
    refine ⟨rN_c ih.1, fun h => ?_⟩
    have h9 : (rN B n (tsE B n e a k) (a + k) 0 10).1 = 0 := h
    obtain ⟨g1, g2, g3⟩ := rN_0 h9
    obtain ⟨h1, h2, h3⟩ := ih.2 g1
    have g4 := (nmc_0 g2).1
    have g5 : tkd B n (a + k) ≠ 0 := by omega
    have g6 := tk_nxt hT h1 g5
    exact ⟨g6, h2, g3.trans h3⟩
theorem tsT_fp {i c1 k a : Nat} {e : Nat × Int32} (hk : k ≤ 4) : Fp p μ (tsT B n p i c1 e a μ k) := by
  induction k with
  | zero => exact Fp_rf
  | succ k ih =>
    show Fp p μ (if c1 = 0 then _ else _)
    split
    · exact Fp_w1 (ih (by omega)) (by omega) (by omega)
    · exact ih (by omega)
theorem tsT_PR (hP : PR p N μ) (hI : INV N) {i k a : Nat} {e : Nat × Int32} (hi : i < 16) (hk : k ≤ 4) (hz : (tsE B n e a k).1 = 0) : PR p (tsN B n N i a k) (tsT B n p i 0 e a μ k) := by
  have hh := iv_h hI
  induction k with
  | zero => exact hP
  | succ k ih =>
    have hz2 : (rN B n (tsE B n e a k) (a + k) 0 10).1 = 0 := hz
    have h1 := ih (by omega) (rN_0 hz2).1
    have e1 : tsT B n p i 0 e a μ (k + 1) = w1 (tsT B n p i 0 e a μ k) (p + 6) (i * 4 + k) (nI (tvl B n (a + k))) := by
      show (if 0 = 0 then w1 (tsT B n p i 0 e a μ k) (p + 6) (i * 4 + k) (rv (tsE B n e a (k + 1)).1 (tvl B n (a + k))) else _) = _
      rw [if_pos rfl, hz]
      rfl
    rw [e1]
    refine PR_sta h1 (fun j hj => ?_) hi (by omega) ?_ ?_
    · rw [tsN_ne (by omega)]; exact (iv_p hI j hj).2
    · rw [tsN_ne (by omega)]; exact hh.1
    · rw [tsN_ne (by omega)]; exact hh.2.1
def q_taster (B : Nat → Nat) (n : Nat) (N : Nat → Nat) (a : Nat) : Nat × Int32 := tsE B n (rN B n (er (rP B n N (0, -1) a) (N (8 + 59 * pv B n N a + 1) ≠ 0) 3 a B n) (a + 1) 1 7) (a + 1 + 1) 4
set_option maxHeartbeats 2000000 in
theorem rd_taster (hok : ev_ok sh_S G) (hT : TT B n m μ) (hp6 : p = 6) (hP : PR p N μ) (hI : INV N) {a : Nat} (ha : a ≤ m) : RD G mi_X7_readTaster a μ (q_taster B n N a) (up (tsN B n N (pv B n N a) (a + 1 + 1) 4) (8 + 59 * pv B n N a + 1) (tvl B n (a + 1))) (a + 1 + 1 + 4) := by
  have hK := And.intro pk_5.1 pk_5.2.2
  have hpp : sh_pt 5 0 = p := by rw [hp6]; exact pk_5.2.1
  have hp : p ∈ sh_B := by rw [hp6]; exact sh_6
  have hlt := xp_lt hp
  have hh := iv_h hI
  have hm5 := hT.1
  have hP6 : PR 6 N μ := by rw [← hp6]; exact hP
  unfold q_taster
  have h1 := m_person (e := (0, -1)) (a := a) hok hT hP6 hh.1 (by decide) (fun _ => ha) (by omega)
  have c1 : (rP B n N (0, -1) a).1 < 5 := rP_c (by decide)
  have v1 : (rP B n N (0, -1) a).1 = 0 → pv B n N a < N 0 := fun h => (rP_0 h).2.2.2.1
  have n1 : (rP B n N (0, -1) a).1 = 0 → a + 1 ≤ m := rP_nx hT (fun _ => ha)
  generalize rP B n N (0, -1) a = e1 at h1 c1 v1 n1 ⊢
  generalize hi9 : pv B n N a = i at h1 v1 ⊢
  -- the check
  have hPz : PR p N (pe e1 (a + 1) μ) := PR_p hp6 hP
  have h2 : ∃ b, b ≤ 1 ∧ ev_T sh_S G mi_X4_isOneOfTasters [.ref p, .int (rv e1.1 i)] (pe e1 (a + 1) μ) (.inl (some (.int (nI b)), pe e1 (a + 1) μ)) ∧ (b = 0 → er e1 (N (8 + 59 * i + 1) ≠ 0) 3 a B n = e1) ∧ (b ≠ 0 → er e1 (N (8 + 59 * i + 1) ≠ 0) 3 a B n = er e1 True 3 a B n) := by
    by_cases z : e1.1 = 0
    · have hi : i < 16 := by have := v1 z; omega
      have g := m_X4_isOneOfTasters hok hp hPz hI hi
      rw [z, rv_0]
      by_cases c : N (8 + 59 * i + 1) = 0
      · rw [if_pos c] at g
        exact ⟨0, by omega, g, fun _ => er_f (fun q => q c), fun q => absurd rfl q⟩
      · rw [if_neg c] at g
        exact ⟨1, by omega, g, fun q => by omega, fun _ => er_True c⟩
    · rw [rv_n z]
      exact ⟨0, by omega, z_taster hok hp, fun _ => er_n z, fun q => absurd rfl q⟩
  obtain ⟨b, hb, h2, hb0, hb1⟩ := h2
  have hf := m_fail (μ := μ) (e := e1) (a := a + 1) (c := 3) (i := a) hok hT c1 (fun _ => ha)
  have c2 : (er e1 (N (8 + 59 * i + 1) ≠ 0) 3 a B n).1 < 5 := er_c c1 (by decide)
  have g2 := fun (h : (er e1 (N (8 + 59 * i + 1) ≠ 0) 3 a B n).1 = 0) => (er_0 h (by decide)).1
  generalize er e1 (N (8 + 59 * i + 1) ≠ 0) 3 a B n = e2 at hb0 hb1 c2 g2 ⊢
  have h3 := m_number (μ := μ) (e := e2) (a := a + 1) (l := 1) (g := 7) (y := nI 6) hok hT c2 (fun h => n1 (g2 h)) (by omega) (by omega) (by omega) (by decide)
  have c3 : (rN B n e2 (a + 1) 1 7).1 < 5 := rN_c c2
  have g3 := fun (h : (rN B n e2 (a + 1) 1 7).1 = 0) => (rN_0 h).1
  have n3 : (rN B n e2 (a + 1) 1 7).1 = 0 → a + 1 + 1 ≤ m := rN_nx hT (fun h => n1 (g2 h))
  generalize rN B n e2 (a + 1) 1 7 = e3 at h3 c3 g3 n3 ⊢
  have hTk := fun k => tsE_ok (e := e3) (a := a + 1 + 1) hT c3 n3 k
  have hset : ∀ k, k < 4 → ev_T sh_S G mi_X8_set [.ref (p + 5), .int (rv e1.1 i), .int (nI k), .int (rv (tsE B n e3 (a + 1 + 1) (k + 1)).1 (tvl B n (a + 1 + 1 + k)))] (pe (tsE B n e3 (a + 1 + 1) (k + 1)) (a + 1 + 1 + k + 1) (tsT B n p i e1.1 e3 (a + 1 + 1) μ k)) (.inl (none, pe (tsE B n e3 (a + 1 + 1) (k + 1)) (a + 1 + 1 + (k + 1)) (tsT B n p i e1.1 e3 (a + 1 + 1) μ (k + 1)))) := by
    intro k hk
    by_cases z : e1.1 = 0
    · have hi : i < 16 := by have := v1 z; omega
      have e : tsT B n p i e1.1 e3 (a + 1 + 1) μ (k + 1) = w1 (tsT B n p i e1.1 e3 (a + 1 + 1) μ k) (p + 6) (i * 4 + k) (rv (tsE B n e3 (a + 1 + 1) (k + 1)).1 (tvl B n (a + 1 + 1 + k))) := if_pos z
      rw [e, ← pe_w (by omega), z, rv_0]
      exact m_X8_set hok (sh_T5 hp) (xp_t5 hp) hi hk _
    · have e : tsT B n p i e1.1 e3 (a + 1 + 1) μ (k + 1) = tsT B n p i e1.1 e3 (a + 1 + 1) μ k := if_neg z
      rw [e, rv_n z]
      exact m_X8_set0 hok (sh_T5 hp) (xp_t5 hp) _ _ _ (Or.inl (by decide))
  have hnum : ∀ k, k < 4 → ev_T sh_S G mi_X7_number [.ref 5, .int (nI 0), .int (nI 9)] (pe (tsE B n e3 (a + 1 + 1) k) (a + 1 + 1 + k) (tsT B n p i e1.1 e3 (a + 1 + 1) μ k)) (.inl (some (.int (rv (tsE B n e3 (a + 1 + 1) (k + 1)).1 (tvl B n (a + 1 + 1 + k)))), pe (tsE B n e3 (a + 1 + 1) (k + 1)) (a + 1 + 1 + k + 1) (tsT B n p i e1.1 e3 (a + 1 + 1) μ k))) := fun k hk =>
    m_number (l := 0) (g := 10) hok (TT_fp hT hp6 (tsT_fp (by omega))) (hTk k).1 (fun h => ((hTk k).2 h).1) (by omega) (by omega) (by omega) (by decide)
  have run : ∀ (res : ev_R), (∀ T, T = tsT B n p i e1.1 e3 (a + 1 + 1) μ 4 → ∀ E, E = tsE B n e3 (a + 1 + 1) 4 → ((E.1 = 0 → ∃ μ'', ev_T sh_S G mi_X10_setCell [.ref (p + 3), .int (rv e1.1 i), .int (rv e3.1 (tvl B n (a + 1)))] (pe E (a + 1 + 1 + 4) T) (.inl (none, μ'')) ∧ res = .inl (none, μ'')) ∧ (E.1 ≠ 0 → res = .inl (none, pe E (a + 1 + 1 + 4) T)))) → ev_T sh_S G mi_X7_readTaster [.ref 5] (pe (0, -1) a μ) res := by
    intro res hres
    obtain ⟨hr1, hr2⟩ := hres _ rfl _ rfl
    refine ev_tri1 hok okM_X7_readTaster (Nat.le_of_ble_eq_true rfl) 37 [0, 1, 2, 3] 4 400 (fun k => [.ref 5, .int (rv e1.1 i), .int (rv e3.1 (tvl B n (a + 1))), .int (nI k)]) (fun k => pe (tsE B n e3 (a + 1 + 1) k) (a + 1 + 1 + k) (tsT B n p i e1.1 e3 (a + 1 + 1) μ k)) (fun _ => True) ?_ ?_
    · intro k hk _
      rw [at_X7_readTaster_37]
      rcases Nat.lt_or_ge k 4 with hkn | hkn
      · have hs1 := hset k hkn
        have hn1 := hnum k hkn
        repeat' (first
          | (with_reducible refine ev_rid ?_; simp (disch := first | omega | assumption) only [ev_run_c, ev_run_n, ev_fj, ev_stp, ev_lk, ev_fv, ev_as, ev_sz, ev_st1, ev_st2, ev_rm, ev_pk, ev_Jof, ev_go, lv_args, List.map_cons, List.map_nil, List.zip_cons_cons, List.zip_nil_left, List.zip_nil_right, List.nil_append, List.cons_append, ↓reduceIte, reduceCtorEq, Int.reduceToNat, Nat.reduceEqDiff, Nat.reduceAdd, Nat.reduceLT, Nat.reduceLeDiff, Nat.reduceMul, Nat.reduceSub, Value.category, false_implies, true_and, and_true, Bool.false_eq_true, Option.some.injEq, exists_eq_left', Option.toList_some, Option.toList_none, ev_km, ev_k2, ev_k3, ev_k4, ev_k5, ev_l0, ev_l1, sh_1, sh_2, sh_3, sh_4, sh_5, at_X7_readTaster_27, at_X7_readTaster_37, at_X7_readTaster_67, at_X7_readTaster_86, ca_X7_199, ca_X7_202, ca_X7_210, ca_X7_219, ca_X7_67, ca_X7_81, cd_X7_readTaster_0, cd_X7_readTaster_27, cd_X7_readTaster_37, cd_X7_readTaster_67, cd_X7_readTaster_86, fl_X7_12, fl_X7_206, fl_X7_216, fl_X7_43, fl_X7_49, ev_b_6, ev_b_9, no_0, no_1, no_lt, no_le, no_eq, no_lt0, no_ge0, no_gt0, no_le0, no_eq0, no_0eq, no_eqm, no_meq, no_m0, no_mlt, no_mge, no_mgt, no_mm, no_i01, no_i10, no_in, no_or, no_ifm, no_mul, nI_add, no_sub, pk_div, iI_if, nI_clamp, oI_n, oI_s, not_true_eq_false, not_false_eq_true, forall_const, true_implies, false_and, and_false, or_false, false_or, Classical.not_not, true_or, or_true, no_b, no_eq1, eq_self, and_self, xk_0 hp, xk_1 hp, xk_2 hp, xk_3 hp, xk_4 hp, xk_5 hp, xk_6 hp, xk_7 hp, xk_8 hp, xk_9 hp, xk_10 hp, xk_11 hp, xk_12 hp, xk_13 hp, xk_14 hp, xk_15 hp, xk_16 hp, xk_17 hp, xk_18 hp, xk_19 hp, xk_20 hp, xk_21 hp, xl_1 hp, xl_2 hp, xl_3 hp, xl_4 hp, xl_6 hp, xl_8 hp, xl_10 hp, xl_12 hp, xl_14 hp, xl_15 hp, xl_17 hp, xl_18 hp, xl_21 hp, xp_7 hp, xp_8 hp, xp_9 hp, xp_10 hp, xp_11 hp, xp_12 hp, xp_13 hp, xp_14 hp, xp_15 hp, xp_16 hp, xp_17 hp, xp_t5 hp, xp_t7 hp, xp_t9 hp, xp_t11 hp, xp_t20 hp, xp_s19 hp, xp_a13 hp, xp_b13 hp, xp_a16 hp, xp_b16 hp, xc_r5 hp, xc_c5 hp, xc_r7 hp, xc_c7 hp, xc_r9 hp, xc_c9 hp, xc_r11 hp, xc_c11 hp, xc_r20 hp, xc_c20 hp, no_on, hK, hpp, pe_1])
          | (with_reducible refine ev_gid ?_; simp (disch := first | omega | assumption) only [ev_run_c, ev_run_n, ev_fj, ev_stp, ev_lk, ev_fv, ev_as, ev_sz, ev_st1, ev_st2, ev_rm, ev_pk, ev_Jof, ev_go, lv_args, List.map_cons, List.map_nil, List.zip_cons_cons, List.zip_nil_left, List.zip_nil_right, List.nil_append, List.cons_append, ↓reduceIte, reduceCtorEq, Int.reduceToNat, Nat.reduceEqDiff, Nat.reduceAdd, Nat.reduceLT, Nat.reduceLeDiff, Nat.reduceMul, Nat.reduceSub, Value.category, false_implies, true_and, and_true, Bool.false_eq_true, Option.some.injEq, exists_eq_left', Option.toList_some, Option.toList_none, ev_km, ev_k2, ev_k3, ev_k4, ev_k5, ev_l0, ev_l1, sh_1, sh_2, sh_3, sh_4, sh_5, at_X7_readTaster_27, at_X7_readTaster_37, at_X7_readTaster_67, at_X7_readTaster_86, ca_X7_199, ca_X7_202, ca_X7_210, ca_X7_219, ca_X7_67, ca_X7_81, cd_X7_readTaster_0, cd_X7_readTaster_27, cd_X7_readTaster_37, cd_X7_readTaster_67, cd_X7_readTaster_86, fl_X7_12, fl_X7_206, fl_X7_216, fl_X7_43, fl_X7_49, ev_b_6, ev_b_9, no_0, no_1, no_lt, no_le, no_eq, no_lt0, no_ge0, no_gt0, no_le0, no_eq0, no_0eq, no_eqm, no_meq, no_m0, no_mlt, no_mge, no_mgt, no_mm, no_i01, no_i10, no_in, no_or, no_ifm, no_mul, nI_add, no_sub, pk_div, iI_if, nI_clamp, oI_n, oI_s, not_true_eq_false, not_false_eq_true, forall_const, true_implies, false_and, and_false, or_false, false_or, Classical.not_not, true_or, or_true, no_b, no_eq1, eq_self, and_self, xk_0 hp, xk_1 hp, xk_2 hp, xk_3 hp, xk_4 hp, xk_5 hp, xk_6 hp, xk_7 hp, xk_8 hp, xk_9 hp, xk_10 hp, xk_11 hp, xk_12 hp, xk_13 hp, xk_14 hp, xk_15 hp, xk_16 hp, xk_17 hp, xk_18 hp, xk_19 hp, xk_20 hp, xk_21 hp, xl_1 hp, xl_2 hp, xl_3 hp, xl_4 hp, xl_6 hp, xl_8 hp, xl_10 hp, xl_12 hp, xl_14 hp, xl_15 hp, xl_17 hp, xl_18 hp, xl_21 hp, xp_7 hp, xp_8 hp, xp_9 hp, xp_10 hp, xp_11 hp, xp_12 hp, xp_13 hp, xp_14 hp, xp_15 hp, xp_16 hp, xp_17 hp, xp_t5 hp, xp_t7 hp, xp_t9 hp, xp_t11 hp, xp_t20 hp, xp_s19 hp, xp_a13 hp, xp_b13 hp, xp_a16 hp, xp_b16 hp, xc_r5 hp, xc_c5 hp, xc_r7 hp, xc_c7 hp, xc_r9 hp, xc_c9 hp, xc_r11 hp, xc_c11 hp, xc_r20 hp, xc_c20 hp, no_on, hK, hpp, pe_1])
          | (with_reducible refine And.intro (fun q => ?_) (fun q => ?_) <;> (try simp (disch := first | omega | assumption) only [no_0, no_1, no_lt, no_le, no_eq, no_lt0, no_ge0, no_gt0, no_le0, no_eq0, no_0eq, no_eqm, no_meq, no_m0, no_mlt, no_mge, no_mgt, no_mm, no_i01, no_i10, no_in, no_or, no_ifm, no_mul, nI_add, no_sub, pk_div, iI_if, nI_clamp, oI_n, oI_s, not_true_eq_false, not_false_eq_true, forall_const, true_implies, false_and, and_false, or_false, false_or, Classical.not_not, true_or, or_true, no_b, no_eq1, eq_self, and_self, xk_0 hp, xk_1 hp, xk_2 hp, xk_3 hp, xk_4 hp, xk_5 hp, xk_6 hp, xk_7 hp, xk_8 hp, xk_9 hp, xk_10 hp, xk_11 hp, xk_12 hp, xk_13 hp, xk_14 hp, xk_15 hp, xk_16 hp, xk_17 hp, xk_18 hp, xk_19 hp, xk_20 hp, xk_21 hp, xl_1 hp, xl_2 hp, xl_3 hp, xl_4 hp, xl_6 hp, xl_8 hp, xl_10 hp, xl_12 hp, xl_14 hp, xl_15 hp, xl_17 hp, xl_18 hp, xl_21 hp, xp_7 hp, xp_8 hp, xp_9 hp, xp_10 hp, xp_11 hp, xp_12 hp, xp_13 hp, xp_14 hp, xp_15 hp, xp_16 hp, xp_17 hp, xp_t5 hp, xp_t7 hp, xp_t9 hp, xp_t11 hp, xp_t20 hp, xp_s19 hp, xp_a13 hp, xp_b13 hp, xp_a16 hp, xp_b16 hp, xc_r5 hp, xc_c5 hp, xc_r7 hp, xc_c7 hp, xc_r9 hp, xc_c9 hp, xc_r11 hp, xc_c11 hp, xc_r20 hp, xc_c20 hp, no_on, hK, hpp, pe_1] at q))
          | (with_reducible refine ev_ci hs1 ?_)
          | (with_reducible refine ev_ci hn1 ?_)
          | with_reducible refine ev_ci (m_X4_isOneOfTasters hok hp (by with_reducible assumption) (by with_reducible assumption) ?_) ?_
          | with_reducible refine ev_ci (m_fail_n hok (by assumption) ?_ _ _) ?_
          | with_reducible refine ev_ci (m_X8_set hok (sh_T20 hp) (xp_t20 hp) ?_ ?_ _) ?_
          | with_reducible refine ev_ci (m_X10_setCell hok ?_ ?_ ?_ ?_ _) ?_
          | omega
          | with_reducible assumption
          | with_reducible rfl
          | (refine Nat.lt_of_lt_of_le ?_ (Nat.le_refl 312); omega)
          | with_reducible refine lp_nx ?_ ?_ ?_ ?_
          | with_reducible refine lp_st ?_ ?_ ?_
          | with_reducible refine ls_c ?_ ?_
          | with_reducible refine vi_c ?_
          | with_reducible refine re_c ?_
          | with_reducible refine vz_c ?_
          | with_reducible refine rz_c ?_
          | exact trivial
          | with_reducible refine And.intro ?_ ?_
          | simp (disch := first | omega | assumption) only [ev_run_c, ev_run_n, ev_fj, ev_stp, ev_lk, ev_fv, ev_as, ev_sz, ev_st1, ev_st2, ev_rm, ev_pk, ev_Jof, ev_go, lv_args, List.map_cons, List.map_nil, List.zip_cons_cons, List.zip_nil_left, List.zip_nil_right, List.nil_append, List.cons_append, ↓reduceIte, reduceCtorEq, Int.reduceToNat, Nat.reduceEqDiff, Nat.reduceAdd, Nat.reduceLT, Nat.reduceLeDiff, Nat.reduceMul, Nat.reduceSub, Value.category, false_implies, true_and, and_true, Bool.false_eq_true, Option.some.injEq, exists_eq_left', Option.toList_some, Option.toList_none, ev_km, ev_k2, ev_k3, ev_k4, ev_k5, ev_l0, ev_l1, sh_1, sh_2, sh_3, sh_4, sh_5, at_X7_readTaster_27, at_X7_readTaster_37, at_X7_readTaster_67, at_X7_readTaster_86, ca_X7_199, ca_X7_202, ca_X7_210, ca_X7_219, ca_X7_67, ca_X7_81, cd_X7_readTaster_0, cd_X7_readTaster_27, cd_X7_readTaster_37, cd_X7_readTaster_67, cd_X7_readTaster_86, fl_X7_12, fl_X7_206, fl_X7_216, fl_X7_43, fl_X7_49, ev_b_6, ev_b_9, no_0, no_1, no_lt, no_le, no_eq, no_lt0, no_ge0, no_gt0, no_le0, no_eq0, no_0eq, no_eqm, no_meq, no_m0, no_mlt, no_mge, no_mgt, no_mm, no_i01, no_i10, no_in, no_or, no_ifm, no_mul, nI_add, no_sub, pk_div, iI_if, nI_clamp, oI_n, oI_s, not_true_eq_false, not_false_eq_true, forall_const, true_implies, false_and, and_false, or_false, false_or, Classical.not_not, true_or, or_true, no_b, no_eq1, eq_self, and_self, xk_0 hp, xk_1 hp, xk_2 hp, xk_3 hp, xk_4 hp, xk_5 hp, xk_6 hp, xk_7 hp, xk_8 hp, xk_9 hp, xk_10 hp, xk_11 hp, xk_12 hp, xk_13 hp, xk_14 hp, xk_15 hp, xk_16 hp, xk_17 hp, xk_18 hp, xk_19 hp, xk_20 hp, xk_21 hp, xl_1 hp, xl_2 hp, xl_3 hp, xl_4 hp, xl_6 hp, xl_8 hp, xl_10 hp, xl_12 hp, xl_14 hp, xl_15 hp, xl_17 hp, xl_18 hp, xl_21 hp, xp_7 hp, xp_8 hp, xp_9 hp, xp_10 hp, xp_11 hp, xp_12 hp, xp_13 hp, xp_14 hp, xp_15 hp, xp_16 hp, xp_17 hp, xp_t5 hp, xp_t7 hp, xp_t9 hp, xp_t11 hp, xp_t20 hp, xp_s19 hp, xp_a13 hp, xp_b13 hp, xp_a16 hp, xp_b16 hp, xc_r5 hp, xc_c5 hp, xc_r7 hp, xc_c7 hp, xc_r9 hp, xc_c9 hp, xc_r11 hp, xc_c11 hp, xc_r20 hp, xc_c20 hp, no_on, hK, hpp, pe_1]
          | exact rfl
          | (split <;> omega))
      · have e : k = 4 := by omega
        subst e
        have c4 := (hTk 4).1
        by_cases z : (tsE B n e3 (a + 1 + 1) 4).1 = 0
        · obtain ⟨μ'', hs, he⟩ := hr1 z
          subst he
          repeat' (first
            | (with_reducible refine ev_rid ?_; simp (disch := first | omega | assumption) only [ev_run_c, ev_run_n, ev_fj, ev_stp, ev_lk, ev_fv, ev_as, ev_sz, ev_st1, ev_st2, ev_rm, ev_pk, ev_Jof, ev_go, lv_args, List.map_cons, List.map_nil, List.zip_cons_cons, List.zip_nil_left, List.zip_nil_right, List.nil_append, List.cons_append, ↓reduceIte, reduceCtorEq, Int.reduceToNat, Nat.reduceEqDiff, Nat.reduceAdd, Nat.reduceLT, Nat.reduceLeDiff, Nat.reduceMul, Nat.reduceSub, Value.category, false_implies, true_and, and_true, Bool.false_eq_true, Option.some.injEq, exists_eq_left', Option.toList_some, Option.toList_none, ev_km, ev_k2, ev_k3, ev_k4, ev_k5, ev_l0, ev_l1, sh_1, sh_2, sh_3, sh_4, sh_5, at_X7_readTaster_27, at_X7_readTaster_37, at_X7_readTaster_67, at_X7_readTaster_86, ca_X7_199, ca_X7_202, ca_X7_210, ca_X7_219, ca_X7_67, ca_X7_81, cd_X7_readTaster_0, cd_X7_readTaster_27, cd_X7_readTaster_37, cd_X7_readTaster_67, cd_X7_readTaster_86, fl_X7_12, fl_X7_206, fl_X7_216, fl_X7_43, fl_X7_49, ev_b_6, ev_b_9, no_0, no_1, no_lt, no_le, no_eq, no_lt0, no_ge0, no_gt0, no_le0, no_eq0, no_0eq, no_eqm, no_meq, no_m0, no_mlt, no_mge, no_mgt, no_mm, no_i01, no_i10, no_in, no_or, no_ifm, no_mul, nI_add, no_sub, pk_div, iI_if, nI_clamp, oI_n, oI_s, not_true_eq_false, not_false_eq_true, forall_const, true_implies, false_and, and_false, or_false, false_or, Classical.not_not, true_or, or_true, no_b, no_eq1, eq_self, and_self, xk_0 hp, xk_1 hp, xk_2 hp, xk_3 hp, xk_4 hp, xk_5 hp, xk_6 hp, xk_7 hp, xk_8 hp, xk_9 hp, xk_10 hp, xk_11 hp, xk_12 hp, xk_13 hp, xk_14 hp, xk_15 hp, xk_16 hp, xk_17 hp, xk_18 hp, xk_19 hp, xk_20 hp, xk_21 hp, xl_1 hp, xl_2 hp, xl_3 hp, xl_4 hp, xl_6 hp, xl_8 hp, xl_10 hp, xl_12 hp, xl_14 hp, xl_15 hp, xl_17 hp, xl_18 hp, xl_21 hp, xp_7 hp, xp_8 hp, xp_9 hp, xp_10 hp, xp_11 hp, xp_12 hp, xp_13 hp, xp_14 hp, xp_15 hp, xp_16 hp, xp_17 hp, xp_t5 hp, xp_t7 hp, xp_t9 hp, xp_t11 hp, xp_t20 hp, xp_s19 hp, xp_a13 hp, xp_b13 hp, xp_a16 hp, xp_b16 hp, xc_r5 hp, xc_c5 hp, xc_r7 hp, xc_c7 hp, xc_r9 hp, xc_c9 hp, xc_r11 hp, xc_c11 hp, xc_r20 hp, xc_c20 hp, no_on, hK, hpp, pe_1, z])
            | (with_reducible refine ev_gid ?_; simp (disch := first | omega | assumption) only [ev_run_c, ev_run_n, ev_fj, ev_stp, ev_lk, ev_fv, ev_as, ev_sz, ev_st1, ev_st2, ev_rm, ev_pk, ev_Jof, ev_go, lv_args, List.map_cons, List.map_nil, List.zip_cons_cons, List.zip_nil_left, List.zip_nil_right, List.nil_append, List.cons_append, ↓reduceIte, reduceCtorEq, Int.reduceToNat, Nat.reduceEqDiff, Nat.reduceAdd, Nat.reduceLT, Nat.reduceLeDiff, Nat.reduceMul, Nat.reduceSub, Value.category, false_implies, true_and, and_true, Bool.false_eq_true, Option.some.injEq, exists_eq_left', Option.toList_some, Option.toList_none, ev_km, ev_k2, ev_k3, ev_k4, ev_k5, ev_l0, ev_l1, sh_1, sh_2, sh_3, sh_4, sh_5, at_X7_readTaster_27, at_X7_readTaster_37, at_X7_readTaster_67, at_X7_readTaster_86, ca_X7_199, ca_X7_202, ca_X7_210, ca_X7_219, ca_X7_67, ca_X7_81, cd_X7_readTaster_0, cd_X7_readTaster_27, cd_X7_readTaster_37, cd_X7_readTaster_67, cd_X7_readTaster_86, fl_X7_12, fl_X7_206, fl_X7_216, fl_X7_43, fl_X7_49, ev_b_6, ev_b_9, no_0, no_1, no_lt, no_le, no_eq, no_lt0, no_ge0, no_gt0, no_le0, no_eq0, no_0eq, no_eqm, no_meq, no_m0, no_mlt, no_mge, no_mgt, no_mm, no_i01, no_i10, no_in, no_or, no_ifm, no_mul, nI_add, no_sub, pk_div, iI_if, nI_clamp, oI_n, oI_s, not_true_eq_false, not_false_eq_true, forall_const, true_implies, false_and, and_false, or_false, false_or, Classical.not_not, true_or, or_true, no_b, no_eq1, eq_self, and_self, xk_0 hp, xk_1 hp, xk_2 hp, xk_3 hp, xk_4 hp, xk_5 hp, xk_6 hp, xk_7 hp, xk_8 hp, xk_9 hp, xk_10 hp, xk_11 hp, xk_12 hp, xk_13 hp, xk_14 hp, xk_15 hp, xk_16 hp, xk_17 hp, xk_18 hp, xk_19 hp, xk_20 hp, xk_21 hp, xl_1 hp, xl_2 hp, xl_3 hp, xl_4 hp, xl_6 hp, xl_8 hp, xl_10 hp, xl_12 hp, xl_14 hp, xl_15 hp, xl_17 hp, xl_18 hp, xl_21 hp, xp_7 hp, xp_8 hp, xp_9 hp, xp_10 hp, xp_11 hp, xp_12 hp, xp_13 hp, xp_14 hp, xp_15 hp, xp_16 hp, xp_17 hp, xp_t5 hp, xp_t7 hp, xp_t9 hp, xp_t11 hp, xp_t20 hp, xp_s19 hp, xp_a13 hp, xp_b13 hp, xp_a16 hp, xp_b16 hp, xc_r5 hp, xc_c5 hp, xc_r7 hp, xc_c7 hp, xc_r9 hp, xc_c9 hp, xc_r11 hp, xc_c11 hp, xc_r20 hp, xc_c20 hp, no_on, hK, hpp, pe_1, z])
            | (with_reducible refine And.intro (fun q => ?_) (fun q => ?_) <;> (try simp (disch := first | omega | assumption) only [no_0, no_1, no_lt, no_le, no_eq, no_lt0, no_ge0, no_gt0, no_le0, no_eq0, no_0eq, no_eqm, no_meq, no_m0, no_mlt, no_mge, no_mgt, no_mm, no_i01, no_i10, no_in, no_or, no_ifm, no_mul, nI_add, no_sub, pk_div, iI_if, nI_clamp, oI_n, oI_s, not_true_eq_false, not_false_eq_true, forall_const, true_implies, false_and, and_false, or_false, false_or, Classical.not_not, true_or, or_true, no_b, no_eq1, eq_self, and_self, xk_0 hp, xk_1 hp, xk_2 hp, xk_3 hp, xk_4 hp, xk_5 hp, xk_6 hp, xk_7 hp, xk_8 hp, xk_9 hp, xk_10 hp, xk_11 hp, xk_12 hp, xk_13 hp, xk_14 hp, xk_15 hp, xk_16 hp, xk_17 hp, xk_18 hp, xk_19 hp, xk_20 hp, xk_21 hp, xl_1 hp, xl_2 hp, xl_3 hp, xl_4 hp, xl_6 hp, xl_8 hp, xl_10 hp, xl_12 hp, xl_14 hp, xl_15 hp, xl_17 hp, xl_18 hp, xl_21 hp, xp_7 hp, xp_8 hp, xp_9 hp, xp_10 hp, xp_11 hp, xp_12 hp, xp_13 hp, xp_14 hp, xp_15 hp, xp_16 hp, xp_17 hp, xp_t5 hp, xp_t7 hp, xp_t9 hp, xp_t11 hp, xp_t20 hp, xp_s19 hp, xp_a13 hp, xp_b13 hp, xp_a16 hp, xp_b16 hp, xc_r5 hp, xc_c5 hp, xc_r7 hp, xc_c7 hp, xc_r9 hp, xc_c9 hp, xc_r11 hp, xc_c11 hp, xc_r20 hp, xc_c20 hp, no_on, hK, hpp, pe_1, z] at q))
            | (with_reducible refine ev_ci hs ?_)
            | with_reducible refine ev_ci (m_X4_isOneOfTasters hok hp (by with_reducible assumption) (by with_reducible assumption) ?_) ?_
            | with_reducible refine ev_ci (m_fail_n hok (by assumption) ?_ _ _) ?_
            | with_reducible refine ev_ci (m_X8_set hok (sh_T20 hp) (xp_t20 hp) ?_ ?_ _) ?_
            | with_reducible refine ev_ci (m_X10_setCell hok ?_ ?_ ?_ ?_ _) ?_
            | omega
            | with_reducible assumption
            | with_reducible rfl
            | (refine Nat.lt_of_lt_of_le ?_ (Nat.le_refl 312); omega)
            | with_reducible refine lp_nx ?_ ?_ ?_ ?_
            | with_reducible refine lp_st ?_ ?_ ?_
            | with_reducible refine ls_c ?_ ?_
            | with_reducible refine vi_c ?_
            | with_reducible refine re_c ?_
            | with_reducible refine vz_c ?_
            | with_reducible refine rz_c ?_
            | exact trivial
            | with_reducible refine And.intro ?_ ?_
            | simp (disch := first | omega | assumption) only [ev_run_c, ev_run_n, ev_fj, ev_stp, ev_lk, ev_fv, ev_as, ev_sz, ev_st1, ev_st2, ev_rm, ev_pk, ev_Jof, ev_go, lv_args, List.map_cons, List.map_nil, List.zip_cons_cons, List.zip_nil_left, List.zip_nil_right, List.nil_append, List.cons_append, ↓reduceIte, reduceCtorEq, Int.reduceToNat, Nat.reduceEqDiff, Nat.reduceAdd, Nat.reduceLT, Nat.reduceLeDiff, Nat.reduceMul, Nat.reduceSub, Value.category, false_implies, true_and, and_true, Bool.false_eq_true, Option.some.injEq, exists_eq_left', Option.toList_some, Option.toList_none, ev_km, ev_k2, ev_k3, ev_k4, ev_k5, ev_l0, ev_l1, sh_1, sh_2, sh_3, sh_4, sh_5, at_X7_readTaster_27, at_X7_readTaster_37, at_X7_readTaster_67, at_X7_readTaster_86, ca_X7_199, ca_X7_202, ca_X7_210, ca_X7_219, ca_X7_67, ca_X7_81, cd_X7_readTaster_0, cd_X7_readTaster_27, cd_X7_readTaster_37, cd_X7_readTaster_67, cd_X7_readTaster_86, fl_X7_12, fl_X7_206, fl_X7_216, fl_X7_43, fl_X7_49, ev_b_6, ev_b_9, no_0, no_1, no_lt, no_le, no_eq, no_lt0, no_ge0, no_gt0, no_le0, no_eq0, no_0eq, no_eqm, no_meq, no_m0, no_mlt, no_mge, no_mgt, no_mm, no_i01, no_i10, no_in, no_or, no_ifm, no_mul, nI_add, no_sub, pk_div, iI_if, nI_clamp, oI_n, oI_s, not_true_eq_false, not_false_eq_true, forall_const, true_implies, false_and, and_false, or_false, false_or, Classical.not_not, true_or, or_true, no_b, no_eq1, eq_self, and_self, xk_0 hp, xk_1 hp, xk_2 hp, xk_3 hp, xk_4 hp, xk_5 hp, xk_6 hp, xk_7 hp, xk_8 hp, xk_9 hp, xk_10 hp, xk_11 hp, xk_12 hp, xk_13 hp, xk_14 hp, xk_15 hp, xk_16 hp, xk_17 hp, xk_18 hp, xk_19 hp, xk_20 hp, xk_21 hp, xl_1 hp, xl_2 hp, xl_3 hp, xl_4 hp, xl_6 hp, xl_8 hp, xl_10 hp, xl_12 hp, xl_14 hp, xl_15 hp, xl_17 hp, xl_18 hp, xl_21 hp, xp_7 hp, xp_8 hp, xp_9 hp, xp_10 hp, xp_11 hp, xp_12 hp, xp_13 hp, xp_14 hp, xp_15 hp, xp_16 hp, xp_17 hp, xp_t5 hp, xp_t7 hp, xp_t9 hp, xp_t11 hp, xp_t20 hp, xp_s19 hp, xp_a13 hp, xp_b13 hp, xp_a16 hp, xp_b16 hp, xc_r5 hp, xc_c5 hp, xc_r7 hp, xc_c7 hp, xc_r9 hp, xc_c9 hp, xc_r11 hp, xc_c11 hp, xc_r20 hp, xc_c20 hp, no_on, hK, hpp, pe_1, z]
            | exact rfl
            | (split <;> omega))
        · have he := hr2 z
          subst he
          repeat' (first
            | (with_reducible refine ev_rid ?_; simp (disch := first | omega | assumption) only [ev_run_c, ev_run_n, ev_fj, ev_stp, ev_lk, ev_fv, ev_as, ev_sz, ev_st1, ev_st2, ev_rm, ev_pk, ev_Jof, ev_go, lv_args, List.map_cons, List.map_nil, List.zip_cons_cons, List.zip_nil_left, List.zip_nil_right, List.nil_append, List.cons_append, ↓reduceIte, reduceCtorEq, Int.reduceToNat, Nat.reduceEqDiff, Nat.reduceAdd, Nat.reduceLT, Nat.reduceLeDiff, Nat.reduceMul, Nat.reduceSub, Value.category, false_implies, true_and, and_true, Bool.false_eq_true, Option.some.injEq, exists_eq_left', Option.toList_some, Option.toList_none, ev_km, ev_k2, ev_k3, ev_k4, ev_k5, ev_l0, ev_l1, sh_1, sh_2, sh_3, sh_4, sh_5, at_X7_readTaster_27, at_X7_readTaster_37, at_X7_readTaster_67, at_X7_readTaster_86, ca_X7_199, ca_X7_202, ca_X7_210, ca_X7_219, ca_X7_67, ca_X7_81, cd_X7_readTaster_0, cd_X7_readTaster_27, cd_X7_readTaster_37, cd_X7_readTaster_67, cd_X7_readTaster_86, fl_X7_12, fl_X7_206, fl_X7_216, fl_X7_43, fl_X7_49, ev_b_6, ev_b_9, no_0, no_1, no_lt, no_le, no_eq, no_lt0, no_ge0, no_gt0, no_le0, no_eq0, no_0eq, no_eqm, no_meq, no_m0, no_mlt, no_mge, no_mgt, no_mm, no_i01, no_i10, no_in, no_or, no_ifm, no_mul, nI_add, no_sub, pk_div, iI_if, nI_clamp, oI_n, oI_s, not_true_eq_false, not_false_eq_true, forall_const, true_implies, false_and, and_false, or_false, false_or, Classical.not_not, true_or, or_true, no_b, no_eq1, eq_self, and_self, xk_0 hp, xk_1 hp, xk_2 hp, xk_3 hp, xk_4 hp, xk_5 hp, xk_6 hp, xk_7 hp, xk_8 hp, xk_9 hp, xk_10 hp, xk_11 hp, xk_12 hp, xk_13 hp, xk_14 hp, xk_15 hp, xk_16 hp, xk_17 hp, xk_18 hp, xk_19 hp, xk_20 hp, xk_21 hp, xl_1 hp, xl_2 hp, xl_3 hp, xl_4 hp, xl_6 hp, xl_8 hp, xl_10 hp, xl_12 hp, xl_14 hp, xl_15 hp, xl_17 hp, xl_18 hp, xl_21 hp, xp_7 hp, xp_8 hp, xp_9 hp, xp_10 hp, xp_11 hp, xp_12 hp, xp_13 hp, xp_14 hp, xp_15 hp, xp_16 hp, xp_17 hp, xp_t5 hp, xp_t7 hp, xp_t9 hp, xp_t11 hp, xp_t20 hp, xp_s19 hp, xp_a13 hp, xp_b13 hp, xp_a16 hp, xp_b16 hp, xc_r5 hp, xc_c5 hp, xc_r7 hp, xc_c7 hp, xc_r9 hp, xc_c9 hp, xc_r11 hp, xc_c11 hp, xc_r20 hp, xc_c20 hp, no_on, hK, hpp, pe_1, z])
            | (with_reducible refine ev_gid ?_; simp (disch := first | omega | assumption) only [ev_run_c, ev_run_n, ev_fj, ev_stp, ev_lk, ev_fv, ev_as, ev_sz, ev_st1, ev_st2, ev_rm, ev_pk, ev_Jof, ev_go, lv_args, List.map_cons, List.map_nil, List.zip_cons_cons, List.zip_nil_left, List.zip_nil_right, List.nil_append, List.cons_append, ↓reduceIte, reduceCtorEq, Int.reduceToNat, Nat.reduceEqDiff, Nat.reduceAdd, Nat.reduceLT, Nat.reduceLeDiff, Nat.reduceMul, Nat.reduceSub, Value.category, false_implies, true_and, and_true, Bool.false_eq_true, Option.some.injEq, exists_eq_left', Option.toList_some, Option.toList_none, ev_km, ev_k2, ev_k3, ev_k4, ev_k5, ev_l0, ev_l1, sh_1, sh_2, sh_3, sh_4, sh_5, at_X7_readTaster_27, at_X7_readTaster_37, at_X7_readTaster_67, at_X7_readTaster_86, ca_X7_199, ca_X7_202, ca_X7_210, ca_X7_219, ca_X7_67, ca_X7_81, cd_X7_readTaster_0, cd_X7_readTaster_27, cd_X7_readTaster_37, cd_X7_readTaster_67, cd_X7_readTaster_86, fl_X7_12, fl_X7_206, fl_X7_216, fl_X7_43, fl_X7_49, ev_b_6, ev_b_9, no_0, no_1, no_lt, no_le, no_eq, no_lt0, no_ge0, no_gt0, no_le0, no_eq0, no_0eq, no_eqm, no_meq, no_m0, no_mlt, no_mge, no_mgt, no_mm, no_i01, no_i10, no_in, no_or, no_ifm, no_mul, nI_add, no_sub, pk_div, iI_if, nI_clamp, oI_n, oI_s, not_true_eq_false, not_false_eq_true, forall_const, true_implies, false_and, and_false, or_false, false_or, Classical.not_not, true_or, or_true, no_b, no_eq1, eq_self, and_self, xk_0 hp, xk_1 hp, xk_2 hp, xk_3 hp, xk_4 hp, xk_5 hp, xk_6 hp, xk_7 hp, xk_8 hp, xk_9 hp, xk_10 hp, xk_11 hp, xk_12 hp, xk_13 hp, xk_14 hp, xk_15 hp, xk_16 hp, xk_17 hp, xk_18 hp, xk_19 hp, xk_20 hp, xk_21 hp, xl_1 hp, xl_2 hp, xl_3 hp, xl_4 hp, xl_6 hp, xl_8 hp, xl_10 hp, xl_12 hp, xl_14 hp, xl_15 hp, xl_17 hp, xl_18 hp, xl_21 hp, xp_7 hp, xp_8 hp, xp_9 hp, xp_10 hp, xp_11 hp, xp_12 hp, xp_13 hp, xp_14 hp, xp_15 hp, xp_16 hp, xp_17 hp, xp_t5 hp, xp_t7 hp, xp_t9 hp, xp_t11 hp, xp_t20 hp, xp_s19 hp, xp_a13 hp, xp_b13 hp, xp_a16 hp, xp_b16 hp, xc_r5 hp, xc_c5 hp, xc_r7 hp, xc_c7 hp, xc_r9 hp, xc_c9 hp, xc_r11 hp, xc_c11 hp, xc_r20 hp, xc_c20 hp, no_on, hK, hpp, pe_1, z])
            | (with_reducible refine And.intro (fun q => ?_) (fun q => ?_) <;> (try simp (disch := first | omega | assumption) only [no_0, no_1, no_lt, no_le, no_eq, no_lt0, no_ge0, no_gt0, no_le0, no_eq0, no_0eq, no_eqm, no_meq, no_m0, no_mlt, no_mge, no_mgt, no_mm, no_i01, no_i10, no_in, no_or, no_ifm, no_mul, nI_add, no_sub, pk_div, iI_if, nI_clamp, oI_n, oI_s, not_true_eq_false, not_false_eq_true, forall_const, true_implies, false_and, and_false, or_false, false_or, Classical.not_not, true_or, or_true, no_b, no_eq1, eq_self, and_self, xk_0 hp, xk_1 hp, xk_2 hp, xk_3 hp, xk_4 hp, xk_5 hp, xk_6 hp, xk_7 hp, xk_8 hp, xk_9 hp, xk_10 hp, xk_11 hp, xk_12 hp, xk_13 hp, xk_14 hp, xk_15 hp, xk_16 hp, xk_17 hp, xk_18 hp, xk_19 hp, xk_20 hp, xk_21 hp, xl_1 hp, xl_2 hp, xl_3 hp, xl_4 hp, xl_6 hp, xl_8 hp, xl_10 hp, xl_12 hp, xl_14 hp, xl_15 hp, xl_17 hp, xl_18 hp, xl_21 hp, xp_7 hp, xp_8 hp, xp_9 hp, xp_10 hp, xp_11 hp, xp_12 hp, xp_13 hp, xp_14 hp, xp_15 hp, xp_16 hp, xp_17 hp, xp_t5 hp, xp_t7 hp, xp_t9 hp, xp_t11 hp, xp_t20 hp, xp_s19 hp, xp_a13 hp, xp_b13 hp, xp_a16 hp, xp_b16 hp, xc_r5 hp, xc_c5 hp, xc_r7 hp, xc_c7 hp, xc_r9 hp, xc_c9 hp, xc_r11 hp, xc_c11 hp, xc_r20 hp, xc_c20 hp, no_on, hK, hpp, pe_1, z] at q))
            | with_reducible refine ev_ci (m_X4_isOneOfTasters hok hp (by with_reducible assumption) (by with_reducible assumption) ?_) ?_
            | with_reducible refine ev_ci (m_fail_n hok (by assumption) ?_ _ _) ?_
            | with_reducible refine ev_ci (m_X8_set hok (sh_T20 hp) (xp_t20 hp) ?_ ?_ _) ?_
            | with_reducible refine ev_ci (m_X10_setCell hok ?_ ?_ ?_ ?_ _) ?_
            | omega
            | with_reducible assumption
            | with_reducible rfl
            | (refine Nat.lt_of_lt_of_le ?_ (Nat.le_refl 312); omega)
            | with_reducible refine lp_nx ?_ ?_ ?_ ?_
            | with_reducible refine lp_st ?_ ?_ ?_
            | with_reducible refine ls_c ?_ ?_
            | with_reducible refine vi_c ?_
            | with_reducible refine re_c ?_
            | with_reducible refine vz_c ?_
            | with_reducible refine rz_c ?_
            | exact trivial
            | with_reducible refine And.intro ?_ ?_
            | simp (disch := first | omega | assumption) only [ev_run_c, ev_run_n, ev_fj, ev_stp, ev_lk, ev_fv, ev_as, ev_sz, ev_st1, ev_st2, ev_rm, ev_pk, ev_Jof, ev_go, lv_args, List.map_cons, List.map_nil, List.zip_cons_cons, List.zip_nil_left, List.zip_nil_right, List.nil_append, List.cons_append, ↓reduceIte, reduceCtorEq, Int.reduceToNat, Nat.reduceEqDiff, Nat.reduceAdd, Nat.reduceLT, Nat.reduceLeDiff, Nat.reduceMul, Nat.reduceSub, Value.category, false_implies, true_and, and_true, Bool.false_eq_true, Option.some.injEq, exists_eq_left', Option.toList_some, Option.toList_none, ev_km, ev_k2, ev_k3, ev_k4, ev_k5, ev_l0, ev_l1, sh_1, sh_2, sh_3, sh_4, sh_5, at_X7_readTaster_27, at_X7_readTaster_37, at_X7_readTaster_67, at_X7_readTaster_86, ca_X7_199, ca_X7_202, ca_X7_210, ca_X7_219, ca_X7_67, ca_X7_81, cd_X7_readTaster_0, cd_X7_readTaster_27, cd_X7_readTaster_37, cd_X7_readTaster_67, cd_X7_readTaster_86, fl_X7_12, fl_X7_206, fl_X7_216, fl_X7_43, fl_X7_49, ev_b_6, ev_b_9, no_0, no_1, no_lt, no_le, no_eq, no_lt0, no_ge0, no_gt0, no_le0, no_eq0, no_0eq, no_eqm, no_meq, no_m0, no_mlt, no_mge, no_mgt, no_mm, no_i01, no_i10, no_in, no_or, no_ifm, no_mul, nI_add, no_sub, pk_div, iI_if, nI_clamp, oI_n, oI_s, not_true_eq_false, not_false_eq_true, forall_const, true_implies, false_and, and_false, or_false, false_or, Classical.not_not, true_or, or_true, no_b, no_eq1, eq_self, and_self, xk_0 hp, xk_1 hp, xk_2 hp, xk_3 hp, xk_4 hp, xk_5 hp, xk_6 hp, xk_7 hp, xk_8 hp, xk_9 hp, xk_10 hp, xk_11 hp, xk_12 hp, xk_13 hp, xk_14 hp, xk_15 hp, xk_16 hp, xk_17 hp, xk_18 hp, xk_19 hp, xk_20 hp, xk_21 hp, xl_1 hp, xl_2 hp, xl_3 hp, xl_4 hp, xl_6 hp, xl_8 hp, xl_10 hp, xl_12 hp, xl_14 hp, xl_15 hp, xl_17 hp, xl_18 hp, xl_21 hp, xp_7 hp, xp_8 hp, xp_9 hp, xp_10 hp, xp_11 hp, xp_12 hp, xp_13 hp, xp_14 hp, xp_15 hp, xp_16 hp, xp_17 hp, xp_t5 hp, xp_t7 hp, xp_t9 hp, xp_t11 hp, xp_t20 hp, xp_s19 hp, xp_a13 hp, xp_b13 hp, xp_a16 hp, xp_b16 hp, xc_r5 hp, xc_c5 hp, xc_r7 hp, xc_c7 hp, xc_r9 hp, xc_c9 hp, xc_r11 hp, xc_c11 hp, xc_r20 hp, xc_c20 hp, no_on, hK, hpp, pe_1, z]
            | exact rfl
            | (split <;> omega))
    · rw [at_X7_readTaster_0]
      rcases (show b = 0 ∨ b = 1 by omega) with rfl | rfl
      · have he := hb0 rfl
        subst he
        repeat' (first
          | (with_reducible refine ev_rid ?_; simp (disch := first | omega | assumption) only [ev_run_c, ev_run_n, ev_fj, ev_stp, ev_lk, ev_fv, ev_as, ev_sz, ev_st1, ev_st2, ev_rm, ev_pk, ev_Jof, ev_go, lv_args, List.map_cons, List.map_nil, List.zip_cons_cons, List.zip_nil_left, List.zip_nil_right, List.nil_append, List.cons_append, ↓reduceIte, reduceCtorEq, Int.reduceToNat, Nat.reduceEqDiff, Nat.reduceAdd, Nat.reduceLT, Nat.reduceLeDiff, Nat.reduceMul, Nat.reduceSub, Value.category, false_implies, true_and, and_true, Bool.false_eq_true, Option.some.injEq, exists_eq_left', Option.toList_some, Option.toList_none, ev_km, ev_k2, ev_k3, ev_k4, ev_k5, ev_l0, ev_l1, sh_1, sh_2, sh_3, sh_4, sh_5, at_X7_readTaster_27, at_X7_readTaster_37, at_X7_readTaster_67, at_X7_readTaster_86, ca_X7_199, ca_X7_202, ca_X7_210, ca_X7_219, ca_X7_67, ca_X7_81, cd_X7_readTaster_0, cd_X7_readTaster_27, cd_X7_readTaster_37, cd_X7_readTaster_67, cd_X7_readTaster_86, fl_X7_12, fl_X7_206, fl_X7_216, fl_X7_43, fl_X7_49, ev_b_6, ev_b_9, no_0, no_1, no_lt, no_le, no_eq, no_lt0, no_ge0, no_gt0, no_le0, no_eq0, no_0eq, no_eqm, no_meq, no_m0, no_mlt, no_mge, no_mgt, no_mm, no_i01, no_i10, no_in, no_or, no_ifm, no_mul, nI_add, no_sub, pk_div, iI_if, nI_clamp, oI_n, oI_s, not_true_eq_false, not_false_eq_true, forall_const, true_implies, false_and, and_false, or_false, false_or, Classical.not_not, true_or, or_true, no_b, no_eq1, eq_self, and_self, xk_0 hp, xk_1 hp, xk_2 hp, xk_3 hp, xk_4 hp, xk_5 hp, xk_6 hp, xk_7 hp, xk_8 hp, xk_9 hp, xk_10 hp, xk_11 hp, xk_12 hp, xk_13 hp, xk_14 hp, xk_15 hp, xk_16 hp, xk_17 hp, xk_18 hp, xk_19 hp, xk_20 hp, xk_21 hp, xl_1 hp, xl_2 hp, xl_3 hp, xl_4 hp, xl_6 hp, xl_8 hp, xl_10 hp, xl_12 hp, xl_14 hp, xl_15 hp, xl_17 hp, xl_18 hp, xl_21 hp, xp_7 hp, xp_8 hp, xp_9 hp, xp_10 hp, xp_11 hp, xp_12 hp, xp_13 hp, xp_14 hp, xp_15 hp, xp_16 hp, xp_17 hp, xp_t5 hp, xp_t7 hp, xp_t9 hp, xp_t11 hp, xp_t20 hp, xp_s19 hp, xp_a13 hp, xp_b13 hp, xp_a16 hp, xp_b16 hp, xc_r5 hp, xc_c5 hp, xc_r7 hp, xc_c7 hp, xc_r9 hp, xc_c9 hp, xc_r11 hp, xc_c11 hp, xc_r20 hp, xc_c20 hp, no_on, hK, hpp, pe_1, pe_7, Nat.add_sub_cancel])
          | (with_reducible refine ev_gid ?_; simp (disch := first | omega | assumption) only [ev_run_c, ev_run_n, ev_fj, ev_stp, ev_lk, ev_fv, ev_as, ev_sz, ev_st1, ev_st2, ev_rm, ev_pk, ev_Jof, ev_go, lv_args, List.map_cons, List.map_nil, List.zip_cons_cons, List.zip_nil_left, List.zip_nil_right, List.nil_append, List.cons_append, ↓reduceIte, reduceCtorEq, Int.reduceToNat, Nat.reduceEqDiff, Nat.reduceAdd, Nat.reduceLT, Nat.reduceLeDiff, Nat.reduceMul, Nat.reduceSub, Value.category, false_implies, true_and, and_true, Bool.false_eq_true, Option.some.injEq, exists_eq_left', Option.toList_some, Option.toList_none, ev_km, ev_k2, ev_k3, ev_k4, ev_k5, ev_l0, ev_l1, sh_1, sh_2, sh_3, sh_4, sh_5, at_X7_readTaster_27, at_X7_readTaster_37, at_X7_readTaster_67, at_X7_readTaster_86, ca_X7_199, ca_X7_202, ca_X7_210, ca_X7_219, ca_X7_67, ca_X7_81, cd_X7_readTaster_0, cd_X7_readTaster_27, cd_X7_readTaster_37, cd_X7_readTaster_67, cd_X7_readTaster_86, fl_X7_12, fl_X7_206, fl_X7_216, fl_X7_43, fl_X7_49, ev_b_6, ev_b_9, no_0, no_1, no_lt, no_le, no_eq, no_lt0, no_ge0, no_gt0, no_le0, no_eq0, no_0eq, no_eqm, no_meq, no_m0, no_mlt, no_mge, no_mgt, no_mm, no_i01, no_i10, no_in, no_or, no_ifm, no_mul, nI_add, no_sub, pk_div, iI_if, nI_clamp, oI_n, oI_s, not_true_eq_false, not_false_eq_true, forall_const, true_implies, false_and, and_false, or_false, false_or, Classical.not_not, true_or, or_true, no_b, no_eq1, eq_self, and_self, xk_0 hp, xk_1 hp, xk_2 hp, xk_3 hp, xk_4 hp, xk_5 hp, xk_6 hp, xk_7 hp, xk_8 hp, xk_9 hp, xk_10 hp, xk_11 hp, xk_12 hp, xk_13 hp, xk_14 hp, xk_15 hp, xk_16 hp, xk_17 hp, xk_18 hp, xk_19 hp, xk_20 hp, xk_21 hp, xl_1 hp, xl_2 hp, xl_3 hp, xl_4 hp, xl_6 hp, xl_8 hp, xl_10 hp, xl_12 hp, xl_14 hp, xl_15 hp, xl_17 hp, xl_18 hp, xl_21 hp, xp_7 hp, xp_8 hp, xp_9 hp, xp_10 hp, xp_11 hp, xp_12 hp, xp_13 hp, xp_14 hp, xp_15 hp, xp_16 hp, xp_17 hp, xp_t5 hp, xp_t7 hp, xp_t9 hp, xp_t11 hp, xp_t20 hp, xp_s19 hp, xp_a13 hp, xp_b13 hp, xp_a16 hp, xp_b16 hp, xc_r5 hp, xc_c5 hp, xc_r7 hp, xc_c7 hp, xc_r9 hp, xc_c9 hp, xc_r11 hp, xc_c11 hp, xc_r20 hp, xc_c20 hp, no_on, hK, hpp, pe_1, pe_7, Nat.add_sub_cancel])
          | (with_reducible refine And.intro (fun q => ?_) (fun q => ?_) <;> (try simp (disch := first | omega | assumption) only [no_0, no_1, no_lt, no_le, no_eq, no_lt0, no_ge0, no_gt0, no_le0, no_eq0, no_0eq, no_eqm, no_meq, no_m0, no_mlt, no_mge, no_mgt, no_mm, no_i01, no_i10, no_in, no_or, no_ifm, no_mul, nI_add, no_sub, pk_div, iI_if, nI_clamp, oI_n, oI_s, not_true_eq_false, not_false_eq_true, forall_const, true_implies, false_and, and_false, or_false, false_or, Classical.not_not, true_or, or_true, no_b, no_eq1, eq_self, and_self, xk_0 hp, xk_1 hp, xk_2 hp, xk_3 hp, xk_4 hp, xk_5 hp, xk_6 hp, xk_7 hp, xk_8 hp, xk_9 hp, xk_10 hp, xk_11 hp, xk_12 hp, xk_13 hp, xk_14 hp, xk_15 hp, xk_16 hp, xk_17 hp, xk_18 hp, xk_19 hp, xk_20 hp, xk_21 hp, xl_1 hp, xl_2 hp, xl_3 hp, xl_4 hp, xl_6 hp, xl_8 hp, xl_10 hp, xl_12 hp, xl_14 hp, xl_15 hp, xl_17 hp, xl_18 hp, xl_21 hp, xp_7 hp, xp_8 hp, xp_9 hp, xp_10 hp, xp_11 hp, xp_12 hp, xp_13 hp, xp_14 hp, xp_15 hp, xp_16 hp, xp_17 hp, xp_t5 hp, xp_t7 hp, xp_t9 hp, xp_t11 hp, xp_t20 hp, xp_s19 hp, xp_a13 hp, xp_b13 hp, xp_a16 hp, xp_b16 hp, xc_r5 hp, xc_c5 hp, xc_r7 hp, xc_c7 hp, xc_r9 hp, xc_c9 hp, xc_r11 hp, xc_c11 hp, xc_r20 hp, xc_c20 hp, no_on, hK, hpp, pe_1, pe_7, Nat.add_sub_cancel] at q))
          | (with_reducible refine ev_ci h1 ?_)
          | (with_reducible refine ev_ci h2 ?_)
          | (with_reducible refine ev_ci h3 ?_)
          | with_reducible refine ev_ci (m_X4_isOneOfTasters hok hp (by with_reducible assumption) (by with_reducible assumption) ?_) ?_
          | with_reducible refine ev_ci (m_fail_n hok (by assumption) ?_ _ _) ?_
          | with_reducible refine ev_ci (m_X8_set hok (sh_T20 hp) (xp_t20 hp) ?_ ?_ _) ?_
          | with_reducible refine ev_ci (m_X10_setCell hok ?_ ?_ ?_ ?_ _) ?_
          | omega
          | with_reducible assumption
          | with_reducible rfl
          | (refine Nat.lt_of_lt_of_le ?_ (Nat.le_refl 312); omega)
          | with_reducible refine lp_nx ?_ ?_ ?_ ?_
          | with_reducible refine lp_st ?_ ?_ ?_
          | with_reducible refine ls_c ?_ ?_
          | with_reducible refine vi_c ?_
          | with_reducible refine re_c ?_
          | with_reducible refine vz_c ?_
          | with_reducible refine rz_c ?_
          | exact trivial
          | with_reducible refine And.intro ?_ ?_
          | simp (disch := first | omega | assumption) only [ev_run_c, ev_run_n, ev_fj, ev_stp, ev_lk, ev_fv, ev_as, ev_sz, ev_st1, ev_st2, ev_rm, ev_pk, ev_Jof, ev_go, lv_args, List.map_cons, List.map_nil, List.zip_cons_cons, List.zip_nil_left, List.zip_nil_right, List.nil_append, List.cons_append, ↓reduceIte, reduceCtorEq, Int.reduceToNat, Nat.reduceEqDiff, Nat.reduceAdd, Nat.reduceLT, Nat.reduceLeDiff, Nat.reduceMul, Nat.reduceSub, Value.category, false_implies, true_and, and_true, Bool.false_eq_true, Option.some.injEq, exists_eq_left', Option.toList_some, Option.toList_none, ev_km, ev_k2, ev_k3, ev_k4, ev_k5, ev_l0, ev_l1, sh_1, sh_2, sh_3, sh_4, sh_5, at_X7_readTaster_27, at_X7_readTaster_37, at_X7_readTaster_67, at_X7_readTaster_86, ca_X7_199, ca_X7_202, ca_X7_210, ca_X7_219, ca_X7_67, ca_X7_81, cd_X7_readTaster_0, cd_X7_readTaster_27, cd_X7_readTaster_37, cd_X7_readTaster_67, cd_X7_readTaster_86, fl_X7_12, fl_X7_206, fl_X7_216, fl_X7_43, fl_X7_49, ev_b_6, ev_b_9, no_0, no_1, no_lt, no_le, no_eq, no_lt0, no_ge0, no_gt0, no_le0, no_eq0, no_0eq, no_eqm, no_meq, no_m0, no_mlt, no_mge, no_mgt, no_mm, no_i01, no_i10, no_in, no_or, no_ifm, no_mul, nI_add, no_sub, pk_div, iI_if, nI_clamp, oI_n, oI_s, not_true_eq_false, not_false_eq_true, forall_const, true_implies, false_and, and_false, or_false, false_or, Classical.not_not, true_or, or_true, no_b, no_eq1, eq_self, and_self, xk_0 hp, xk_1 hp, xk_2 hp, xk_3 hp, xk_4 hp, xk_5 hp, xk_6 hp, xk_7 hp, xk_8 hp, xk_9 hp, xk_10 hp, xk_11 hp, xk_12 hp, xk_13 hp, xk_14 hp, xk_15 hp, xk_16 hp, xk_17 hp, xk_18 hp, xk_19 hp, xk_20 hp, xk_21 hp, xl_1 hp, xl_2 hp, xl_3 hp, xl_4 hp, xl_6 hp, xl_8 hp, xl_10 hp, xl_12 hp, xl_14 hp, xl_15 hp, xl_17 hp, xl_18 hp, xl_21 hp, xp_7 hp, xp_8 hp, xp_9 hp, xp_10 hp, xp_11 hp, xp_12 hp, xp_13 hp, xp_14 hp, xp_15 hp, xp_16 hp, xp_17 hp, xp_t5 hp, xp_t7 hp, xp_t9 hp, xp_t11 hp, xp_t20 hp, xp_s19 hp, xp_a13 hp, xp_b13 hp, xp_a16 hp, xp_b16 hp, xc_r5 hp, xc_c5 hp, xc_r7 hp, xc_c7 hp, xc_r9 hp, xc_c9 hp, xc_r11 hp, xc_c11 hp, xc_r20 hp, xc_c20 hp, no_on, hK, hpp, pe_1, pe_7, Nat.add_sub_cancel]
          | exact rfl
          | (split <;> omega))
      · have he := hb1 (by omega)
        rw [← he] at hf
        repeat' (first
          | (with_reducible refine ev_rid ?_; simp (disch := first | omega | assumption) only [ev_run_c, ev_run_n, ev_fj, ev_stp, ev_lk, ev_fv, ev_as, ev_sz, ev_st1, ev_st2, ev_rm, ev_pk, ev_Jof, ev_go, lv_args, List.map_cons, List.map_nil, List.zip_cons_cons, List.zip_nil_left, List.zip_nil_right, List.nil_append, List.cons_append, ↓reduceIte, reduceCtorEq, Int.reduceToNat, Nat.reduceEqDiff, Nat.reduceAdd, Nat.reduceLT, Nat.reduceLeDiff, Nat.reduceMul, Nat.reduceSub, Value.category, false_implies, true_and, and_true, Bool.false_eq_true, Option.some.injEq, exists_eq_left', Option.toList_some, Option.toList_none, ev_km, ev_k2, ev_k3, ev_k4, ev_k5, ev_l0, ev_l1, sh_1, sh_2, sh_3, sh_4, sh_5, at_X7_readTaster_27, at_X7_readTaster_37, at_X7_readTaster_67, at_X7_readTaster_86, ca_X7_199, ca_X7_202, ca_X7_210, ca_X7_219, ca_X7_67, ca_X7_81, cd_X7_readTaster_0, cd_X7_readTaster_27, cd_X7_readTaster_37, cd_X7_readTaster_67, cd_X7_readTaster_86, fl_X7_12, fl_X7_206, fl_X7_216, fl_X7_43, fl_X7_49, ev_b_6, ev_b_9, no_0, no_1, no_lt, no_le, no_eq, no_lt0, no_ge0, no_gt0, no_le0, no_eq0, no_0eq, no_eqm, no_meq, no_m0, no_mlt, no_mge, no_mgt, no_mm, no_i01, no_i10, no_in, no_or, no_ifm, no_mul, nI_add, no_sub, pk_div, iI_if, nI_clamp, oI_n, oI_s, not_true_eq_false, not_false_eq_true, forall_const, true_implies, false_and, and_false, or_false, false_or, Classical.not_not, true_or, or_true, no_b, no_eq1, eq_self, and_self, xk_0 hp, xk_1 hp, xk_2 hp, xk_3 hp, xk_4 hp, xk_5 hp, xk_6 hp, xk_7 hp, xk_8 hp, xk_9 hp, xk_10 hp, xk_11 hp, xk_12 hp, xk_13 hp, xk_14 hp, xk_15 hp, xk_16 hp, xk_17 hp, xk_18 hp, xk_19 hp, xk_20 hp, xk_21 hp, xl_1 hp, xl_2 hp, xl_3 hp, xl_4 hp, xl_6 hp, xl_8 hp, xl_10 hp, xl_12 hp, xl_14 hp, xl_15 hp, xl_17 hp, xl_18 hp, xl_21 hp, xp_7 hp, xp_8 hp, xp_9 hp, xp_10 hp, xp_11 hp, xp_12 hp, xp_13 hp, xp_14 hp, xp_15 hp, xp_16 hp, xp_17 hp, xp_t5 hp, xp_t7 hp, xp_t9 hp, xp_t11 hp, xp_t20 hp, xp_s19 hp, xp_a13 hp, xp_b13 hp, xp_a16 hp, xp_b16 hp, xc_r5 hp, xc_c5 hp, xc_r7 hp, xc_c7 hp, xc_r9 hp, xc_c9 hp, xc_r11 hp, xc_c11 hp, xc_r20 hp, xc_c20 hp, no_on, hK, hpp, pe_1, pe_7, Nat.add_sub_cancel])
          | (with_reducible refine ev_gid ?_; simp (disch := first | omega | assumption) only [ev_run_c, ev_run_n, ev_fj, ev_stp, ev_lk, ev_fv, ev_as, ev_sz, ev_st1, ev_st2, ev_rm, ev_pk, ev_Jof, ev_go, lv_args, List.map_cons, List.map_nil, List.zip_cons_cons, List.zip_nil_left, List.zip_nil_right, List.nil_append, List.cons_append, ↓reduceIte, reduceCtorEq, Int.reduceToNat, Nat.reduceEqDiff, Nat.reduceAdd, Nat.reduceLT, Nat.reduceLeDiff, Nat.reduceMul, Nat.reduceSub, Value.category, false_implies, true_and, and_true, Bool.false_eq_true, Option.some.injEq, exists_eq_left', Option.toList_some, Option.toList_none, ev_km, ev_k2, ev_k3, ev_k4, ev_k5, ev_l0, ev_l1, sh_1, sh_2, sh_3, sh_4, sh_5, at_X7_readTaster_27, at_X7_readTaster_37, at_X7_readTaster_67, at_X7_readTaster_86, ca_X7_199, ca_X7_202, ca_X7_210, ca_X7_219, ca_X7_67, ca_X7_81, cd_X7_readTaster_0, cd_X7_readTaster_27, cd_X7_readTaster_37, cd_X7_readTaster_67, cd_X7_readTaster_86, fl_X7_12, fl_X7_206, fl_X7_216, fl_X7_43, fl_X7_49, ev_b_6, ev_b_9, no_0, no_1, no_lt, no_le, no_eq, no_lt0, no_ge0, no_gt0, no_le0, no_eq0, no_0eq, no_eqm, no_meq, no_m0, no_mlt, no_mge, no_mgt, no_mm, no_i01, no_i10, no_in, no_or, no_ifm, no_mul, nI_add, no_sub, pk_div, iI_if, nI_clamp, oI_n, oI_s, not_true_eq_false, not_false_eq_true, forall_const, true_implies, false_and, and_false, or_false, false_or, Classical.not_not, true_or, or_true, no_b, no_eq1, eq_self, and_self, xk_0 hp, xk_1 hp, xk_2 hp, xk_3 hp, xk_4 hp, xk_5 hp, xk_6 hp, xk_7 hp, xk_8 hp, xk_9 hp, xk_10 hp, xk_11 hp, xk_12 hp, xk_13 hp, xk_14 hp, xk_15 hp, xk_16 hp, xk_17 hp, xk_18 hp, xk_19 hp, xk_20 hp, xk_21 hp, xl_1 hp, xl_2 hp, xl_3 hp, xl_4 hp, xl_6 hp, xl_8 hp, xl_10 hp, xl_12 hp, xl_14 hp, xl_15 hp, xl_17 hp, xl_18 hp, xl_21 hp, xp_7 hp, xp_8 hp, xp_9 hp, xp_10 hp, xp_11 hp, xp_12 hp, xp_13 hp, xp_14 hp, xp_15 hp, xp_16 hp, xp_17 hp, xp_t5 hp, xp_t7 hp, xp_t9 hp, xp_t11 hp, xp_t20 hp, xp_s19 hp, xp_a13 hp, xp_b13 hp, xp_a16 hp, xp_b16 hp, xc_r5 hp, xc_c5 hp, xc_r7 hp, xc_c7 hp, xc_r9 hp, xc_c9 hp, xc_r11 hp, xc_c11 hp, xc_r20 hp, xc_c20 hp, no_on, hK, hpp, pe_1, pe_7, Nat.add_sub_cancel])
          | (with_reducible refine And.intro (fun q => ?_) (fun q => ?_) <;> (try simp (disch := first | omega | assumption) only [no_0, no_1, no_lt, no_le, no_eq, no_lt0, no_ge0, no_gt0, no_le0, no_eq0, no_0eq, no_eqm, no_meq, no_m0, no_mlt, no_mge, no_mgt, no_mm, no_i01, no_i10, no_in, no_or, no_ifm, no_mul, nI_add, no_sub, pk_div, iI_if, nI_clamp, oI_n, oI_s, not_true_eq_false, not_false_eq_true, forall_const, true_implies, false_and, and_false, or_false, false_or, Classical.not_not, true_or, or_true, no_b, no_eq1, eq_self, and_self, xk_0 hp, xk_1 hp, xk_2 hp, xk_3 hp, xk_4 hp, xk_5 hp, xk_6 hp, xk_7 hp, xk_8 hp, xk_9 hp, xk_10 hp, xk_11 hp, xk_12 hp, xk_13 hp, xk_14 hp, xk_15 hp, xk_16 hp, xk_17 hp, xk_18 hp, xk_19 hp, xk_20 hp, xk_21 hp, xl_1 hp, xl_2 hp, xl_3 hp, xl_4 hp, xl_6 hp, xl_8 hp, xl_10 hp, xl_12 hp, xl_14 hp, xl_15 hp, xl_17 hp, xl_18 hp, xl_21 hp, xp_7 hp, xp_8 hp, xp_9 hp, xp_10 hp, xp_11 hp, xp_12 hp, xp_13 hp, xp_14 hp, xp_15 hp, xp_16 hp, xp_17 hp, xp_t5 hp, xp_t7 hp, xp_t9 hp, xp_t11 hp, xp_t20 hp, xp_s19 hp, xp_a13 hp, xp_b13 hp, xp_a16 hp, xp_b16 hp, xc_r5 hp, xc_c5 hp, xc_r7 hp, xc_c7 hp, xc_r9 hp, xc_c9 hp, xc_r11 hp, xc_c11 hp, xc_r20 hp, xc_c20 hp, no_on, hK, hpp, pe_1, pe_7, Nat.add_sub_cancel] at q))
          | (with_reducible refine ev_ci h1 ?_)
          | (with_reducible refine ev_ci h2 ?_)
          | (with_reducible refine ev_ci h3 ?_)
          | (with_reducible refine ev_ci hf ?_)
          | with_reducible refine ev_ci (m_X4_isOneOfTasters hok hp (by with_reducible assumption) (by with_reducible assumption) ?_) ?_
          | with_reducible refine ev_ci (m_fail_n hok (by assumption) ?_ _ _) ?_
          | with_reducible refine ev_ci (m_X8_set hok (sh_T20 hp) (xp_t20 hp) ?_ ?_ _) ?_
          | with_reducible refine ev_ci (m_X10_setCell hok ?_ ?_ ?_ ?_ _) ?_
          | omega
          | with_reducible assumption
          | with_reducible rfl
          | (refine Nat.lt_of_lt_of_le ?_ (Nat.le_refl 312); omega)
          | with_reducible refine lp_nx ?_ ?_ ?_ ?_
          | with_reducible refine lp_st ?_ ?_ ?_
          | with_reducible refine ls_c ?_ ?_
          | with_reducible refine vi_c ?_
          | with_reducible refine re_c ?_
          | with_reducible refine vz_c ?_
          | with_reducible refine rz_c ?_
          | exact trivial
          | with_reducible refine And.intro ?_ ?_
          | simp (disch := first | omega | assumption) only [ev_run_c, ev_run_n, ev_fj, ev_stp, ev_lk, ev_fv, ev_as, ev_sz, ev_st1, ev_st2, ev_rm, ev_pk, ev_Jof, ev_go, lv_args, List.map_cons, List.map_nil, List.zip_cons_cons, List.zip_nil_left, List.zip_nil_right, List.nil_append, List.cons_append, ↓reduceIte, reduceCtorEq, Int.reduceToNat, Nat.reduceEqDiff, Nat.reduceAdd, Nat.reduceLT, Nat.reduceLeDiff, Nat.reduceMul, Nat.reduceSub, Value.category, false_implies, true_and, and_true, Bool.false_eq_true, Option.some.injEq, exists_eq_left', Option.toList_some, Option.toList_none, ev_km, ev_k2, ev_k3, ev_k4, ev_k5, ev_l0, ev_l1, sh_1, sh_2, sh_3, sh_4, sh_5, at_X7_readTaster_27, at_X7_readTaster_37, at_X7_readTaster_67, at_X7_readTaster_86, ca_X7_199, ca_X7_202, ca_X7_210, ca_X7_219, ca_X7_67, ca_X7_81, cd_X7_readTaster_0, cd_X7_readTaster_27, cd_X7_readTaster_37, cd_X7_readTaster_67, cd_X7_readTaster_86, fl_X7_12, fl_X7_206, fl_X7_216, fl_X7_43, fl_X7_49, ev_b_6, ev_b_9, no_0, no_1, no_lt, no_le, no_eq, no_lt0, no_ge0, no_gt0, no_le0, no_eq0, no_0eq, no_eqm, no_meq, no_m0, no_mlt, no_mge, no_mgt, no_mm, no_i01, no_i10, no_in, no_or, no_ifm, no_mul, nI_add, no_sub, pk_div, iI_if, nI_clamp, oI_n, oI_s, not_true_eq_false, not_false_eq_true, forall_const, true_implies, false_and, and_false, or_false, false_or, Classical.not_not, true_or, or_true, no_b, no_eq1, eq_self, and_self, xk_0 hp, xk_1 hp, xk_2 hp, xk_3 hp, xk_4 hp, xk_5 hp, xk_6 hp, xk_7 hp, xk_8 hp, xk_9 hp, xk_10 hp, xk_11 hp, xk_12 hp, xk_13 hp, xk_14 hp, xk_15 hp, xk_16 hp, xk_17 hp, xk_18 hp, xk_19 hp, xk_20 hp, xk_21 hp, xl_1 hp, xl_2 hp, xl_3 hp, xl_4 hp, xl_6 hp, xl_8 hp, xl_10 hp, xl_12 hp, xl_14 hp, xl_15 hp, xl_17 hp, xl_18 hp, xl_21 hp, xp_7 hp, xp_8 hp, xp_9 hp, xp_10 hp, xp_11 hp, xp_12 hp, xp_13 hp, xp_14 hp, xp_15 hp, xp_16 hp, xp_17 hp, xp_t5 hp, xp_t7 hp, xp_t9 hp, xp_t11 hp, xp_t20 hp, xp_s19 hp, xp_a13 hp, xp_b13 hp, xp_a16 hp, xp_b16 hp, xc_r5 hp, xc_c5 hp, xc_r7 hp, xc_c7 hp, xc_r9 hp, xc_c9 hp, xc_r11 hp, xc_c11 hp, xc_r20 hp, xc_c20 hp, no_on, hK, hpp, pe_1, pe_7, Nat.add_sub_cancel]
          | exact rfl
          | (split <;> omega))
  by_cases hz : (tsE B n e3 (a + 1 + 1) 4).1 = 0
  · obtain ⟨z4, z3, z5⟩ := (hTk 4).2 hz
    have z1 := g2 (g3 z3)
    have hi : i < 16 := by have := v1 z1; omega
    have hT4 : PR p (tsN B n N i (a + 1 + 1) 4) (tsT B n p i e1.1 e3 (a + 1 + 1) μ 4) := by
      rw [z1]
      exact tsT_PR hP hI hi (by omega) hz
    have hop := m_X10_setCell (μ := pe (tsE B n e3 (a + 1 + 1) 4) (a + 1 + 1 + 4) (tsT B n p i e1.1 e3 (a + 1 + 1) μ 4)) hok (a := p + 3) (j := i) (by omega) (xk_3 hp) (by rw [xl_3 hp]; omega) (by rw [xl_3 hp]; omega) (nI (tvl B n (a + 1)))
    rw [pe_w (by omega)] at hop
    refine RD_t hp6 (T := w1 (tsT B n p i e1.1 e3 (a + 1 + 1) μ 4) (p + 3) i (nI (tvl B n (a + 1)))) (a2 := a + 1 + 1 + 4) (run _ ?_) (Fp_w1 (tsT_fp (by omega)) (by omega) (by omega)) (hTk 4).1 (fun _ => ⟨?_, rfl⟩)
    · intro T hT2 E hE2
      subst hT2 hE2
      refine ⟨fun _ => ⟨_, ?_, rfl⟩, fun q => absurd hz q⟩
      rw [z1, z3, rv_0, rv_0]
      rw [z1] at hop
      exact hop
    · refine PR_sli hT4 (fun j hj => ?_) hi ?_ ?_
      · rw [tsN_ne (by omega)]; exact (iv_p hI j hj).2
      · rw [tsN_ne (by omega)]; exact hh.1
      · rw [tsN_ne (by omega)]; exact hh.2.1
  · refine RD_t hp6 (T := tsT B n p i e1.1 e3 (a + 1 + 1) μ 4) (a2 := a + 1 + 1 + 4) (run _ ?_) (tsT_fp (by omega)) (hTk 4).1 (fun q => absurd q hz)
    intro T hT2 E hE2
    subst hT2 hE2
    exact ⟨fun q => absurd q hz, fun _ => rfl⟩
end XItem3
