/-! ===== the class's parser: an item, all keywords (by program, wip/whole/gen992.py) ===== -/
section XItem992
variable {G : ev_G} {N : Nat → Nat} {B : Nat → Nat} {n m p : Nat} {μ μ' : ev_M}
set_option maxHeartbeats 1000000 in
theorem m_it_fill (hok : ev_ok sh_S G) {pp : Program} {e : Env} {R : Room} {s : State} {mm : MethodId} {args : Array Value} {below : List Frame} {meth : Method} {c : Code} {μ1 μ' : ev_M} {w : Value} {z : Int32} (hp6 : p = 6) (hB : ev_B sh_S G pp R s mm args meth c mi_X7_readItem.2.1 RX7 mi_X7_readItem.2.2.1 mi_X7_readItem.2.2.2.2 (.inl (some (.int (nI 0)), μ')) tb_X7_readItem.2.2.2.2.2.2) (hret : meth.sig.returnType = mi_X7_readItem.2.2.2.1) (h1 : ev_T sh_S G mi_X4_fillSeats [.ref p] μ1 (.inl (some (.int z), μ'))) : ev_Wk sh_S G pp G.1 e R s mm args below meth c mi_X7_readItem.2.2.1 (.inl (some (.int (nI 0)), μ')) 177 ([0, 1].zip [.ref 5, w]) [] μ1 := by
  have hK := And.intro pk_5.1 pk_5.2.2
  have hpp : sh_pt 5 0 = p := by rw [hp6]; exact pk_5.2.1
  have hk6 : sh_kd p = 2 := by rw [hp6]; decide +kernel
  refine eg_run okM_IB hB hret eg_J0 400 177 ?_
  rw [show ev_at cdIB 177 = (177, .aload 0) :: (178, .getfield 12) :: (181, .invokevirtual 125) :: (184, .pop) :: (185, .goto 267) :: ev_at cdIB 188 from rfl]
  repeat' (first
    | (with_reducible refine ev_rid ?_; simp (disch := first | omega | assumption) only [ev_run_c, ev_run_n, ev_fj, ev_stp, ev_lk, ev_fv, ev_as, ev_sz, ev_st1, ev_st2, ev_rm, ev_pk, ev_Jof, ev_go, lv_args, List.map_cons, List.map_nil, List.zip_cons_cons, List.zip_nil_left, List.zip_nil_right, List.nil_append, List.cons_append, ↓reduceIte, reduceCtorEq, Int.reduceToNat, Nat.reduceEqDiff, Nat.reduceAdd, Nat.reduceLT, Nat.reduceLeDiff, Nat.reduceMul, Nat.reduceSub, Value.category, false_implies, true_and, and_true, Bool.false_eq_true, Option.some.injEq, exists_eq_left', Option.toList_some, Option.toList_none, ev_km, ev_k2, ev_k3, ev_k4, ev_k5, ev_l0, ev_l1, sh_1, sh_2, sh_3, sh_4, sh_5, at_X7_readItem_24, at_X7_readItem_267, ca_X7_104, ca_X7_107, ca_X7_110, ca_X7_113, ca_X7_116, ca_X7_119, ca_X7_122, ca_X7_125, ca_X7_128, ca_X7_131, ca_X7_134, ca_X7_137, ca_X7_140, ca_X7_143, ca_X7_146, ca_X7_149, ca_X7_152, ca_X7_155, ca_X7_67, ca_X7_71, ca_X7_91, cd_X7_readItem_0, cd_X7_readItem_24, cd_X7_readItem_267, fl_X7_12, fl_X7_49, no_0, no_1, no_lt, no_le, no_eq, no_lt0, no_ge0, no_gt0, no_le0, no_eq0, no_0eq, no_eqm, no_meq, no_m0, no_mlt, no_mge, no_mgt, no_mm, no_i01, no_i10, no_in, no_or, no_ifm, no_mul, nI_add, no_sub, pk_div, iI_if, nI_clamp, oI_n, oI_s, not_true_eq_false, not_false_eq_true, forall_const, true_implies, false_and, and_false, or_false, false_or, Classical.not_not, true_or, or_true, no_b, no_eq1, eq_self, and_self, no_on, at_IB_267, hK, hpp, hk6])
    | (with_reducible refine ev_gid ?_; simp (disch := first | omega | assumption) only [ev_run_c, ev_run_n, ev_fj, ev_stp, ev_lk, ev_fv, ev_as, ev_sz, ev_st1, ev_st2, ev_rm, ev_pk, ev_Jof, ev_go, lv_args, List.map_cons, List.map_nil, List.zip_cons_cons, List.zip_nil_left, List.zip_nil_right, List.nil_append, List.cons_append, ↓reduceIte, reduceCtorEq, Int.reduceToNat, Nat.reduceEqDiff, Nat.reduceAdd, Nat.reduceLT, Nat.reduceLeDiff, Nat.reduceMul, Nat.reduceSub, Value.category, false_implies, true_and, and_true, Bool.false_eq_true, Option.some.injEq, exists_eq_left', Option.toList_some, Option.toList_none, ev_km, ev_k2, ev_k3, ev_k4, ev_k5, ev_l0, ev_l1, sh_1, sh_2, sh_3, sh_4, sh_5, at_X7_readItem_24, at_X7_readItem_267, ca_X7_104, ca_X7_107, ca_X7_110, ca_X7_113, ca_X7_116, ca_X7_119, ca_X7_122, ca_X7_125, ca_X7_128, ca_X7_131, ca_X7_134, ca_X7_137, ca_X7_140, ca_X7_143, ca_X7_146, ca_X7_149, ca_X7_152, ca_X7_155, ca_X7_67, ca_X7_71, ca_X7_91, cd_X7_readItem_0, cd_X7_readItem_24, cd_X7_readItem_267, fl_X7_12, fl_X7_49, no_0, no_1, no_lt, no_le, no_eq, no_lt0, no_ge0, no_gt0, no_le0, no_eq0, no_0eq, no_eqm, no_meq, no_m0, no_mlt, no_mge, no_mgt, no_mm, no_i01, no_i10, no_in, no_or, no_ifm, no_mul, nI_add, no_sub, pk_div, iI_if, nI_clamp, oI_n, oI_s, not_true_eq_false, not_false_eq_true, forall_const, true_implies, false_and, and_false, or_false, false_or, Classical.not_not, true_or, or_true, no_b, no_eq1, eq_self, and_self, no_on, at_IB_267, hK, hpp, hk6])
    | (with_reducible refine And.intro (fun q => ?_) (fun q => ?_) <;> (try simp (disch := first | omega | assumption) only [no_0, no_1, no_lt, no_le, no_eq, no_lt0, no_ge0, no_gt0, no_le0, no_eq0, no_0eq, no_eqm, no_meq, no_m0, no_mlt, no_mge, no_mgt, no_mm, no_i01, no_i10, no_in, no_or, no_ifm, no_mul, nI_add, no_sub, pk_div, iI_if, nI_clamp, oI_n, oI_s, not_true_eq_false, not_false_eq_true, forall_const, true_implies, false_and, and_false, or_false, false_or, Classical.not_not, true_or, or_true, no_b, no_eq1, eq_self, and_self, no_on, at_IB_267, hK, hpp, hk6] at q))
    | (with_reducible refine ev_ci h1 ?_)
    | with_reducible refine ev_ci (m_fail_n hok (by assumption) ?_ _ _) ?_
    | omega
    | with_reducible assumption
    | with_reducible rfl
    | (refine Nat.lt_of_lt_of_le ?_ (Nat.le_refl 312); omega)
    | with_reducible refine lp_nx ?_ ?_ ?_ ?_
    | with_reducible refine lp_st ?_ ?_ ?_
    | with_reducible refine ls_c ?_ ?_
    | with_reducible refine vi_c ?_
    | with_reducible refine re_c ?_
    | with_reducible refine vz_c ?_
    | with_reducible refine rz_c ?_
    | exact trivial
    | with_reducible refine And.intro ?_ ?_
    | simp (disch := first | omega | assumption) only [ev_run_c, ev_run_n, ev_fj, ev_stp, ev_lk, ev_fv, ev_as, ev_sz, ev_st1, ev_st2, ev_rm, ev_pk, ev_Jof, ev_go, lv_args, List.map_cons, List.map_nil, List.zip_cons_cons, List.zip_nil_left, List.zip_nil_right, List.nil_append, List.cons_append, ↓reduceIte, reduceCtorEq, Int.reduceToNat, Nat.reduceEqDiff, Nat.reduceAdd, Nat.reduceLT, Nat.reduceLeDiff, Nat.reduceMul, Nat.reduceSub, Value.category, false_implies, true_and, and_true, Bool.false_eq_true, Option.some.injEq, exists_eq_left', Option.toList_some, Option.toList_none, ev_km, ev_k2, ev_k3, ev_k4, ev_k5, ev_l0, ev_l1, sh_1, sh_2, sh_3, sh_4, sh_5, at_X7_readItem_24, at_X7_readItem_267, ca_X7_104, ca_X7_107, ca_X7_110, ca_X7_113, ca_X7_116, ca_X7_119, ca_X7_122, ca_X7_125, ca_X7_128, ca_X7_131, ca_X7_134, ca_X7_137, ca_X7_140, ca_X7_143, ca_X7_146, ca_X7_149, ca_X7_152, ca_X7_155, ca_X7_67, ca_X7_71, ca_X7_91, cd_X7_readItem_0, cd_X7_readItem_24, cd_X7_readItem_267, fl_X7_12, fl_X7_49, no_0, no_1, no_lt, no_le, no_eq, no_lt0, no_ge0, no_gt0, no_le0, no_eq0, no_0eq, no_eqm, no_meq, no_m0, no_mlt, no_mge, no_mgt, no_mm, no_i01, no_i10, no_in, no_or, no_ifm, no_mul, nI_add, no_sub, pk_div, iI_if, nI_clamp, oI_n, oI_s, not_true_eq_false, not_false_eq_true, forall_const, true_implies, false_and, and_false, or_false, false_or, Classical.not_not, true_or, or_true, no_b, no_eq1, eq_self, and_self, no_on, at_IB_267, hK, hpp, hk6]
    | exact rfl
    | (split <;> omega))
set_option maxHeartbeats 1000000 in
theorem m_it_rep {pp : Program} {e : Env} {R : Room} {s : State} {mm : MethodId} {args : Array Value} {below : List Frame} {meth : Method} {c : Code} {μ1 μ' : ev_M} {w : Value} {r : Nat} (hB : ev_B sh_S G pp R s mm args meth c mi_X7_readItem.2.1 RX7 mi_X7_readItem.2.2.1 mi_X7_readItem.2.2.2.2 (.inl (some (.int (nI r)), μ')) tb_X7_readItem.2.2.2.2.2.2) (hret : meth.sig.returnType = mi_X7_readItem.2.2.2.1) (hr : r < 2) (h1 : ev_T sh_S G mi_X7_beginRepeat [.ref 5] μ1 (.inl (some (.int (nI r)), μ'))) : ev_Wk sh_S G pp G.1 e R s mm args below meth c mi_X7_readItem.2.2.1 (.inl (some (.int (nI r)), μ')) 251 ([0, 1].zip [.ref 5, w]) [] μ1 := by
  refine eg_run okM_IB hB hret eg_J0 400 251 ?_
  rw [show ev_at cdIB 251 = (251, .aload 0) :: (252, .invokevirtual 155) :: (255, .ireturn) :: ev_at cdIB 256 from rfl]
  repeat' (first
    | (with_reducible refine ev_rid ?_; simp (disch := first | omega | assumption) only [ev_run_c, ev_run_n, ev_fj, ev_stp, ev_lk, ev_fv, ev_as, ev_sz, ev_st1, ev_st2, ev_rm, ev_pk, ev_Jof, ev_go, lv_args, List.map_cons, List.map_nil, List.zip_cons_cons, List.zip_nil_left, List.zip_nil_right, List.nil_append, List.cons_append, ↓reduceIte, reduceCtorEq, Int.reduceToNat, Nat.reduceEqDiff, Nat.reduceAdd, Nat.reduceLT, Nat.reduceLeDiff, Nat.reduceMul, Nat.reduceSub, Value.category, false_implies, true_and, and_true, Bool.false_eq_true, Option.some.injEq, exists_eq_left', Option.toList_some, Option.toList_none, ev_km, ev_k2, ev_k3, ev_k4, ev_k5, ev_l0, ev_l1, sh_1, sh_2, sh_3, sh_4, sh_5, at_X7_readItem_24, at_X7_readItem_267, ca_X7_104, ca_X7_107, ca_X7_110, ca_X7_113, ca_X7_116, ca_X7_119, ca_X7_122, ca_X7_125, ca_X7_128, ca_X7_131, ca_X7_134, ca_X7_137, ca_X7_140, ca_X7_143, ca_X7_146, ca_X7_149, ca_X7_152, ca_X7_155, ca_X7_67, ca_X7_71, ca_X7_91, cd_X7_readItem_0, cd_X7_readItem_24, cd_X7_readItem_267, fl_X7_12, fl_X7_49, no_0, no_1, no_lt, no_le, no_eq, no_lt0, no_ge0, no_gt0, no_le0, no_eq0, no_0eq, no_eqm, no_meq, no_m0, no_mlt, no_mge, no_mgt, no_mm, no_i01, no_i10, no_in, no_or, no_ifm, no_mul, nI_add, no_sub, pk_div, iI_if, nI_clamp, oI_n, oI_s, not_true_eq_false, not_false_eq_true, forall_const, true_implies, false_and, and_false, or_false, false_or, Classical.not_not, true_or, or_true, no_b, no_eq1, eq_self, and_self, no_on, at_IB_267])
    | (with_reducible refine ev_gid ?_; simp (disch := first | omega | assumption) only [ev_run_c, ev_run_n, ev_fj, ev_stp, ev_lk, ev_fv, ev_as, ev_sz, ev_st1, ev_st2, ev_rm, ev_pk, ev_Jof, ev_go, lv_args, List.map_cons, List.map_nil, List.zip_cons_cons, List.zip_nil_left, List.zip_nil_right, List.nil_append, List.cons_append, ↓reduceIte, reduceCtorEq, Int.reduceToNat, Nat.reduceEqDiff, Nat.reduceAdd, Nat.reduceLT, Nat.reduceLeDiff, Nat.reduceMul, Nat.reduceSub, Value.category, false_implies, true_and, and_true, Bool.false_eq_true, Option.some.injEq, exists_eq_left', Option.toList_some, Option.toList_none, ev_km, ev_k2, ev_k3, ev_k4, ev_k5, ev_l0, ev_l1, sh_1, sh_2, sh_3, sh_4, sh_5, at_X7_readItem_24, at_X7_readItem_267, ca_X7_104, ca_X7_107, ca_X7_110, ca_X7_113, ca_X7_116, ca_X7_119, ca_X7_122, ca_X7_125, ca_X7_128, ca_X7_131, ca_X7_134, ca_X7_137, ca_X7_140, ca_X7_143, ca_X7_146, ca_X7_149, ca_X7_152, ca_X7_155, ca_X7_67, ca_X7_71, ca_X7_91, cd_X7_readItem_0, cd_X7_readItem_24, cd_X7_readItem_267, fl_X7_12, fl_X7_49, no_0, no_1, no_lt, no_le, no_eq, no_lt0, no_ge0, no_gt0, no_le0, no_eq0, no_0eq, no_eqm, no_meq, no_m0, no_mlt, no_mge, no_mgt, no_mm, no_i01, no_i10, no_in, no_or, no_ifm, no_mul, nI_add, no_sub, pk_div, iI_if, nI_clamp, oI_n, oI_s, not_true_eq_false, not_false_eq_true, forall_const, true_implies, false_and, and_false, or_false, false_or, Classical.not_not, true_or, or_true, no_b, no_eq1, eq_self, and_self, no_on, at_IB_267])
    | (with_reducible refine And.intro (fun q => ?_) (fun q => ?_) <;> (try simp (disch := first | omega | assumption) only [no_0, no_1, no_lt, no_le, no_eq, no_lt0, no_ge0, no_gt0, no_le0, no_eq0, no_0eq, no_eqm, no_meq, no_m0, no_mlt, no_mge, no_mgt, no_mm, no_i01, no_i10, no_in, no_or, no_ifm, no_mul, nI_add, no_sub, pk_div, iI_if, nI_clamp, oI_n, oI_s, not_true_eq_false, not_false_eq_true, forall_const, true_implies, false_and, and_false, or_false, false_or, Classical.not_not, true_or, or_true, no_b, no_eq1, eq_self, and_self, no_on, at_IB_267] at q))
    | (with_reducible refine ev_ci h1 ?_)
    | with_reducible refine ev_ci (m_fail_n hok (by assumption) ?_ _ _) ?_
    | omega
    | with_reducible assumption
    | with_reducible rfl
    | (refine Nat.lt_of_lt_of_le ?_ (Nat.le_refl 312); omega)
    | with_reducible refine lp_nx ?_ ?_ ?_ ?_
    | with_reducible refine lp_st ?_ ?_ ?_
    | with_reducible refine ls_c ?_ ?_
    | with_reducible refine vi_c ?_
    | with_reducible refine re_c ?_
    | with_reducible refine vz_c ?_
    | with_reducible refine rz_c ?_
    | exact trivial
    | with_reducible refine And.intro ?_ ?_
    | simp (disch := first | omega | assumption) only [ev_run_c, ev_run_n, ev_fj, ev_stp, ev_lk, ev_fv, ev_as, ev_sz, ev_st1, ev_st2, ev_rm, ev_pk, ev_Jof, ev_go, lv_args, List.map_cons, List.map_nil, List.zip_cons_cons, List.zip_nil_left, List.zip_nil_right, List.nil_append, List.cons_append, ↓reduceIte, reduceCtorEq, Int.reduceToNat, Nat.reduceEqDiff, Nat.reduceAdd, Nat.reduceLT, Nat.reduceLeDiff, Nat.reduceMul, Nat.reduceSub, Value.category, false_implies, true_and, and_true, Bool.false_eq_true, Option.some.injEq, exists_eq_left', Option.toList_some, Option.toList_none, ev_km, ev_k2, ev_k3, ev_k4, ev_k5, ev_l0, ev_l1, sh_1, sh_2, sh_3, sh_4, sh_5, at_X7_readItem_24, at_X7_readItem_267, ca_X7_104, ca_X7_107, ca_X7_110, ca_X7_113, ca_X7_116, ca_X7_119, ca_X7_122, ca_X7_125, ca_X7_128, ca_X7_131, ca_X7_134, ca_X7_137, ca_X7_140, ca_X7_143, ca_X7_146, ca_X7_149, ca_X7_152, ca_X7_155, ca_X7_67, ca_X7_71, ca_X7_91, cd_X7_readItem_0, cd_X7_readItem_24, cd_X7_readItem_267, fl_X7_12, fl_X7_49, no_0, no_1, no_lt, no_le, no_eq, no_lt0, no_ge0, no_gt0, no_le0, no_eq0, no_0eq, no_eqm, no_meq, no_m0, no_mlt, no_mge, no_mgt, no_mm, no_i01, no_i10, no_in, no_or, no_ifm, no_mul, nI_add, no_sub, pk_div, iI_if, nI_clamp, oI_n, oI_s, not_true_eq_false, not_false_eq_true, forall_const, true_implies, false_and, and_false, or_false, false_or, Classical.not_not, true_or, or_true, no_b, no_eq1, eq_self, and_self, no_on, at_IB_267]
    | exact rfl
    | (split <;> omega))
set_option maxHeartbeats 1000000 in
theorem m_it_bad (hok : ev_ok sh_S G) (hT : TT B n m μ) {a : Nat} (ha : a ≤ m) {pp : Program} {e : Env} {R : Room} {s : State} {mm : MethodId} {args : Array Value} {below : List Frame} {meth : Method} {c : Code} {w : Value} (hB : ev_B sh_S G pp R s mm args meth c mi_X7_readItem.2.1 RX7 mi_X7_readItem.2.2.1 mi_X7_readItem.2.2.2.2 (.inl (some (.int (nI 0)), pe (er (0, -1) True 1 a B n) (a + 1) μ)) tb_X7_readItem.2.2.2.2.2.2) (hret : meth.sig.returnType = mi_X7_readItem.2.2.2.1) : ev_Wk sh_S G pp G.1 e R s mm args below meth c mi_X7_readItem.2.2.1 (.inl (some (.int (nI 0)), pe (er (0, -1) True 1 a B n) (a + 1) μ)) 256 ([0, 1].zip [.ref 5, w]) [] (pe (0, -1) (a + 1) μ) := by
  have hK := And.intro pk_5.1 pk_5.2.2
  have hm5 := hT.1
  have hf := m_fail (μ := μ) (e := (0, -1)) (a := a + 1) (c := 1) (i := a) hok hT (by decide) (fun _ => ha)
  refine eg_run okM_IB hB hret eg_J0 400 256 ?_
  rw [show ev_at cdIB 256 = (256, .aload 0) :: (257, .iconst 1) :: (258, .aload 0) :: (259, .getfield 49) :: (262, .iconst 1) :: (263, .isub) :: (264, .invokevirtual 67) :: ev_at cdIB 267 from rfl]
  repeat' (first
    | (with_reducible refine ev_rid ?_; simp (disch := first | omega | assumption) only [ev_run_c, ev_run_n, ev_fj, ev_stp, ev_lk, ev_fv, ev_as, ev_sz, ev_st1, ev_st2, ev_rm, ev_pk, ev_Jof, ev_go, lv_args, List.map_cons, List.map_nil, List.zip_cons_cons, List.zip_nil_left, List.zip_nil_right, List.nil_append, List.cons_append, ↓reduceIte, reduceCtorEq, Int.reduceToNat, Nat.reduceEqDiff, Nat.reduceAdd, Nat.reduceLT, Nat.reduceLeDiff, Nat.reduceMul, Nat.reduceSub, Value.category, false_implies, true_and, and_true, Bool.false_eq_true, Option.some.injEq, exists_eq_left', Option.toList_some, Option.toList_none, ev_km, ev_k2, ev_k3, ev_k4, ev_k5, ev_l0, ev_l1, sh_1, sh_2, sh_3, sh_4, sh_5, at_X7_readItem_24, at_X7_readItem_267, ca_X7_104, ca_X7_107, ca_X7_110, ca_X7_113, ca_X7_116, ca_X7_119, ca_X7_122, ca_X7_125, ca_X7_128, ca_X7_131, ca_X7_134, ca_X7_137, ca_X7_140, ca_X7_143, ca_X7_146, ca_X7_149, ca_X7_152, ca_X7_155, ca_X7_67, ca_X7_71, ca_X7_91, cd_X7_readItem_0, cd_X7_readItem_24, cd_X7_readItem_267, fl_X7_12, fl_X7_49, no_0, no_1, no_lt, no_le, no_eq, no_lt0, no_ge0, no_gt0, no_le0, no_eq0, no_0eq, no_eqm, no_meq, no_m0, no_mlt, no_mge, no_mgt, no_mm, no_i01, no_i10, no_in, no_or, no_ifm, no_mul, nI_add, no_sub, pk_div, iI_if, nI_clamp, oI_n, oI_s, not_true_eq_false, not_false_eq_true, forall_const, true_implies, false_and, and_false, or_false, false_or, Classical.not_not, true_or, or_true, no_b, no_eq1, eq_self, and_self, no_on, at_IB_267, hK, pe_7, show a + 1 - 1 = a from rfl])
    | (with_reducible refine ev_gid ?_; simp (disch := first | omega | assumption) only [ev_run_c, ev_run_n, ev_fj, ev_stp, ev_lk, ev_fv, ev_as, ev_sz, ev_st1, ev_st2, ev_rm, ev_pk, ev_Jof, ev_go, lv_args, List.map_cons, List.map_nil, List.zip_cons_cons, List.zip_nil_left, List.zip_nil_right, List.nil_append, List.cons_append, ↓reduceIte, reduceCtorEq, Int.reduceToNat, Nat.reduceEqDiff, Nat.reduceAdd, Nat.reduceLT, Nat.reduceLeDiff, Nat.reduceMul, Nat.reduceSub, Value.category, false_implies, true_and, and_true, Bool.false_eq_true, Option.some.injEq, exists_eq_left', Option.toList_some, Option.toList_none, ev_km, ev_k2, ev_k3, ev_k4, ev_k5, ev_l0, ev_l1, sh_1, sh_2, sh_3, sh_4, sh_5, at_X7_readItem_24, at_X7_readItem_267, ca_X7_104, ca_X7_107, ca_X7_110, ca_X7_113, ca_X7_116, ca_X7_119, ca_X7_122, ca_X7_125, ca_X7_128, ca_X7_131, ca_X7_134, ca_X7_137, ca_X7_140, ca_X7_143, ca_X7_146, ca_X7_149, ca_X7_152, ca_X7_155, ca_X7_67, ca_X7_71, ca_X7_91, cd_X7_readItem_0, cd_X7_readItem_24, cd_X7_readItem_267, fl_X7_12, fl_X7_49, no_0, no_1, no_lt, no_le, no_eq, no_lt0, no_ge0, no_gt0, no_le0, no_eq0, no_0eq, no_eqm, no_meq, no_m0, no_mlt, no_mge, no_mgt, no_mm, no_i01, no_i10, no_in, no_or, no_ifm, no_mul, nI_add, no_sub, pk_div, iI_if, nI_clamp, oI_n, oI_s, not_true_eq_false, not_false_eq_true, forall_const, true_implies, false_and, and_false, or_false, false_or, Classical.not_not, true_or, or_true, no_b, no_eq1, eq_self, and_self, no_on, at_IB_267, hK, pe_7, show a + 1 - 1 = a from rfl])
    | (with_reducible refine And.intro (fun q => ?_) (fun q => ?_) <;> (try simp (disch := first | omega | assumption) only [no_0, no_1, no_lt, no_le, no_eq, no_lt0, no_ge0, no_gt0, no_le0, no_eq0, no_0eq, no_eqm, no_meq, no_m0, no_mlt, no_mge, no_mgt, no_mm, no_i01, no_i10, no_in, no_or, no_ifm, no_mul, nI_add, no_sub, pk_div, iI_if, nI_clamp, oI_n, oI_s, not_true_eq_false, not_false_eq_true, forall_const, true_implies, false_and, and_false, or_false, false_or, Classical.not_not, true_or, or_true, no_b, no_eq1, eq_self, and_self, no_on, at_IB_267, hK, pe_7, show a + 1 - 1 = a from rfl] at q))
    | (with_reducible refine ev_ci hf ?_)
    | with_reducible refine ev_ci (m_fail_n hok (by assumption) ?_ _ _) ?_
    | omega
    | with_reducible assumption
    | with_reducible rfl
    | (refine Nat.lt_of_lt_of_le ?_ (Nat.le_refl 312); omega)
    | with_reducible refine lp_nx ?_ ?_ ?_ ?_
    | with_reducible refine lp_st ?_ ?_ ?_
    | with_reducible refine ls_c ?_ ?_
    | with_reducible refine vi_c ?_
    | with_reducible refine re_c ?_
    | with_reducible refine vz_c ?_
    | with_reducible refine rz_c ?_
    | exact trivial
    | with_reducible refine And.intro ?_ ?_
    | simp (disch := first | omega | assumption) only [ev_run_c, ev_run_n, ev_fj, ev_stp, ev_lk, ev_fv, ev_as, ev_sz, ev_st1, ev_st2, ev_rm, ev_pk, ev_Jof, ev_go, lv_args, List.map_cons, List.map_nil, List.zip_cons_cons, List.zip_nil_left, List.zip_nil_right, List.nil_append, List.cons_append, ↓reduceIte, reduceCtorEq, Int.reduceToNat, Nat.reduceEqDiff, Nat.reduceAdd, Nat.reduceLT, Nat.reduceLeDiff, Nat.reduceMul, Nat.reduceSub, Value.category, false_implies, true_and, and_true, Bool.false_eq_true, Option.some.injEq, exists_eq_left', Option.toList_some, Option.toList_none, ev_km, ev_k2, ev_k3, ev_k4, ev_k5, ev_l0, ev_l1, sh_1, sh_2, sh_3, sh_4, sh_5, at_X7_readItem_24, at_X7_readItem_267, ca_X7_104, ca_X7_107, ca_X7_110, ca_X7_113, ca_X7_116, ca_X7_119, ca_X7_122, ca_X7_125, ca_X7_128, ca_X7_131, ca_X7_134, ca_X7_137, ca_X7_140, ca_X7_143, ca_X7_146, ca_X7_149, ca_X7_152, ca_X7_155, ca_X7_67, ca_X7_71, ca_X7_91, cd_X7_readItem_0, cd_X7_readItem_24, cd_X7_readItem_267, fl_X7_12, fl_X7_49, no_0, no_1, no_lt, no_le, no_eq, no_lt0, no_ge0, no_gt0, no_le0, no_eq0, no_0eq, no_eqm, no_meq, no_m0, no_mlt, no_mge, no_mgt, no_mm, no_i01, no_i10, no_in, no_or, no_ifm, no_mul, nI_add, no_sub, pk_div, iI_if, nI_clamp, oI_n, oI_s, not_true_eq_false, not_false_eq_true, forall_const, true_implies, false_and, and_false, or_false, false_or, Classical.not_not, true_or, or_true, no_b, no_eq1, eq_self, and_self, no_on, at_IB_267, hK, pe_7, show a + 1 - 1 = a from rfl]
    | exact rfl
    | (split <;> omega))
theorem er_y1 {a : Nat} : (er (0, -1) True 1 a B n).1 = 1 := by
  unfold er
  rw [if_pos ⟨rfl, trivial⟩]
set_option maxHeartbeats 1000000 in
theorem rd_item (hok : ev_ok sh_S G) (hkw : KW G) (hT : TT B n m μ) (hp6 : p = 6) (hP : PR p N μ) (hI : INV N) {a d : Nat} (ha : a ≤ m) (hd : μ.1 5 6 = nI d) (hd2 : d ≤ 2) (ho : otm N d (kwi B n a) = 0) (h18 : kwi B n a ≠ 18) : RI G a μ (qI B n N a (kwi B n a)) (nI9 B n N a (kwi B n a)) (aI9 B n N a (kwi B n a)) := by
  have hk1 := kwi_le B n a
  have hp : p ∈ sh_B := by rw [hp6]; exact sh_6
  have ha1 : kwi B n a ≠ 19 → a + 1 ≤ m := fun h => tk_nxt hT ha (fun q => h (by unfold kwi; rw [if_neg (by omega)]))
  have bad : (kwi B n a = 0 ∨ kwi B n a = 19) → RI G a μ (er (0, -1) True 1 a B n) N (a + 1) := fun h => by
    refine ⟨pe (er (0, -1) True 1 a B n) (a + 1) μ, m_item_s hok hkw hT hp6 hP hI ha hd hd2 ho (fun pp e R s mm below meth c hB hret => ?_), Fs_pe, pe_1, pe_2, er_c (by decide) (by decide), fun z => absurd (er_y1.symm.trans z) Nat.one_ne_zero⟩
    have e1 : tgt (kwi B n a) = 256 := by rcases h with h | h <;> rw [h] <;> rfl
    rw [e1]
    exact m_it_bad hok hT ha hB hret
  rcases (show kwi B n a = 0 ∨ kwi B n a = 1 ∨ kwi B n a = 2 ∨ kwi B n a = 3 ∨ kwi B n a = 4 ∨ kwi B n a = 5 ∨ kwi B n a = 6 ∨ kwi B n a = 7 ∨ kwi B n a = 8 ∨ kwi B n a = 9 ∨ kwi B n a = 10 ∨ kwi B n a = 11 ∨ kwi B n a = 12 ∨ kwi B n a = 13 ∨ kwi B n a = 14 ∨ kwi B n a = 15 ∨ kwi B n a = 16 ∨ kwi B n a = 17 ∨ kwi B n a = 19 by omega) with hk | hk | hk | hk | hk | hk | hk | hk | hk | hk | hk | hk | hk | hk | hk | hk | hk | hk | hk
  · have := bad (Or.inl hk)
    rw [hk]; exact this
  · have hz := ha1 (by omega)
    have h16 : N 0 < 16 := Nat.lt_of_not_le (fun q => by unfold otm at ho; rw [if_pos (Or.inl ⟨hk, q⟩)] at ho; cases ho)
    obtain ⟨μ', h1, h2, h3, h4, h5, h6⟩ := rd_person hok hT hp6 hP hI h16 (a := a + 1) hz
    refine (show RI G a μ (q_person B n N (a + 1)) (apN N (tln B n (a + 1)) (fun k => B (tst B n (a + 1) + k)) (tvl B n (a + 1 + 1))) (a + 1 + 1 + 1) → _ from fun h => by rw [hk]; exact h) ⟨μ', m_item_s hok hkw hT hp6 hP hI ha hd hd2 ho (fun pp e R s mm below meth c hB hret => ?_), h2, h3, h4, h5, h6⟩
    rw [show tgt (kwi B n a) = 128 by rw [hk]; rfl]
    exact m_it_person hB hret h1
  · have hz := ha1 (by omega)
    obtain ⟨μ', h1, h2, h3, h4, h5, h6⟩ := rd_taster hok hT hp6 hP hI (a := a + 1) hz
    refine (show RI G a μ (q_taster B n N (a + 1)) (up (tsN B n N (pv B n N (a + 1)) (a + 1 + 1 + 1) 4) (8 + 59 * pv B n N (a + 1) + 1) (tvl B n (a + 1 + 1))) (a + 1 + 1 + 1 + 4) → _ from fun h => by rw [hk]; exact h) ⟨μ', m_item_s hok hkw hT hp6 hP hI ha hd hd2 ho (fun pp e R s mm below meth c hB hret => ?_), h2, h3, h4, h5, h6⟩
    rw [show tgt (kwi B n a) = 135 by rw [hk]; rfl]
    exact m_it_taster hB hret h1
  · have hz := ha1 (by omega)
    have h10 : N 1 < 10 := Nat.lt_of_not_le (fun q => by unfold otm at ho; rw [if_pos (Or.inr (Or.inl ⟨hk, q⟩))] at ho; cases ho)
    obtain ⟨μ', h1, h2, h3, h4, h5, h6⟩ := rd_pancake hok hT hp6 hP hI h10 (a := a + 1) hz
    refine (show RI G a μ (q_pancake B n N (a + 1)) (pkN N (tvl B n (a + 1)) (pkE B n N (a + 1 + 1) 4 0).2 (fun k => pv B n N (a + 1 + 1 + k))) (a + 1 + 1 + (pkE B n N (a + 1 + 1) 4 0).2) → _ from fun h => by rw [hk]; exact h) ⟨μ', m_item_s hok hkw hT hp6 hP hI ha hd hd2 ho (fun pp e R s mm below meth c hB hret => ?_), h2, h3, h4, h5, h6⟩
    rw [show tgt (kwi B n a) = 142 by rw [hk]; rfl]
    exact m_it_pancake hB hret h1
  · have hz := ha1 (by omega)
    obtain ⟨μ', h1, h2, h3, h4, h5, h6⟩ := rd_bid hok hT hp6 hP hI (a := a + 1) hz
    refine (show RI G a μ (q_bid B n N (a + 1)) (up N (8 + 59 * (pv B n N (a + 1)) + (13 + (tvl B n (a + 1 + 1)))) (tvl B n (a + 1 + 1 + 1))) (a + 1 + 1 + 1 + 1) → _ from fun h => by rw [hk]; exact h) ⟨μ', m_item_s hok hkw hT hp6 hP hI ha hd hd2 ho (fun pp e R s mm below meth c hB hret => ?_), h2, h3, h4, h5, h6⟩
    rw [show tgt (kwi B n a) = 149 by rw [hk]; rfl]
    exact m_it_bid hB hret h1
  · have hz := ha1 (by omega)
    obtain ⟨μ', h1, h2, h3, h4, h5, h6⟩ := rd_together hok hT hp6 hP hI (a := a + 1) hz
    refine (show RI G a μ (q_together B n N (a + 1)) (jcN N (pv B n N (a + 1)) (pv B n N (a + 1 + 1))) (a + 1 + 1 + 1) → _ from fun h => by rw [hk]; exact h) ⟨μ', m_item_s hok hkw hT hp6 hP hI ha hd hd2 ho (fun pp e R s mm below meth c hB hret => ?_), h2, h3, h4, h5, h6⟩
    rw [show tgt (kwi B n a) = 156 by rw [hk]; rfl]
    exact m_it_together hB hret h1
  · have hz := ha1 (by omega)
    obtain ⟨μ', h1, h2, h3, h4, h5, h6⟩ := rd_conflict hok hT hp6 hP hI (a := a + 1) hz
    refine (show RI G a μ (q_conflict B n N (a + 1)) (up N (8 + 59 * (pv B n N (a + 1)) + (33 + (tvl B n (a + 1 + 1)))) 1) (a + 1 + 1 + 1) → _ from fun h => by rw [hk]; exact h) ⟨μ', m_item_s hok hkw hT hp6 hP hI ha hd hd2 ho (fun pp e R s mm below meth c hB hret => ?_), h2, h3, h4, h5, h6⟩
    rw [show tgt (kwi B n a) = 163 by rw [hk]; rfl]
    exact m_it_conflict hB hret h1
  · have hz := ha1 (by omega)
    obtain ⟨μ', h1, h2, h3, h4, h5, h6⟩ := rd_seat hok hT hp6 hP hI (a := a + 1) hz
    refine (show RI G a μ (q_seat B n N (a + 1)) (stN N (pv B n N (a + 1)) (tvl B n (a + 1 + 1))) (a + 1 + 1 + 1) → _ from fun h => by rw [hk]; exact h) ⟨μ', m_item_s hok hkw hT hp6 hP hI ha hd hd2 ho (fun pp e R s mm below meth c hB hret => ?_), h2, h3, h4, h5, h6⟩
    rw [show tgt (kwi B n a) = 170 by rw [hk]; rfl]
    exact m_it_seat hB hret h1
  · have hPz : PR p N (pe (0, -1) (a + 1) μ) := PR_p hp6 hP
    have hop := m_X4_fillSeats (μ := pe (0, -1) (a + 1) μ) hok hp hPz hI
    have hF : Fp 6 (pe (0, -1) (a + 1) μ) (xfl p N (pe (0, -1) (a + 1) μ)) := by have := Fp_fl (N := N) (p := p) (μ := pe (0, -1) (a + 1) μ) (μ' := pe (0, -1) (a + 1) μ) Fp_rf; rw [hp6] at this ⊢; exact this
    have hE := PR_fl hPz hI
    refine (show RI G a μ ((0 : Nat), (-1 : Int32)) (flN N) (a + 1) → _ from fun h => by rw [hk]; exact h) ⟨xfl p N (pe (0, -1) (a + 1) μ), m_item_s hok hkw hT hp6 hP hI ha hd hd2 ho (fun pp e R s mm below meth c hB hret => ?_), Fs_p Fs_pe hF, (hF.1 5 1 (by omega)).trans pe_1, (hF.1 5 2 (by omega)).trans pe_2, (by decide), fun _ => ⟨by rw [← hp6]; exact hE, (hF.1 5 7 (by omega)).trans pe_7⟩⟩
    rw [show tgt (kwi B n a) = 177 by rw [hk]; rfl]
    exact m_it_fill (z := nI (flN N 4 - N 4)) hok hp6 hB hret hop
  · have hz := ha1 (by omega)
    obtain ⟨μ', h1, h2, h3, h4, h5, h6⟩ := rd_leave hok hT hp6 hP hI (a := a + 1) hz
    refine (show RI G a μ (q_leave B n N (a + 1)) (lvN N (pv B n N (a + 1)) (tvl B n (a + 1 + 1))) (a + 1 + 1 + 1) → _ from fun h => by rw [hk]; exact h) ⟨μ', m_item_s hok hkw hT hp6 hP hI ha hd hd2 ho (fun pp e R s mm below meth c hB hret => ?_), h2, h3, h4, h5, h6⟩
    rw [show tgt (kwi B n a) = 188 by rw [hk]; rfl]
    exact m_it_leave hB hret h1
  · have hz := ha1 (by omega)
    obtain ⟨μ', h1, h2, h3, h4, h5, h6⟩ := rd_score hok hT hp6 hP hI (a := a + 1) hz
    refine (show RI G a μ (q_score B n N (a + 1)) (up N (8 + 59 * (pv B n N (a + 1)) + (23 + (tvl B n (a + 1 + 1)))) (tvl B n (a + 1 + 1 + 1))) (a + 1 + 1 + 1 + 1) → _ from fun h => by rw [hk]; exact h) ⟨μ', m_item_s hok hkw hT hp6 hP hI ha hd hd2 ho (fun pp e R s mm below meth c hB hret => ?_), h2, h3, h4, h5, h6⟩
    rw [show tgt (kwi B n a) = 195 by rw [hk]; rfl]
    exact m_it_score hB hret h1
  · have hz := ha1 (by omega)
    obtain ⟨μ', h1, h2, h3, h4, h5, h6⟩ := rd_talk hok hT hp6 hP hI (a := a + 1) hz
    refine (show RI G a μ (q_talk B n N (a + 1)) (tlN N (tvl B n (a + 1))) (a + 1 + 1) → _ from fun h => by rw [hk]; exact h) ⟨μ', m_item_s hok hkw hT hp6 hP hI ha hd hd2 ho (fun pp e R s mm below meth c hB hret => ?_), h2, h3, h4, h5, h6⟩
    rw [show tgt (kwi B n a) = 202 by rw [hk]; rfl]
    exact m_it_talk hB hret h1
  · have hz := ha1 (by omega)
    obtain ⟨μ', h1, h2, h3, h4, h5, h6⟩ := rd_limit hok hT hp6 hP hI (a := a + 1) hz
    refine (show RI G a μ (q_limit B n N (a + 1)) (up N (8 + 59 * (pv B n N (a + 1)) + 1) (tvl B n (a + 1 + 1))) (a + 1 + 1 + 1) → _ from fun h => by rw [hk]; exact h) ⟨μ', m_item_s hok hkw hT hp6 hP hI ha hd hd2 ho (fun pp e R s mm below meth c hB hret => ?_), h2, h3, h4, h5, h6⟩
    rw [show tgt (kwi B n a) = 209 by rw [hk]; rfl]
    exact m_it_limit hB hret h1
  · have hz := ha1 (by omega)
    obtain ⟨μ', h1, h2, h3, h4, h5, h6⟩ := rd_kitchen hok hT hp6 hP hI (a := a + 1) hz
    refine (show RI G a μ (q_kitchen B n N (a + 1)) (up N (8 + 59 * (pv B n N (a + 1)) + 0) (tvl B n (a + 1 + 1))) (a + 1 + 1 + 1) → _ from fun h => by rw [hk]; exact h) ⟨μ', m_item_s hok hkw hT hp6 hP hI ha hd hd2 ho (fun pp e R s mm below meth c hB hret => ?_), h2, h3, h4, h5, h6⟩
    rw [show tgt (kwi B n a) = 216 by rw [hk]; rfl]
    exact m_it_kitchen hB hret h1
  · have hz := ha1 (by omega)
    obtain ⟨μ', h1, h2, h3, h4, h5, h6⟩ := rd_swap hok hT hp6 hP hI (a := a + 1) hz
    refine (show RI G a μ (q_swap B n N (a + 1)) (swN N (tvl B n (a + 1)) (tvl B n (a + 1 + 1))) (a + 1 + 1 + 1) → _ from fun h => by rw [hk]; exact h) ⟨μ', m_item_s hok hkw hT hp6 hP hI ha hd hd2 ho (fun pp e R s mm below meth c hB hret => ?_), h2, h3, h4, h5, h6⟩
    rw [show tgt (kwi B n a) = 223 by rw [hk]; rfl]
    exact m_it_swap hB hret h1
  · have hz := ha1 (by omega)
    obtain ⟨μ', h1, h2, h3, h4, h5, h6⟩ := rd_clear hok hT hp6 hP hI (a := a + 1) hz
    refine (show RI G a μ (q_clear B n N (a + 1)) (rclN N (tvl B n (a + 1))) (a + 1 + 1) → _ from fun h => by rw [hk]; exact h) ⟨μ', m_item_s hok hkw hT hp6 hP hI ha hd hd2 ho (fun pp e R s mm below meth c hB hret => ?_), h2, h3, h4, h5, h6⟩
    rw [show tgt (kwi B n a) = 230 by rw [hk]; rfl]
    exact m_it_clear hB hret h1
  · have hz := ha1 (by omega)
    obtain ⟨μ', h1, h2, h3, h4, h5, h6⟩ := rd_even hok hT hp6 hP hI (a := a + 1) hz
    refine (show RI G a μ (q_even B n N (a + 1)) (evN N (tvl B n (a + 1)) (mid N (tvl B n (a + 1))) (N 0)) (a + 1 + 1) → _ from fun h => by rw [hk]; exact h) ⟨μ', m_item_s hok hkw hT hp6 hP hI ha hd hd2 ho (fun pp e R s mm below meth c hB hret => ?_), h2, h3, h4, h5, h6⟩
    rw [show tgt (kwi B n a) = 237 by rw [hk]; rfl]
    exact m_it_even hB hret h1
  · have hz := ha1 (by omega)
    obtain ⟨μ', h1, h2, h3, h4, h5, h6⟩ := rd_copy hok hT hp6 hP hI (a := a + 1) hz
    refine (show RI G a μ (q_copy B n N (a + 1)) (cyN N (pv B n N (a + 1)) (pv B n N (a + 1 + 1)) (N 1)) (a + 1 + 1 + 1) → _ from fun h => by rw [hk]; exact h) ⟨μ', m_item_s hok hkw hT hp6 hP hI ha hd hd2 ho (fun pp e R s mm below meth c hB hret => ?_), h2, h3, h4, h5, h6⟩
    rw [show tgt (kwi B n a) = 244 by rw [hk]; rfl]
    exact m_it_copy hB hret h1
  · have := bad (Or.inr hk)
    rw [hk]; exact this
theorem rd_rep (hok : ev_ok sh_S G) (hkw : KW G) (hT : TT B n m μ) (hp6 : p = 6) (hP : PR p N μ) (hI : INV N) {a d : Nat} (ha : a ≤ m) (hd : μ.1 5 6 = nI d) (hd2 : d ≤ 2) (ho : otm N d (kwi B n a) = 0) (h18 : kwi B n a = 18) : d < 2 ∧ ∃ v, ((q_repeat B n (a + 1)).1 = 0 → v = nI (tvl B n (a + 1))) ∧ ev_T sh_S G mi_X7_readItem [.ref 5] (pe (0, -1) a μ) (.inl (some (.int (nI 1)), pe (q_repeat B n (a + 1)) (a + 1 + 1 + 1) (x_rep d (a + 1 + 1 + 1) 0 v μ))) := by
  have ha1 : a + 1 ≤ m := tk_nxt hT ha (fun q => by unfold kwi at h18; rw [if_neg (by omega)] at h18; cases h18)
  have hdd : d < 2 := Nat.lt_of_not_le (fun q => by unfold otm at ho; rw [if_pos (Or.inr (Or.inr ⟨h18, q⟩))] at ho; cases ho)
  obtain ⟨v, h1, h2⟩ := m_beginRepeat hok hT ha1 hd hdd
  refine ⟨hdd, v, h1, m_item_s hok hkw hT hp6 hP hI ha hd hd2 ho (fun pp e R s mm below meth c hB hret => ?_)⟩
  rw [show tgt (kwi B n a) = 251 by rw [h18]; rfl]
  exact m_it_rep hB hret (by decide) h2
end XItem992
