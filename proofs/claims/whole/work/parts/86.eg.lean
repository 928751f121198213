/-! ===== methods with instructions of other kinds: raw rows beside the evaluator ===== -/
section Eg
variable {S : ev_S} {G : ev_G} {own : String} {Tb : ev_Tb} {res : ev_R} {μ : ev_M}
theorem eg_tri {y : ev_Mi} {cd : List (Nat × Instr)} {args : List Value} (hok : ev_ok S G) (hM : ev_okM own y Tb cd) (hargs : (lg_sl (args.map (ev_tr G.2.1))).length ≤ y.2.2.1)
    (h : ∀ (p : Program) (e : Env) (R : Room) (s : State) (m : MethodId) (below : List Frame) (meth : Method) (c : Code), ev_B S G p R s m (args.map (ev_tr G.2.1)).toArray meth c y.2.1 own y.2.2.1 y.2.2.2.2 res Tb.2.2.2.2.2.2 → meth.sig.returnType = y.2.2.2.1 → ev_Wk S G p G.1 e R s m (args.map (ev_tr G.2.1)).toArray below meth c y.2.2.1 res 0 (lv_args 0 args) [] μ) : ev_T S G y args μ res := by
  obtain ⟨e1, e2, -, -⟩ := id hM
  refine vx_ofW (cc := y.2.1) (maxL := y.2.2.1) (ret := y.2.2.2.1) (by rw [e1]; exact e2) rfl ?_
  intro p e s m args9 below meth c s₁ B hml hex hv
  obtain ⟨rfl, hW, hH⟩ := hv
  have hB : ev_B S G p { frames := y.2.2.2.2, cells := (ev_co res).1, slots := (ev_co res).2, locals := 40 * y.2.2.2.2 } s m (args.map (ev_tr G.2.1)).toArray meth c y.2.1 own y.2.2.1 y.2.2.2.2 res Tb.2.2.2.2.2.2 :=
    ⟨hok, B.exec, B.bytes, hml, by rw [← e1]; exact findClass_of_methodNamed B.named, hW, hH.2.1, hH.2.2, B.notSynchronized, rfl, hex⟩
  have hl := lv_entry (args.map (ev_tr G.2.1)) (n := y.2.2.1) hargs
  rw [lg_entry_eq]
  generalize (lg_sl (args.map (ev_tr G.2.1)) ++ List.replicate (y.2.2.1 - (lg_sl (args.map (ev_tr G.2.1))).length) Slot.unset).toArray = ls at hl ⊢
  rw [ev_args_ml] at hl
  exact h p e _ s m below meth c hB B.returns s.heap [] ls hH.1 va_S.rf hl
/-- a stretch of listed code -/
theorem eg_run {p : Program} {e : Env} {R : Room} {s : State} {m : MethodId} {args : Array Value} {below : List Frame} {meth : Method} {c : Code} {y : ev_Mi} {cd : List (Nat × Instr)} {J : ev_J} (hM : ev_okM own y Tb cd) (hB : ev_B S G p R s m args meth c y.2.1 own y.2.2.1 y.2.2.2.2 res Tb.2.2.2.2.2.2) (hret : meth.sig.returnType = y.2.2.2.1) (hJ : ev_hJ S G p e R s m args below meth c y.2.2.1 res J)
    (n pc : Nat) {l : List (Nat × Value)} {st : List Value} (h : ev_run S G Tb y.2.2.2.2 J cd res n (ev_at cd pc) l st μ) : ev_Wk S G p G.1 e R s m args below meth c y.2.2.1 res pc l st μ :=
  ev_run_ok hM hB hret hJ n _ l st μ pc (ev_okc_at hM.2.2.1) ev_at_sub ev_hp_at h
theorem eg_J0 {p : Program} {e : Env} {R : Room} {s : State} {m : MethodId} {args : Array Value} {below : List Frame} {meth : Method} {c : Code} {nL : Nat} : ev_hJ S G p e R s m args below meth c nL res [] := fun _ _ _ h => by cases h
end Eg
section KindOf
variable {G : ev_G} {B : Nat → Nat} {n : Nat} {μ : ev_M}
def cdK : List (Nat × Instr) := [(36, .iconst 3), (37, .ireturn), (38, .iconst 4), (39, .ireturn), (40, .iconst 5), (41, .ireturn), (42, .bipush 6), (44, .ireturn)]
set_option maxRecDepth 100000 in
theorem okM_kind : ev_okM RX9 mi_X9_kindOf tb_X9_kindOf cdK := ev_okM_of [] okF_X9 okC_X9 okK_X9 (fun _ h => absurd h List.not_mem_nil) (by decide +kernel)
theorem dk_0 : decode cX9_kindOf 0 = .ok (.iload_n 0, 1) := by decide +kernel
theorem dk_1 : decode cX9_kindOf 1 = .ok (.lookupswitch 41 #[(40, 37), (41, 39), (59, 35)], 35) := by decide +kernel
theorem kd_off (b : Nat) : Op.lookupswitch.offset [(40, 37), (41, 39), (59, 35)] 41 (b : Int) = if b = 40 then 37 else if b = 41 then 39 else if b = 59 then 35 else 41 := by
  by_cases h1 : b = 40
  · subst h1; rfl
  · by_cases h2 : b = 41
    · subst h2; rfl
    · by_cases h3 : b = 59
      · subst h3; rfl
      · rw [if_neg h1, if_neg h2, if_neg h3]
        rw [Op.lookupswitch.offset_cons, if_neg (by omega), Op.lookupswitch.offset_cons, if_neg (by omega), Op.lookupswitch.offset_cons, if_neg (by omega)]
        rfl
theorem m_X9_kindOf (hok : ev_ok sh_S G) {b : Nat} (hb : b < 256) : ev_T sh_S G mi_X9_kindOf [.int (nI b)] μ (.inl (some (.int (nI (sgn b))), μ)) := by
  refine eg_tri hok okM_kind (Nat.le_of_ble_eq_true rfl) ?_
  intro p e R s m below meth c hB hret H locs ls hP hS hl
  obtain ⟨-, hx, hbb, -⟩ := id hB
  refine lv_iload_n hx hbb dk_0 rfl (ev_lv0 hl (v := .int (nI b)) rfl) ?_
  have e1 : (nI b).toInt = (b : Int) := nI_toInt (by omega)
  have go : ∀ (off : Int) (tgt : Nat) (v : Nat), Op.lookupswitch.offset [(40, 37), (41, 39), (59, 35)] 41 (b : Int) = off → (1 : Int) + off = (tgt : Int) → (ev_run sh_S G tb_X9_kindOf 0 [] cdK (.inl (some (.int (nI (sgn b))), μ)) 400 (ev_at cdK tgt) [(0, .int (nI b))] [] μ) → W p G.1 e R s m (([Value.int (nI b)].map (ev_tr G.2.1)).toArray) below meth c H locs 0 0 (vx_MQ below (ev_Q sh_S G (.inl (some (.int (nI (sgn b))), μ))) (ev_X sh_S G (.inl (some (.int (nI (sgn b))), μ))) (([Value.int (nI b)].map (ev_tr G.2.1)).toArray) s (ev_co (.inl (some (.int (nI (sgn b))), μ))).1 (ev_co (.inl (some (.int (nI (sgn b))), μ))).2 (ev_fr G)) (F0 m 1 ls [.int (nI b)]) := by
    intro off tgt v h1 h2 h3
    exact lv_lookup hx hbb dk_1 (by decide) (by rw [e1]; exact h1) h2 (eg_run okM_kind hB hret eg_J0 400 tgt h3 H locs ls hP hS hl)
  have e2 := kd_off b
  by_cases h1 : b = 40
  · subst h1
    refine go 37 38 4 rfl rfl ?_
    rw [show ev_at cdK 38 = [(38, .iconst 4), (39, .ireturn), (40, .iconst 5), (41, .ireturn), (42, .bipush 6), (44, .ireturn)] from rfl, show sgn 40 = 4 from rfl]
    repeat' (first
      | (with_reducible refine ev_rid ?_; simp (disch := first | omega | assumption) only [ev_run_c, ev_run_n, ev_fj, ev_stp, ev_lk, ev_fv, ev_as, ev_sz, ev_st1, ev_st2, ev_rm, ev_pk, ev_Jof, ev_go, lv_args, List.map_cons, List.map_nil, List.zip_cons_cons, List.zip_nil_left, List.zip_nil_right, List.nil_append, List.cons_append, ↓reduceIte, reduceCtorEq, Int.reduceToNat, Nat.reduceEqDiff, Nat.reduceAdd, Nat.reduceLT, Nat.reduceLeDiff, Nat.reduceMul, Nat.reduceSub, Value.category, false_implies, true_and, and_true, Bool.false_eq_true, Option.some.injEq, exists_eq_left', Option.toList_some, Option.toList_none, ev_km, ev_k2, ev_k3, ev_k4, ev_k5, ev_l0, ev_l1, sh_1, sh_2, sh_3, sh_4, sh_5, cd_X9_kindOf_0, ev_b_6, no_0, no_1, no_lt, no_le, no_eq, no_lt0, no_ge0, no_gt0, no_le0, no_eq0, no_0eq, no_eqm, no_meq, no_m0, no_mlt, no_mge, no_mgt, no_mm, no_i01, no_i10, no_in, no_or, no_ifm, no_mul, nI_add, no_sub, pk_div, iI_if, nI_clamp, oI_n, oI_s, not_true_eq_false, not_false_eq_true, forall_const, true_implies, false_and, and_false, or_false, false_or, Classical.not_not, true_or, or_true, no_b, no_eq1, eq_self, and_self, no_on])
      | (with_reducible refine ev_gid ?_; simp (disch := first | omega | assumption) only [ev_run_c, ev_run_n, ev_fj, ev_stp, ev_lk, ev_fv, ev_as, ev_sz, ev_st1, ev_st2, ev_rm, ev_pk, ev_Jof, ev_go, lv_args, List.map_cons, List.map_nil, List.zip_cons_cons, List.zip_nil_left, List.zip_nil_right, List.nil_append, List.cons_append, ↓reduceIte, reduceCtorEq, Int.reduceToNat, Nat.reduceEqDiff, Nat.reduceAdd, Nat.reduceLT, Nat.reduceLeDiff, Nat.reduceMul, Nat.reduceSub, Value.category, false_implies, true_and, and_true, Bool.false_eq_true, Option.some.injEq, exists_eq_left', Option.toList_some, Option.toList_none, ev_km, ev_k2, ev_k3, ev_k4, ev_k5, ev_l0, ev_l1, sh_1, sh_2, sh_3, sh_4, sh_5, cd_X9_kindOf_0, ev_b_6, no_0, no_1, no_lt, no_le, no_eq, no_lt0, no_ge0, no_gt0, no_le0, no_eq0, no_0eq, no_eqm, no_meq, no_m0, no_mlt, no_mge, no_mgt, no_mm, no_i01, no_i10, no_in, no_or, no_ifm, no_mul, nI_add, no_sub, pk_div, iI_if, nI_clamp, oI_n, oI_s, not_true_eq_false, not_false_eq_true, forall_const, true_implies, false_and, and_false, or_false, false_or, Classical.not_not, true_or, or_true, no_b, no_eq1, eq_self, and_self, no_on])
      | (with_reducible refine And.intro (fun q => ?_) (fun q => ?_) <;> (try simp (disch := first | omega | assumption) only [no_0, no_1, no_lt, no_le, no_eq, no_lt0, no_ge0, no_gt0, no_le0, no_eq0, no_0eq, no_eqm, no_meq, no_m0, no_mlt, no_mge, no_mgt, no_mm, no_i01, no_i10, no_in, no_or, no_ifm, no_mul, nI_add, no_sub, pk_div, iI_if, nI_clamp, oI_n, oI_s, not_true_eq_false, not_false_eq_true, forall_const, true_implies, false_and, and_false, or_false, false_or, Classical.not_not, true_or, or_true, no_b, no_eq1, eq_self, and_self, no_on] at q))
      | omega
      | with_reducible assumption
      | with_reducible rfl
      | (refine Nat.lt_of_lt_of_le ?_ (Nat.le_refl 312); omega)
      | with_reducible refine And.intro ?_ ?_
      | simp (disch := first | omega | assumption) only [ev_run_c, ev_run_n, ev_fj, ev_stp, ev_lk, ev_fv, ev_as, ev_sz, ev_st1, ev_st2, ev_rm, ev_pk, ev_Jof, ev_go, lv_args, List.map_cons, List.map_nil, List.zip_cons_cons, List.zip_nil_left, List.zip_nil_right, List.nil_append, List.cons_append, ↓reduceIte, reduceCtorEq, Int.reduceToNat, Nat.reduceEqDiff, Nat.reduceAdd, Nat.reduceLT, Nat.reduceLeDiff, Nat.reduceMul, Nat.reduceSub, Value.category, false_implies, true_and, and_true, Bool.false_eq_true, Option.some.injEq, exists_eq_left', Option.toList_some, Option.toList_none, ev_km, ev_k2, ev_k3, ev_k4, ev_k5, ev_l0, ev_l1, sh_1, sh_2, sh_3, sh_4, sh_5, cd_X9_kindOf_0, ev_b_6, no_0, no_1, no_lt, no_le, no_eq, no_lt0, no_ge0, no_gt0, no_le0, no_eq0, no_0eq, no_eqm, no_meq, no_m0, no_mlt, no_mge, no_mgt, no_mm, no_i01, no_i10, no_in, no_or, no_ifm, no_mul, nI_add, no_sub, pk_div, iI_if, nI_clamp, oI_n, oI_s, not_true_eq_false, not_false_eq_true, forall_const, true_implies, false_and, and_false, or_false, false_or, Classical.not_not, true_or, or_true, no_b, no_eq1, eq_self, and_self, no_on]
      | exact rfl)
  · by_cases h2 : b = 41
    · subst h2
      refine go 39 40 5 rfl rfl ?_
      rw [show ev_at cdK 40 = [(40, .iconst 5), (41, .ireturn), (42, .bipush 6), (44, .ireturn)] from rfl, show sgn 41 = 5 from rfl]
      repeat' (first
        | (with_reducible refine ev_rid ?_; simp (disch := first | omega | assumption) only [ev_run_c, ev_run_n, ev_fj, ev_stp, ev_lk, ev_fv, ev_as, ev_sz, ev_st1, ev_st2, ev_rm, ev_pk, ev_Jof, ev_go, lv_args, List.map_cons, List.map_nil, List.zip_cons_cons, List.zip_nil_left, List.zip_nil_right, List.nil_append, List.cons_append, ↓reduceIte, reduceCtorEq, Int.reduceToNat, Nat.reduceEqDiff, Nat.reduceAdd, Nat.reduceLT, Nat.reduceLeDiff, Nat.reduceMul, Nat.reduceSub, Value.category, false_implies, true_and, and_true, Bool.false_eq_true, Option.some.injEq, exists_eq_left', Option.toList_some, Option.toList_none, ev_km, ev_k2, ev_k3, ev_k4, ev_k5, ev_l0, ev_l1, sh_1, sh_2, sh_3, sh_4, sh_5, cd_X9_kindOf_0, ev_b_6, no_0, no_1, no_lt, no_le, no_eq, no_lt0, no_ge0, no_gt0, no_le0, no_eq0, no_0eq, no_eqm, no_meq, no_m0, no_mlt, no_mge, no_mgt, no_mm, no_i01, no_i10, no_in, no_or, no_ifm, no_mul, nI_add, no_sub, pk_div, iI_if, nI_clamp, oI_n, oI_s, not_true_eq_false, not_false_eq_true, forall_const, true_implies, false_and, and_false, or_false, false_or, Classical.not_not, true_or, or_true, no_b, no_eq1, eq_self, and_self, no_on])
        | (with_reducible refine ev_gid ?_; simp (disch := first | omega | assumption) only [ev_run_c, ev_run_n, ev_fj, ev_stp, ev_lk, ev_fv, ev_as, ev_sz, ev_st1, ev_st2, ev_rm, ev_pk, ev_Jof, ev_go, lv_args, List.map_cons, List.map_nil, List.zip_cons_cons, List.zip_nil_left, List.zip_nil_right, List.nil_append, List.cons_append, ↓reduceIte, reduceCtorEq, Int.reduceToNat, Nat.reduceEqDiff, Nat.reduceAdd, Nat.reduceLT, Nat.reduceLeDiff, Nat.reduceMul, Nat.reduceSub, Value.category, false_implies, true_and, and_true, Bool.false_eq_true, Option.some.injEq, exists_eq_left', Option.toList_some, Option.toList_none, ev_km, ev_k2, ev_k3, ev_k4, ev_k5, ev_l0, ev_l1, sh_1, sh_2, sh_3, sh_4, sh_5, cd_X9_kindOf_0, ev_b_6, no_0, no_1, no_lt, no_le, no_eq, no_lt0, no_ge0, no_gt0, no_le0, no_eq0, no_0eq, no_eqm, no_meq, no_m0, no_mlt, no_mge, no_mgt, no_mm, no_i01, no_i10, no_in, no_or, no_ifm, no_mul, nI_add, no_sub, pk_div, iI_if, nI_clamp, oI_n, oI_s, not_true_eq_false, not_false_eq_true, forall_const, true_implies, false_and, and_false, or_false, false_or, Classical.not_not, true_or, or_true, no_b, no_eq1, eq_self, and_self, no_on])
        | (with_reducible refine And.intro (fun q => ?_) (fun q => ?_) <;> (try simp (disch := first | omega | assumption) only [no_0, no_1, no_lt, no_le, no_eq, no_lt0, no_ge0, no_gt0, no_le0, no_eq0, no_0eq, no_eqm, no_meq, no_m0, no_mlt, no_mge, no_mgt, no_mm, no_i01, no_i10, no_in, no_or, no_ifm, no_mul, nI_add, no_sub, pk_div, iI_if, nI_clamp, oI_n, oI_s, not_true_eq_false, not_false_eq_true, forall_const, true_implies, false_and, and_false, or_false, false_or, Classical.not_not, true_or, or_true, no_b, no_eq1, eq_self, and_self, no_on] at q))
        | omega
        | with_reducible assumption
        | with_reducible rfl
        | (refine Nat.lt_of_lt_of_le ?_ (Nat.le_refl 312); omega)
        | with_reducible refine And.intro ?_ ?_
        | simp (disch := first | omega | assumption) only [ev_run_c, ev_run_n, ev_fj, ev_stp, ev_lk, ev_fv, ev_as, ev_sz, ev_st1, ev_st2, ev_rm, ev_pk, ev_Jof, ev_go, lv_args, List.map_cons, List.map_nil, List.zip_cons_cons, List.zip_nil_left, List.zip_nil_right, List.nil_append, List.cons_append, ↓reduceIte, reduceCtorEq, Int.reduceToNat, Nat.reduceEqDiff, Nat.reduceAdd, Nat.reduceLT, Nat.reduceLeDiff, Nat.reduceMul, Nat.reduceSub, Value.category, false_implies, true_and, and_true, Bool.false_eq_true, Option.some.injEq, exists_eq_left', Option.toList_some, Option.toList_none, ev_km, ev_k2, ev_k3, ev_k4, ev_k5, ev_l0, ev_l1, sh_1, sh_2, sh_3, sh_4, sh_5, cd_X9_kindOf_0, ev_b_6, no_0, no_1, no_lt, no_le, no_eq, no_lt0, no_ge0, no_gt0, no_le0, no_eq0, no_0eq, no_eqm, no_meq, no_m0, no_mlt, no_mge, no_mgt, no_mm, no_i01, no_i10, no_in, no_or, no_ifm, no_mul, nI_add, no_sub, pk_div, iI_if, nI_clamp, oI_n, oI_s, not_true_eq_false, not_false_eq_true, forall_const, true_implies, false_and, and_false, or_false, false_or, Classical.not_not, true_or, or_true, no_b, no_eq1, eq_self, and_self, no_on]
        | exact rfl)
    · by_cases h3 : b = 59
      · subst h3
        refine go 35 36 3 rfl rfl ?_
        rw [show ev_at cdK 36 = [(36, .iconst 3), (37, .ireturn), (38, .iconst 4), (39, .ireturn), (40, .iconst 5), (41, .ireturn), (42, .bipush 6), (44, .ireturn)] from rfl, show sgn 59 = 3 from rfl]
        repeat' (first
          | (with_reducible refine ev_rid ?_; simp (disch := first | omega | assumption) only [ev_run_c, ev_run_n, ev_fj, ev_stp, ev_lk, ev_fv, ev_as, ev_sz, ev_st1, ev_st2, ev_rm, ev_pk, ev_Jof, ev_go, lv_args, List.map_cons, List.map_nil, List.zip_cons_cons, List.zip_nil_left, List.zip_nil_right, List.nil_append, List.cons_append, ↓reduceIte, reduceCtorEq, Int.reduceToNat, Nat.reduceEqDiff, Nat.reduceAdd, Nat.reduceLT, Nat.reduceLeDiff, Nat.reduceMul, Nat.reduceSub, Value.category, false_implies, true_and, and_true, Bool.false_eq_true, Option.some.injEq, exists_eq_left', Option.toList_some, Option.toList_none, ev_km, ev_k2, ev_k3, ev_k4, ev_k5, ev_l0, ev_l1, sh_1, sh_2, sh_3, sh_4, sh_5, cd_X9_kindOf_0, ev_b_6, no_0, no_1, no_lt, no_le, no_eq, no_lt0, no_ge0, no_gt0, no_le0, no_eq0, no_0eq, no_eqm, no_meq, no_m0, no_mlt, no_mge, no_mgt, no_mm, no_i01, no_i10, no_in, no_or, no_ifm, no_mul, nI_add, no_sub, pk_div, iI_if, nI_clamp, oI_n, oI_s, not_true_eq_false, not_false_eq_true, forall_const, true_implies, false_and, and_false, or_false, false_or, Classical.not_not, true_or, or_true, no_b, no_eq1, eq_self, and_self, no_on])
          | (with_reducible refine ev_gid ?_; simp (disch := first | omega | assumption) only [ev_run_c, ev_run_n, ev_fj, ev_stp, ev_lk, ev_fv, ev_as, ev_sz, ev_st1, ev_st2, ev_rm, ev_pk, ev_Jof, ev_go, lv_args, List.map_cons, List.map_nil, List.zip_cons_cons, List.zip_nil_left, List.zip_nil_right, List.nil_append, List.cons_append, ↓reduceIte, reduceCtorEq, Int.reduceToNat, Nat.reduceEqDiff, Nat.reduceAdd, Nat.reduceLT, Nat.reduceLeDiff, Nat.reduceMul, Nat.reduceSub, Value.category, false_implies, true_and, and_true, Bool.false_eq_true, Option.some.injEq, exists_eq_left', Option.toList_some, Option.toList_none, ev_km, ev_k2, ev_k3, ev_k4, ev_k5, ev_l0, ev_l1, sh_1, sh_2, sh_3, sh_4, sh_5, cd_X9_kindOf_0, ev_b_6, no_0, no_1, no_lt, no_le, no_eq, no_lt0, no_ge0, no_gt0, no_le0, no_eq0, no_0eq, no_eqm, no_meq, no_m0, no_mlt, no_mge, no_mgt, no_mm, no_i01, no_i10, no_in, no_or, no_ifm, no_mul, nI_add, no_sub, pk_div, iI_if, nI_clamp, oI_n, oI_s, not_true_eq_false, not_false_eq_true, forall_const, true_implies, false_and, and_false, or_false, false_or, Classical.not_not, true_or, or_true, no_b, no_eq1, eq_self, and_self, no_on])
          | (with_reducible refine And.intro (fun q => ?_) (fun q => ?_) <;> (try simp (disch := first | omega | assumption) only [no_0, no_1, no_lt, no_le, no_eq, no_lt0, no_ge0, no_gt0, no_le0, no_eq0, no_0eq, no_eqm, no_meq, no_m0, no_mlt, no_mge, no_mgt, no_mm, no_i01, no_i10, no_in, no_or, no_ifm, no_mul, nI_add, no_sub, pk_div, iI_if, nI_clamp, oI_n, oI_s, not_true_eq_false, not_false_eq_true, forall_const, true_implies, false_and, and_false, or_false, false_or, Classical.not_not, true_or, or_true, no_b, no_eq1, eq_self, and_self, no_on] at q))
          | omega
          | with_reducible assumption
          | with_reducible rfl
          | (refine Nat.lt_of_lt_of_le ?_ (Nat.le_refl 312); omega)
          | with_reducible refine And.intro ?_ ?_
          | simp (disch := first | omega | assumption) only [ev_run_c, ev_run_n, ev_fj, ev_stp, ev_lk, ev_fv, ev_as, ev_sz, ev_st1, ev_st2, ev_rm, ev_pk, ev_Jof, ev_go, lv_args, List.map_cons, List.map_nil, List.zip_cons_cons, List.zip_nil_left, List.zip_nil_right, List.nil_append, List.cons_append, ↓reduceIte, reduceCtorEq, Int.reduceToNat, Nat.reduceEqDiff, Nat.reduceAdd, Nat.reduceLT, Nat.reduceLeDiff, Nat.reduceMul, Nat.reduceSub, Value.category, false_implies, true_and, and_true, Bool.false_eq_true, Option.some.injEq, exists_eq_left', Option.toList_some, Option.toList_none, ev_km, ev_k2, ev_k3, ev_k4, ev_k5, ev_l0, ev_l1, sh_1, sh_2, sh_3, sh_4, sh_5, cd_X9_kindOf_0, ev_b_6, no_0, no_1, no_lt, no_le, no_eq, no_lt0, no_ge0, no_gt0, no_le0, no_eq0, no_0eq, no_eqm, no_meq, no_m0, no_mlt, no_mge, no_mgt, no_mm, no_i01, no_i10, no_in, no_or, no_ifm, no_mul, nI_add, no_sub, pk_div, iI_if, nI_clamp, oI_n, oI_s, not_true_eq_false, not_false_eq_true, forall_const, true_implies, false_and, and_false, or_false, false_or, Classical.not_not, true_or, or_true, no_b, no_eq1, eq_self, and_self, no_on]
          | exact rfl)
      · have e3 : sgn b = 6 := by unfold sgn; rw [if_neg h3, if_neg h1, if_neg h2]
        rw [if_neg h1, if_neg h2, if_neg h3] at e2
        refine go 41 42 6 e2 rfl ?_
        rw [show ev_at cdK 42 = [(42, .bipush 6), (44, .ireturn)] from rfl, e3]
        repeat' (first
          | (with_reducible refine ev_rid ?_; simp (disch := first | omega | assumption) only [ev_run_c, ev_run_n, ev_fj, ev_stp, ev_lk, ev_fv, ev_as, ev_sz, ev_st1, ev_st2, ev_rm, ev_pk, ev_Jof, ev_go, lv_args, List.map_cons, List.map_nil, List.zip_cons_cons, List.zip_nil_left, List.zip_nil_right, List.nil_append, List.cons_append, ↓reduceIte, reduceCtorEq, Int.reduceToNat, Nat.reduceEqDiff, Nat.reduceAdd, Nat.reduceLT, Nat.reduceLeDiff, Nat.reduceMul, Nat.reduceSub, Value.category, false_implies, true_and, and_true, Bool.false_eq_true, Option.some.injEq, exists_eq_left', Option.toList_some, Option.toList_none, ev_km, ev_k2, ev_k3, ev_k4, ev_k5, ev_l0, ev_l1, sh_1, sh_2, sh_3, sh_4, sh_5, cd_X9_kindOf_0, ev_b_6, no_0, no_1, no_lt, no_le, no_eq, no_lt0, no_ge0, no_gt0, no_le0, no_eq0, no_0eq, no_eqm, no_meq, no_m0, no_mlt, no_mge, no_mgt, no_mm, no_i01, no_i10, no_in, no_or, no_ifm, no_mul, nI_add, no_sub, pk_div, iI_if, nI_clamp, oI_n, oI_s, not_true_eq_false, not_false_eq_true, forall_const, true_implies, false_and, and_false, or_false, false_or, Classical.not_not, true_or, or_true, no_b, no_eq1, eq_self, and_self, no_on])
          | (with_reducible refine ev_gid ?_; simp (disch := first | omega | assumption) only [ev_run_c, ev_run_n, ev_fj, ev_stp, ev_lk, ev_fv, ev_as, ev_sz, ev_st1, ev_st2, ev_rm, ev_pk, ev_Jof, ev_go, lv_args, List.map_cons, List.map_nil, List.zip_cons_cons, List.zip_nil_left, List.zip_nil_right, List.nil_append, List.cons_append, ↓reduceIte, reduceCtorEq, Int.reduceToNat, Nat.reduceEqDiff, Nat.reduceAdd, Nat.reduceLT, Nat.reduceLeDiff, Nat.reduceMul, Nat.reduceSub, Value.category, false_implies, true_and, and_true, Bool.false_eq_true, Option.some.injEq, exists_eq_left', Option.toList_some, Option.toList_none, ev_km, ev_k2, ev_k3, ev_k4, ev_k5, ev_l0, ev_l1, sh_1, sh_2, sh_3, sh_4, sh_5, cd_X9_kindOf_0, ev_b_6, no_0, no_1, no_lt, no_le, no_eq, no_lt0, no_ge0, no_gt0, no_le0, no_eq0, no_0eq, no_eqm, no_meq, no_m0, no_mlt, no_mge, no_mgt, no_mm, no_i01, no_i10, no_in, no_or, no_ifm, no_mul, nI_add, no_sub, pk_div, iI_if, nI_clamp, oI_n, oI_s, not_true_eq_false, not_false_eq_true, forall_const, true_implies, false_and, and_false, or_false, false_or, Classical.not_not, true_or, or_true, no_b, no_eq1, eq_self, and_self, no_on])
          | (with_reducible refine And.intro (fun q => ?_) (fun q => ?_) <;> (try simp (disch := first | omega | assumption) only [no_0, no_1, no_lt, no_le, no_eq, no_lt0, no_ge0, no_gt0, no_le0, no_eq0, no_0eq, no_eqm, no_meq, no_m0, no_mlt, no_mge, no_mgt, no_mm, no_i01, no_i10, no_in, no_or, no_ifm, no_mul, nI_add, no_sub, pk_div, iI_if, nI_clamp, oI_n, oI_s, not_true_eq_false, not_false_eq_true, forall_const, true_implies, false_and, and_false, or_false, false_or, Classical.not_not, true_or, or_true, no_b, no_eq1, eq_self, and_self, no_on] at q))
          | omega
          | with_reducible assumption
          | with_reducible rfl
          | (refine Nat.lt_of_lt_of_le ?_ (Nat.le_refl 312); omega)
          | with_reducible refine And.intro ?_ ?_
          | simp (disch := first | omega | assumption) only [ev_run_c, ev_run_n, ev_fj, ev_stp, ev_lk, ev_fv, ev_as, ev_sz, ev_st1, ev_st2, ev_rm, ev_pk, ev_Jof, ev_go, lv_args, List.map_cons, List.map_nil, List.zip_cons_cons, List.zip_nil_left, List.zip_nil_right, List.nil_append, List.cons_append, ↓reduceIte, reduceCtorEq, Int.reduceToNat, Nat.reduceEqDiff, Nat.reduceAdd, Nat.reduceLT, Nat.reduceLeDiff, Nat.reduceMul, Nat.reduceSub, Value.category, false_implies, true_and, and_true, Bool.false_eq_true, Option.some.injEq, exists_eq_left', Option.toList_some, Option.toList_none, ev_km, ev_k2, ev_k3, ev_k4, ev_k5, ev_l0, ev_l1, sh_1, sh_2, sh_3, sh_4, sh_5, cd_X9_kindOf_0, ev_b_6, no_0, no_1, no_lt, no_le, no_eq, no_lt0, no_ge0, no_gt0, no_le0, no_eq0, no_0eq, no_eqm, no_meq, no_m0, no_mlt, no_mge, no_mgt, no_mm, no_i01, no_i10, no_in, no_or, no_ifm, no_mul, nI_add, no_sub, pk_div, iI_if, nI_clamp, oI_n, oI_s, not_true_eq_false, not_false_eq_true, forall_const, true_implies, false_and, and_false, or_false, false_or, Classical.not_not, true_or, or_true, no_b, no_eq1, eq_self, and_self, no_on]
          | exact rfl)
/-- where the reading of tokens stands -/
def LX (B : Nat → Nat) (n b c : Nat) : Prop := b ≤ c ∧ c ≤ n ∧ lxs B n c = tst B n b ∧ ∀ k, k < b → tkd B n k ≠ 0
theorem LX_0 : LX B n 0 0 := ⟨Nat.le_refl _, Nat.zero_le _, rfl, fun k hk => absurd hk (Nat.not_lt_zero k)⟩
theorem LX_s {b c : Nat} (h : LX B n b c) (h2 : c < n) (h3 : B c = 32) : LX B n b (c + 1) := ⟨by have := h.1; omega, h2, by rw [lxs_sp h2 h3]; exact h.2.2.1, h.2.2.2⟩
theorem LX_t {b c : Nat} (h : LX B n b c) (h2 : c < n) (h3 : B c ≠ 32) : tst B n b = c ∧ c < ps B n (b + 1) ∧ LX B n (b + 1) (ps B n (b + 1)) := by
  have e : tst B n b = c := by rw [← h.2.2.1]; exact lxs_no h2 h3
  have h4 := tst_le B n b
  rw [e] at h4
  have h5 : c < ps B n (b + 1) := h4.2.2.2 h2
  refine ⟨e, h5, by have := h.1; omega, ps_le B n (b + 1), rfl, fun k hk => ?_⟩
  by_cases g : k = b
  · subst g
    intro q
    have := tkd_0.mp q
    omega
  · exact h.2.2.2 k (by omega)
theorem LX_e {b : Nat} (h : LX B n b n) : tst B n b = n ∧ tkd B n b = 0 ∧ tvl B n b = 0 := by
  have e : tst B n b = n := by rw [← h.2.2.1]; exact lxs_n
  exact ⟨e, tkd_0.mpr e, by unfold tvl; rw [if_pos e]⟩
theorem tk_00 : w1 (w1 μ 28 3 (nI 0)) 28 4 (nI 0) = tkM B n 0 0 μ := by
  refine Prod.ext (funext fun a => funext fun k => ?_) (Prod.ext (funext fun a => funext fun k => ?_) rfl)
  · show (if a = 28 ∧ k = 4 then nI 0 else if a = 28 ∧ k = 3 then nI 0 else μ.1 a k) = if a = 29 ∧ k < 0 then nI (tkd B n k) else if a = 30 ∧ k < 0 then nI (tst B n k) else if a = 28 ∧ k = 3 then nI 0 else if a = 28 ∧ k = 4 then nI 0 else μ.1 a k
    (repeat' split) <;> first | rfl | (exfalso; omega)
  · exact (if_neg (by omega)).symm
set_option maxHeartbeats 2000000 in
theorem m_X9_split (hok : ev_ok sh_S G) (hn : n ≤ 500) (hT : ∀ j, j < n → μ.1 2 j = nI (B j)) (hB : ∀ j, B j < 256) : ∃ m, m ≤ n ∧ tkd B n m = 0 ∧ (∀ k, k < m → tkd B n k ≠ 0) ∧ ev_T sh_S G mi_X9_split [.ref 28, .ref 1, .int (nI n)] μ (.inl (none, tkM B n (m + 1) n μ)) := by
  have hK := tk_k
  obtain ⟨m, hm1, hm2, hm3⟩ : ∃ m, m ≤ n ∧ tkd B n m = 0 ∧ ∀ k, k < m → tkd B n k ≠ 0 := by
    have key : ∀ d b c, n - c ≤ d → LX B n b c → ∃ m, m ≤ n ∧ tkd B n m = 0 ∧ ∀ k, k < m → tkd B n k ≠ 0 := by
      intro d
      induction d with
      | zero =>
        intro b c h1 h2
        have e : c = n := by have := h2.2.1; omega
        subst e
        exact ⟨b, h2.1, (LX_e h2).2.1, h2.2.2.2⟩
      | succ d ih =>
        intro b c h1 h2
        by_cases h3 : c < n
        · by_cases h4 : B c = 32
          · exact ih b (c + 1) (by omega) (LX_s h2 h3 h4)
          · obtain ⟨-, g2, g3⟩ := LX_t h2 h3 h4
            exact ih (b + 1) _ (by omega) g3
        · have e : c = n := by have := h2.2.1; omega
          subst e
          exact ⟨b, h2.1, (LX_e h2).2.1, h2.2.2.2⟩
    exact key n 0 0 (by omega) LX_0
  refine ⟨m, hm1, hm2, hm3, ?_⟩
  have huniq : ∀ b, tkd B n b = 0 → (∀ k, k < b → tkd B n k ≠ 0) → b = m := fun b h1 h2 => by
    rcases Nat.lt_trichotomy b m with h | h | h
    · exact absurd h1 (hm3 b h)
    · exact h
    · exact absurd hm2 (h2 m h)
  refine ev_triG hok okM_X9_split (Nat.le_of_ble_eq_true rfl) [(12, [0, 1, 2, 3])] 400 (fun _ a b c => a ≤ c ∧ LX B n b c) (fun _ a b c => [.ref 28, .ref 1, .int (nI n), .int (nI a)]) (fun _ a b c => tkM B n b c μ) (fun _ a b c => n - c) ?_ ?_
  · intro x hx a b c hPx
    obtain rfl := List.mem_singleton.mp hx
    obtain ⟨h1, h2⟩ : a ≤ c ∧ LX B n b c := hPx
    have h3 := h2.1
    have h4 := h2.2.1
    dsimp only
    rw [at_X9_split_12]
    by_cases hc : c < n
    · have hb := hB c
      by_cases h5 : B c = 32
      · have h6 := LX_s h2 hc h5
        repeat' (first
          | (with_reducible refine ev_rid ?_; simp (disch := first | omega | assumption) only [ev_run_c, ev_run_n, ev_fj, ev_stp, ev_lk, ev_fv, ev_as, ev_sz, ev_st1, ev_st2, ev_rm, ev_pk, ev_Jof, ev_go, lv_args, List.map_cons, List.map_nil, List.zip_cons_cons, List.zip_nil_left, List.zip_nil_right, List.nil_append, List.cons_append, ↓reduceIte, reduceCtorEq, Int.reduceToNat, Nat.reduceEqDiff, Nat.reduceAdd, Nat.reduceLT, Nat.reduceLeDiff, Nat.reduceMul, Nat.reduceSub, Value.category, false_implies, true_and, and_true, Bool.false_eq_true, Option.some.injEq, exists_eq_left', Option.toList_some, Option.toList_none, ev_km, ev_k2, ev_k3, ev_k4, ev_k5, ev_l0, ev_l1, sh_1, sh_2, sh_3, sh_4, sh_5, at_X9_split_115, at_X9_split_12, at_X9_split_121, at_X9_split_57, at_X9_split_74, at_X9_split_91, ca_X9_29, ca_X9_35, ca_X9_39, ca_X9_43, ca_X9_46, ca_X9_49, ca_X9_52, cd_X9_split_0, cd_X9_split_115, cd_X9_split_12, cd_X9_split_121, cd_X9_split_57, cd_X9_split_74, cd_X9_split_91, fl_X9_22, fl_X9_26, ev_b_32, ev_h_500, no_0, no_1, no_lt, no_le, no_eq, no_lt0, no_ge0, no_gt0, no_le0, no_eq0, no_0eq, no_eqm, no_meq, no_m0, no_mlt, no_mge, no_mgt, no_mm, no_i01, no_i10, no_in, no_or, no_ifm, no_mul, nI_add, no_sub, pk_div, iI_if, nI_clamp, oI_n, oI_s, not_true_eq_false, not_false_eq_true, forall_const, true_implies, false_and, and_false, or_false, false_or, Classical.not_not, true_or, or_true, no_b, no_eq1, eq_self, and_self, no_on, hK, tk_4, h5, w1_d, tk_nx])
          | (with_reducible refine ev_gid ?_; simp (disch := first | omega | assumption) only [ev_run_c, ev_run_n, ev_fj, ev_stp, ev_lk, ev_fv, ev_as, ev_sz, ev_st1, ev_st2, ev_rm, ev_pk, ev_Jof, ev_go, lv_args, List.map_cons, List.map_nil, List.zip_cons_cons, List.zip_nil_left, List.zip_nil_right, List.nil_append, List.cons_append, ↓reduceIte, reduceCtorEq, Int.reduceToNat, Nat.reduceEqDiff, Nat.reduceAdd, Nat.reduceLT, Nat.reduceLeDiff, Nat.reduceMul, Nat.reduceSub, Value.category, false_implies, true_and, and_true, Bool.false_eq_true, Option.some.injEq, exists_eq_left', Option.toList_some, Option.toList_none, ev_km, ev_k2, ev_k3, ev_k4, ev_k5, ev_l0, ev_l1, sh_1, sh_2, sh_3, sh_4, sh_5, at_X9_split_115, at_X9_split_12, at_X9_split_121, at_X9_split_57, at_X9_split_74, at_X9_split_91, ca_X9_29, ca_X9_35, ca_X9_39, ca_X9_43, ca_X9_46, ca_X9_49, ca_X9_52, cd_X9_split_0, cd_X9_split_115, cd_X9_split_12, cd_X9_split_121, cd_X9_split_57, cd_X9_split_74, cd_X9_split_91, fl_X9_22, fl_X9_26, ev_b_32, ev_h_500, no_0, no_1, no_lt, no_le, no_eq, no_lt0, no_ge0, no_gt0, no_le0, no_eq0, no_0eq, no_eqm, no_meq, no_m0, no_mlt, no_mge, no_mgt, no_mm, no_i01, no_i10, no_in, no_or, no_ifm, no_mul, nI_add, no_sub, pk_div, iI_if, nI_clamp, oI_n, oI_s, not_true_eq_false, not_false_eq_true, forall_const, true_implies, false_and, and_false, or_false, false_or, Classical.not_not, true_or, or_true, no_b, no_eq1, eq_self, and_self, no_on, hK, tk_4, h5, w1_d, tk_nx])
          | (with_reducible refine And.intro (fun q => ?_) (fun q => ?_) <;> (try simp (disch := first | omega | assumption) only [no_0, no_1, no_lt, no_le, no_eq, no_lt0, no_ge0, no_gt0, no_le0, no_eq0, no_0eq, no_eqm, no_meq, no_m0, no_mlt, no_mge, no_mgt, no_mm, no_i01, no_i10, no_in, no_or, no_ifm, no_mul, nI_add, no_sub, pk_div, iI_if, nI_clamp, oI_n, oI_s, not_true_eq_false, not_false_eq_true, forall_const, true_implies, false_and, and_false, or_false, false_or, Classical.not_not, true_or, or_true, no_b, no_eq1, eq_self, and_self, no_on, hK, tk_4, h5, w1_d, tk_nx] at q))
          | with_reducible refine ev_ci (m_get1 hok hn hT ?_) ?_
          | with_reducible refine ev_ci (m_X9_isLetter hok ?_) ?_
          | with_reducible refine ev_ci (m_X9_addWordAt hok hn hT hB ?_ ?_ ?_ ?_) ?_
          | with_reducible refine ev_ci (m_X9_isDigit hok ?_) ?_
          | with_reducible refine ev_ci (m_X9_addNumberAt hok hn hT hB ?_ ?_ ?_ ?_ ?_) ?_
          | with_reducible refine ev_ci (m_X9_kindOf hok ?_) ?_
          | with_reducible refine ev_ci (m_X9_add hok ?_ ?_ ?_ ?_) ?_
          | omega
          | with_reducible assumption
          | with_reducible rfl
          | (refine Nat.lt_of_lt_of_le ?_ (Nat.le_refl 312); omega)
          | refine lpG_nx (a + 1) b (c + 1) ?_ ?_ ?_ ?_
          | with_reducible refine lp_nx ?_ ?_ ?_ ?_
          | with_reducible refine lp_st ?_ ?_ ?_
          | with_reducible refine ls_c ?_ ?_
          | with_reducible refine vi_c ?_
          | with_reducible refine re_c ?_
          | with_reducible refine vz_c ?_
          | with_reducible refine rz_c ?_
          | exact trivial
          | with_reducible refine And.intro ?_ ?_
          | simp (disch := first | omega | assumption) only [ev_run_c, ev_run_n, ev_fj, ev_stp, ev_lk, ev_fv, ev_as, ev_sz, ev_st1, ev_st2, ev_rm, ev_pk, ev_Jof, ev_go, lv_args, List.map_cons, List.map_nil, List.zip_cons_cons, List.zip_nil_left, List.zip_nil_right, List.nil_append, List.cons_append, ↓reduceIte, reduceCtorEq, Int.reduceToNat, Nat.reduceEqDiff, Nat.reduceAdd, Nat.reduceLT, Nat.reduceLeDiff, Nat.reduceMul, Nat.reduceSub, Value.category, false_implies, true_and, and_true, Bool.false_eq_true, Option.some.injEq, exists_eq_left', Option.toList_some, Option.toList_none, ev_km, ev_k2, ev_k3, ev_k4, ev_k5, ev_l0, ev_l1, sh_1, sh_2, sh_3, sh_4, sh_5, at_X9_split_115, at_X9_split_12, at_X9_split_121, at_X9_split_57, at_X9_split_74, at_X9_split_91, ca_X9_29, ca_X9_35, ca_X9_39, ca_X9_43, ca_X9_46, ca_X9_49, ca_X9_52, cd_X9_split_0, cd_X9_split_115, cd_X9_split_12, cd_X9_split_121, cd_X9_split_57, cd_X9_split_74, cd_X9_split_91, fl_X9_22, fl_X9_26, ev_b_32, ev_h_500, no_0, no_1, no_lt, no_le, no_eq, no_lt0, no_ge0, no_gt0, no_le0, no_eq0, no_0eq, no_eqm, no_meq, no_m0, no_mlt, no_mge, no_mgt, no_mm, no_i01, no_i10, no_in, no_or, no_ifm, no_mul, nI_add, no_sub, pk_div, iI_if, nI_clamp, oI_n, oI_s, not_true_eq_false, not_false_eq_true, forall_const, true_implies, false_and, and_false, or_false, false_or, Classical.not_not, true_or, or_true, no_b, no_eq1, eq_self, and_self, no_on, hK, tk_4, h5, w1_d, tk_nx]
          | exact rfl
          | (split <;> omega))
      · obtain ⟨g1, g2, g3⟩ := LX_t h2 hc h5
        rcases isL_01 (B c) with k1 | k1
        · rcases isD_01 (B c) with k2 | k2
          · have e1 : ps B n (b + 1) = c + 1 := by
              show lxe B n (tst B n b) = _
              rw [g1]
              unfold lxe
              rw [if_neg (by omega), if_neg (by omega), if_neg (by omega)]
            have e2 : tkd B n b = sgn (B c) := by
              unfold tkd lxk
              rw [g1, if_neg (by omega), if_neg (by omega), if_neg (by omega)]
            have e3 : tvl B n b = 0 := by
              unfold tvl
              rw [g1, if_neg (by omega), if_neg (by omega), if_neg (by omega)]
            rw [e1] at g2 g3
            have e4 := m_X9_add (B := B) (n := n) (μ := μ) hok (b := b) (c := c) (k := sgn (B c)) (s := c) (v := 0) (by omega) e2.symm g1.symm e3.symm
            repeat' (first
              | (with_reducible refine ev_rid ?_; simp (disch := first | omega | assumption) only [ev_run_c, ev_run_n, ev_fj, ev_stp, ev_lk, ev_fv, ev_as, ev_sz, ev_st1, ev_st2, ev_rm, ev_pk, ev_Jof, ev_go, lv_args, List.map_cons, List.map_nil, List.zip_cons_cons, List.zip_nil_left, List.zip_nil_right, List.nil_append, List.cons_append, ↓reduceIte, reduceCtorEq, Int.reduceToNat, Nat.reduceEqDiff, Nat.reduceAdd, Nat.reduceLT, Nat.reduceLeDiff, Nat.reduceMul, Nat.reduceSub, Value.category, false_implies, true_and, and_true, Bool.false_eq_true, Option.some.injEq, exists_eq_left', Option.toList_some, Option.toList_none, ev_km, ev_k2, ev_k3, ev_k4, ev_k5, ev_l0, ev_l1, sh_1, sh_2, sh_3, sh_4, sh_5, at_X9_split_115, at_X9_split_12, at_X9_split_121, at_X9_split_57, at_X9_split_74, at_X9_split_91, ca_X9_29, ca_X9_35, ca_X9_39, ca_X9_43, ca_X9_46, ca_X9_49, ca_X9_52, cd_X9_split_0, cd_X9_split_115, cd_X9_split_12, cd_X9_split_121, cd_X9_split_57, cd_X9_split_74, cd_X9_split_91, fl_X9_22, fl_X9_26, ev_b_32, ev_h_500, no_0, no_1, no_lt, no_le, no_eq, no_lt0, no_ge0, no_gt0, no_le0, no_eq0, no_0eq, no_eqm, no_meq, no_m0, no_mlt, no_mge, no_mgt, no_mm, no_i01, no_i10, no_in, no_or, no_ifm, no_mul, nI_add, no_sub, pk_div, iI_if, nI_clamp, oI_n, oI_s, not_true_eq_false, not_false_eq_true, forall_const, true_implies, false_and, and_false, or_false, false_or, Classical.not_not, true_or, or_true, no_b, no_eq1, eq_self, and_self, no_on, hK, tk_4, k1, k2, h5, w1_d, tk_nx])
              | (with_reducible refine ev_gid ?_; simp (disch := first | omega | assumption) only [ev_run_c, ev_run_n, ev_fj, ev_stp, ev_lk, ev_fv, ev_as, ev_sz, ev_st1, ev_st2, ev_rm, ev_pk, ev_Jof, ev_go, lv_args, List.map_cons, List.map_nil, List.zip_cons_cons, List.zip_nil_left, List.zip_nil_right, List.nil_append, List.cons_append, ↓reduceIte, reduceCtorEq, Int.reduceToNat, Nat.reduceEqDiff, Nat.reduceAdd, Nat.reduceLT, Nat.reduceLeDiff, Nat.reduceMul, Nat.reduceSub, Value.category, false_implies, true_and, and_true, Bool.false_eq_true, Option.some.injEq, exists_eq_left', Option.toList_some, Option.toList_none, ev_km, ev_k2, ev_k3, ev_k4, ev_k5, ev_l0, ev_l1, sh_1, sh_2, sh_3, sh_4, sh_5, at_X9_split_115, at_X9_split_12, at_X9_split_121, at_X9_split_57, at_X9_split_74, at_X9_split_91, ca_X9_29, ca_X9_35, ca_X9_39, ca_X9_43, ca_X9_46, ca_X9_49, ca_X9_52, cd_X9_split_0, cd_X9_split_115, cd_X9_split_12, cd_X9_split_121, cd_X9_split_57, cd_X9_split_74, cd_X9_split_91, fl_X9_22, fl_X9_26, ev_b_32, ev_h_500, no_0, no_1, no_lt, no_le, no_eq, no_lt0, no_ge0, no_gt0, no_le0, no_eq0, no_0eq, no_eqm, no_meq, no_m0, no_mlt, no_mge, no_mgt, no_mm, no_i01, no_i10, no_in, no_or, no_ifm, no_mul, nI_add, no_sub, pk_div, iI_if, nI_clamp, oI_n, oI_s, not_true_eq_false, not_false_eq_true, forall_const, true_implies, false_and, and_false, or_false, false_or, Classical.not_not, true_or, or_true, no_b, no_eq1, eq_self, and_self, no_on, hK, tk_4, k1, k2, h5, w1_d, tk_nx])
              | (with_reducible refine And.intro (fun q => ?_) (fun q => ?_) <;> (try simp (disch := first | omega | assumption) only [no_0, no_1, no_lt, no_le, no_eq, no_lt0, no_ge0, no_gt0, no_le0, no_eq0, no_0eq, no_eqm, no_meq, no_m0, no_mlt, no_mge, no_mgt, no_mm, no_i01, no_i10, no_in, no_or, no_ifm, no_mul, nI_add, no_sub, pk_div, iI_if, nI_clamp, oI_n, oI_s, not_true_eq_false, not_false_eq_true, forall_const, true_implies, false_and, and_false, or_false, false_or, Classical.not_not, true_or, or_true, no_b, no_eq1, eq_self, and_self, no_on, hK, tk_4, k1, k2, h5, w1_d, tk_nx] at q))
              | (refine ev_ci e4 ?_)
              | with_reducible refine ev_ci (m_get1 hok hn hT ?_) ?_
              | with_reducible refine ev_ci (m_X9_isLetter hok ?_) ?_
              | with_reducible refine ev_ci (m_X9_addWordAt hok hn hT hB ?_ ?_ ?_ ?_) ?_
              | with_reducible refine ev_ci (m_X9_isDigit hok ?_) ?_
              | with_reducible refine ev_ci (m_X9_addNumberAt hok hn hT hB ?_ ?_ ?_ ?_ ?_) ?_
              | with_reducible refine ev_ci (m_X9_kindOf hok ?_) ?_
              | with_reducible refine ev_ci (m_X9_add hok ?_ ?_ ?_ ?_) ?_
              | omega
              | with_reducible assumption
              | with_reducible rfl
              | (refine Nat.lt_of_lt_of_le ?_ (Nat.le_refl 312); omega)
              | refine lpG_nx (a + 1) (b + 1) (c + 1) ?_ ?_ ?_ ?_
              | with_reducible refine lp_nx ?_ ?_ ?_ ?_
              | with_reducible refine lp_st ?_ ?_ ?_
              | with_reducible refine ls_c ?_ ?_
              | with_reducible refine vi_c ?_
              | with_reducible refine re_c ?_
              | with_reducible refine vz_c ?_
              | with_reducible refine rz_c ?_
              | exact trivial
              | with_reducible refine And.intro ?_ ?_
              | simp (disch := first | omega | assumption) only [ev_run_c, ev_run_n, ev_fj, ev_stp, ev_lk, ev_fv, ev_as, ev_sz, ev_st1, ev_st2, ev_rm, ev_pk, ev_Jof, ev_go, lv_args, List.map_cons, List.map_nil, List.zip_cons_cons, List.zip_nil_left, List.zip_nil_right, List.nil_append, List.cons_append, ↓reduceIte, reduceCtorEq, Int.reduceToNat, Nat.reduceEqDiff, Nat.reduceAdd, Nat.reduceLT, Nat.reduceLeDiff, Nat.reduceMul, Nat.reduceSub, Value.category, false_implies, true_and, and_true, Bool.false_eq_true, Option.some.injEq, exists_eq_left', Option.toList_some, Option.toList_none, ev_km, ev_k2, ev_k3, ev_k4, ev_k5, ev_l0, ev_l1, sh_1, sh_2, sh_3, sh_4, sh_5, at_X9_split_115, at_X9_split_12, at_X9_split_121, at_X9_split_57, at_X9_split_74, at_X9_split_91, ca_X9_29, ca_X9_35, ca_X9_39, ca_X9_43, ca_X9_46, ca_X9_49, ca_X9_52, cd_X9_split_0, cd_X9_split_115, cd_X9_split_12, cd_X9_split_121, cd_X9_split_57, cd_X9_split_74, cd_X9_split_91, fl_X9_22, fl_X9_26, ev_b_32, ev_h_500, no_0, no_1, no_lt, no_le, no_eq, no_lt0, no_ge0, no_gt0, no_le0, no_eq0, no_0eq, no_eqm, no_meq, no_m0, no_mlt, no_mge, no_mgt, no_mm, no_i01, no_i10, no_in, no_or, no_ifm, no_mul, nI_add, no_sub, pk_div, iI_if, nI_clamp, oI_n, oI_s, not_true_eq_false, not_false_eq_true, forall_const, true_implies, false_and, and_false, or_false, false_or, Classical.not_not, true_or, or_true, no_b, no_eq1, eq_self, and_self, no_on, hK, tk_4, k1, k2, h5, w1_d, tk_nx]
              | exact rfl
              | (split <;> omega))
          · repeat' (first
              | (with_reducible refine ev_rid ?_; simp (disch := first | omega | assumption) only [ev_run_c, ev_run_n, ev_fj, ev_stp, ev_lk, ev_fv, ev_as, ev_sz, ev_st1, ev_st2, ev_rm, ev_pk, ev_Jof, ev_go, lv_args, List.map_cons, List.map_nil, List.zip_cons_cons, List.zip_nil_left, List.zip_nil_right, List.nil_append, List.cons_append, ↓reduceIte, reduceCtorEq, Int.reduceToNat, Nat.reduceEqDiff, Nat.reduceAdd, Nat.reduceLT, Nat.reduceLeDiff, Nat.reduceMul, Nat.reduceSub, Value.category, false_implies, true_and, and_true, Bool.false_eq_true, Option.some.injEq, exists_eq_left', Option.toList_some, Option.toList_none, ev_km, ev_k2, ev_k3, ev_k4, ev_k5, ev_l0, ev_l1, sh_1, sh_2, sh_3, sh_4, sh_5, at_X9_split_115, at_X9_split_12, at_X9_split_121, at_X9_split_57, at_X9_split_74, at_X9_split_91, ca_X9_29, ca_X9_35, ca_X9_39, ca_X9_43, ca_X9_46, ca_X9_49, ca_X9_52, cd_X9_split_0, cd_X9_split_115, cd_X9_split_12, cd_X9_split_121, cd_X9_split_57, cd_X9_split_74, cd_X9_split_91, fl_X9_22, fl_X9_26, ev_b_32, ev_h_500, no_0, no_1, no_lt, no_le, no_eq, no_lt0, no_ge0, no_gt0, no_le0, no_eq0, no_0eq, no_eqm, no_meq, no_m0, no_mlt, no_mge, no_mgt, no_mm, no_i01, no_i10, no_in, no_or, no_ifm, no_mul, nI_add, no_sub, pk_div, iI_if, nI_clamp, oI_n, oI_s, not_true_eq_false, not_false_eq_true, forall_const, true_implies, false_and, and_false, or_false, false_or, Classical.not_not, true_or, or_true, no_b, no_eq1, eq_self, and_self, no_on, hK, tk_4, k1, k2, h5])
              | (with_reducible refine ev_gid ?_; simp (disch := first | omega | assumption) only [ev_run_c, ev_run_n, ev_fj, ev_stp, ev_lk, ev_fv, ev_as, ev_sz, ev_st1, ev_st2, ev_rm, ev_pk, ev_Jof, ev_go, lv_args, List.map_cons, List.map_nil, List.zip_cons_cons, List.zip_nil_left, List.zip_nil_right, List.nil_append, List.cons_append, ↓reduceIte, reduceCtorEq, Int.reduceToNat, Nat.reduceEqDiff, Nat.reduceAdd, Nat.reduceLT, Nat.reduceLeDiff, Nat.reduceMul, Nat.reduceSub, Value.category, false_implies, true_and, and_true, Bool.false_eq_true, Option.some.injEq, exists_eq_left', Option.toList_some, Option.toList_none, ev_km, ev_k2, ev_k3, ev_k4, ev_k5, ev_l0, ev_l1, sh_1, sh_2, sh_3, sh_4, sh_5, at_X9_split_115, at_X9_split_12, at_X9_split_121, at_X9_split_57, at_X9_split_74, at_X9_split_91, ca_X9_29, ca_X9_35, ca_X9_39, ca_X9_43, ca_X9_46, ca_X9_49, ca_X9_52, cd_X9_split_0, cd_X9_split_115, cd_X9_split_12, cd_X9_split_121, cd_X9_split_57, cd_X9_split_74, cd_X9_split_91, fl_X9_22, fl_X9_26, ev_b_32, ev_h_500, no_0, no_1, no_lt, no_le, no_eq, no_lt0, no_ge0, no_gt0, no_le0, no_eq0, no_0eq, no_eqm, no_meq, no_m0, no_mlt, no_mge, no_mgt, no_mm, no_i01, no_i10, no_in, no_or, no_ifm, no_mul, nI_add, no_sub, pk_div, iI_if, nI_clamp, oI_n, oI_s, not_true_eq_false, not_false_eq_true, forall_const, true_implies, false_and, and_false, or_false, false_or, Classical.not_not, true_or, or_true, no_b, no_eq1, eq_self, and_self, no_on, hK, tk_4, k1, k2, h5])
              | (with_reducible refine And.intro (fun q => ?_) (fun q => ?_) <;> (try simp (disch := first | omega | assumption) only [no_0, no_1, no_lt, no_le, no_eq, no_lt0, no_ge0, no_gt0, no_le0, no_eq0, no_0eq, no_eqm, no_meq, no_m0, no_mlt, no_mge, no_mgt, no_mm, no_i01, no_i10, no_in, no_or, no_ifm, no_mul, nI_add, no_sub, pk_div, iI_if, nI_clamp, oI_n, oI_s, not_true_eq_false, not_false_eq_true, forall_const, true_implies, false_and, and_false, or_false, false_or, Classical.not_not, true_or, or_true, no_b, no_eq1, eq_self, and_self, no_on, hK, tk_4, k1, k2, h5] at q))
              | with_reducible refine ev_ci (m_get1 hok hn hT ?_) ?_
              | with_reducible refine ev_ci (m_X9_isLetter hok ?_) ?_
              | with_reducible refine ev_ci (m_X9_addWordAt hok hn hT hB ?_ ?_ ?_ ?_) ?_
              | with_reducible refine ev_ci (m_X9_isDigit hok ?_) ?_
              | with_reducible refine ev_ci (m_X9_addNumberAt hok hn hT hB ?_ ?_ ?_ ?_ ?_) ?_
              | with_reducible refine ev_ci (m_X9_kindOf hok ?_) ?_
              | with_reducible refine ev_ci (m_X9_add hok ?_ ?_ ?_ ?_) ?_
              | omega
              | with_reducible assumption
              | with_reducible rfl
              | (refine Nat.lt_of_lt_of_le ?_ (Nat.le_refl 312); omega)
              | refine lpG_nx (a + 1) (b + 1) (ps B n (b + 1)) ?_ ?_ ?_ ?_
              | with_reducible refine lp_nx ?_ ?_ ?_ ?_
              | with_reducible refine lp_st ?_ ?_ ?_
              | with_reducible refine ls_c ?_ ?_
              | with_reducible refine vi_c ?_
              | with_reducible refine re_c ?_
              | with_reducible refine vz_c ?_
              | with_reducible refine rz_c ?_
              | exact trivial
              | with_reducible refine And.intro ?_ ?_
              | simp (disch := first | omega | assumption) only [ev_run_c, ev_run_n, ev_fj, ev_stp, ev_lk, ev_fv, ev_as, ev_sz, ev_st1, ev_st2, ev_rm, ev_pk, ev_Jof, ev_go, lv_args, List.map_cons, List.map_nil, List.zip_cons_cons, List.zip_nil_left, List.zip_nil_right, List.nil_append, List.cons_append, ↓reduceIte, reduceCtorEq, Int.reduceToNat, Nat.reduceEqDiff, Nat.reduceAdd, Nat.reduceLT, Nat.reduceLeDiff, Nat.reduceMul, Nat.reduceSub, Value.category, false_implies, true_and, and_true, Bool.false_eq_true, Option.some.injEq, exists_eq_left', Option.toList_some, Option.toList_none, ev_km, ev_k2, ev_k3, ev_k4, ev_k5, ev_l0, ev_l1, sh_1, sh_2, sh_3, sh_4, sh_5, at_X9_split_115, at_X9_split_12, at_X9_split_121, at_X9_split_57, at_X9_split_74, at_X9_split_91, ca_X9_29, ca_X9_35, ca_X9_39, ca_X9_43, ca_X9_46, ca_X9_49, ca_X9_52, cd_X9_split_0, cd_X9_split_115, cd_X9_split_12, cd_X9_split_121, cd_X9_split_57, cd_X9_split_74, cd_X9_split_91, fl_X9_22, fl_X9_26, ev_b_32, ev_h_500, no_0, no_1, no_lt, no_le, no_eq, no_lt0, no_ge0, no_gt0, no_le0, no_eq0, no_0eq, no_eqm, no_meq, no_m0, no_mlt, no_mge, no_mgt, no_mm, no_i01, no_i10, no_in, no_or, no_ifm, no_mul, nI_add, no_sub, pk_div, iI_if, nI_clamp, oI_n, oI_s, not_true_eq_false, not_false_eq_true, forall_const, true_implies, false_and, and_false, or_false, false_or, Classical.not_not, true_or, or_true, no_b, no_eq1, eq_self, and_self, no_on, hK, tk_4, k1, k2, h5]
              | exact rfl
              | (split <;> omega))
        · repeat' (first
            | (with_reducible refine ev_rid ?_; simp (disch := first | omega | assumption) only [ev_run_c, ev_run_n, ev_fj, ev_stp, ev_lk, ev_fv, ev_as, ev_sz, ev_st1, ev_st2, ev_rm, ev_pk, ev_Jof, ev_go, lv_args, List.map_cons, List.map_nil, List.zip_cons_cons, List.zip_nil_left, List.zip_nil_right, List.nil_append, List.cons_append, ↓reduceIte, reduceCtorEq, Int.reduceToNat, Nat.reduceEqDiff, Nat.reduceAdd, Nat.reduceLT, Nat.reduceLeDiff, Nat.reduceMul, Nat.reduceSub, Value.category, false_implies, true_and, and_true, Bool.false_eq_true, Option.some.injEq, exists_eq_left', Option.toList_some, Option.toList_none, ev_km, ev_k2, ev_k3, ev_k4, ev_k5, ev_l0, ev_l1, sh_1, sh_2, sh_3, sh_4, sh_5, at_X9_split_115, at_X9_split_12, at_X9_split_121, at_X9_split_57, at_X9_split_74, at_X9_split_91, ca_X9_29, ca_X9_35, ca_X9_39, ca_X9_43, ca_X9_46, ca_X9_49, ca_X9_52, cd_X9_split_0, cd_X9_split_115, cd_X9_split_12, cd_X9_split_121, cd_X9_split_57, cd_X9_split_74, cd_X9_split_91, fl_X9_22, fl_X9_26, ev_b_32, ev_h_500, no_0, no_1, no_lt, no_le, no_eq, no_lt0, no_ge0, no_gt0, no_le0, no_eq0, no_0eq, no_eqm, no_meq, no_m0, no_mlt, no_mge, no_mgt, no_mm, no_i01, no_i10, no_in, no_or, no_ifm, no_mul, nI_add, no_sub, pk_div, iI_if, nI_clamp, oI_n, oI_s, not_true_eq_false, not_false_eq_true, forall_const, true_implies, false_and, and_false, or_false, false_or, Classical.not_not, true_or, or_true, no_b, no_eq1, eq_self, and_self, no_on, hK, tk_4, k1, h5])
            | (with_reducible refine ev_gid ?_; simp (disch := first | omega | assumption) only [ev_run_c, ev_run_n, ev_fj, ev_stp, ev_lk, ev_fv, ev_as, ev_sz, ev_st1, ev_st2, ev_rm, ev_pk, ev_Jof, ev_go, lv_args, List.map_cons, List.map_nil, List.zip_cons_cons, List.zip_nil_left, List.zip_nil_right, List.nil_append, List.cons_append, ↓reduceIte, reduceCtorEq, Int.reduceToNat, Nat.reduceEqDiff, Nat.reduceAdd, Nat.reduceLT, Nat.reduceLeDiff, Nat.reduceMul, Nat.reduceSub, Value.category, false_implies, true_and, and_true, Bool.false_eq_true, Option.some.injEq, exists_eq_left', Option.toList_some, Option.toList_none, ev_km, ev_k2, ev_k3, ev_k4, ev_k5, ev_l0, ev_l1, sh_1, sh_2, sh_3, sh_4, sh_5, at_X9_split_115, at_X9_split_12, at_X9_split_121, at_X9_split_57, at_X9_split_74, at_X9_split_91, ca_X9_29, ca_X9_35, ca_X9_39, ca_X9_43, ca_X9_46, ca_X9_49, ca_X9_52, cd_X9_split_0, cd_X9_split_115, cd_X9_split_12, cd_X9_split_121, cd_X9_split_57, cd_X9_split_74, cd_X9_split_91, fl_X9_22, fl_X9_26, ev_b_32, ev_h_500, no_0, no_1, no_lt, no_le, no_eq, no_lt0, no_ge0, no_gt0, no_le0, no_eq0, no_0eq, no_eqm, no_meq, no_m0, no_mlt, no_mge, no_mgt, no_mm, no_i01, no_i10, no_in, no_or, no_ifm, no_mul, nI_add, no_sub, pk_div, iI_if, nI_clamp, oI_n, oI_s, not_true_eq_false, not_false_eq_true, forall_const, true_implies, false_and, and_false, or_false, false_or, Classical.not_not, true_or, or_true, no_b, no_eq1, eq_self, and_self, no_on, hK, tk_4, k1, h5])
            | (with_reducible refine And.intro (fun q => ?_) (fun q => ?_) <;> (try simp (disch := first | omega | assumption) only [no_0, no_1, no_lt, no_le, no_eq, no_lt0, no_ge0, no_gt0, no_le0, no_eq0, no_0eq, no_eqm, no_meq, no_m0, no_mlt, no_mge, no_mgt, no_mm, no_i01, no_i10, no_in, no_or, no_ifm, no_mul, nI_add, no_sub, pk_div, iI_if, nI_clamp, oI_n, oI_s, not_true_eq_false, not_false_eq_true, forall_const, true_implies, false_and, and_false, or_false, false_or, Classical.not_not, true_or, or_true, no_b, no_eq1, eq_self, and_self, no_on, hK, tk_4, k1, h5] at q))
            | with_reducible refine ev_ci (m_get1 hok hn hT ?_) ?_
            | with_reducible refine ev_ci (m_X9_isLetter hok ?_) ?_
            | with_reducible refine ev_ci (m_X9_addWordAt hok hn hT hB ?_ ?_ ?_ ?_) ?_
            | with_reducible refine ev_ci (m_X9_isDigit hok ?_) ?_
            | with_reducible refine ev_ci (m_X9_addNumberAt hok hn hT hB ?_ ?_ ?_ ?_ ?_) ?_
            | with_reducible refine ev_ci (m_X9_kindOf hok ?_) ?_
            | with_reducible refine ev_ci (m_X9_add hok ?_ ?_ ?_ ?_) ?_
            | omega
            | with_reducible assumption
            | with_reducible rfl
            | (refine Nat.lt_of_lt_of_le ?_ (Nat.le_refl 312); omega)
            | refine lpG_nx (a + 1) (b + 1) (ps B n (b + 1)) ?_ ?_ ?_ ?_
            | with_reducible refine lp_nx ?_ ?_ ?_ ?_
            | with_reducible refine lp_st ?_ ?_ ?_
            | with_reducible refine ls_c ?_ ?_
            | with_reducible refine vi_c ?_
            | with_reducible refine re_c ?_
            | with_reducible refine vz_c ?_
            | with_reducible refine rz_c ?_
            | exact trivial
            | with_reducible refine And.intro ?_ ?_
            | simp (disch := first | omega | assumption) only [ev_run_c, ev_run_n, ev_fj, ev_stp, ev_lk, ev_fv, ev_as, ev_sz, ev_st1, ev_st2, ev_rm, ev_pk, ev_Jof, ev_go, lv_args, List.map_cons, List.map_nil, List.zip_cons_cons, List.zip_nil_left, List.zip_nil_right, List.nil_append, List.cons_append, ↓reduceIte, reduceCtorEq, Int.reduceToNat, Nat.reduceEqDiff, Nat.reduceAdd, Nat.reduceLT, Nat.reduceLeDiff, Nat.reduceMul, Nat.reduceSub, Value.category, false_implies, true_and, and_true, Bool.false_eq_true, Option.some.injEq, exists_eq_left', Option.toList_some, Option.toList_none, ev_km, ev_k2, ev_k3, ev_k4, ev_k5, ev_l0, ev_l1, sh_1, sh_2, sh_3, sh_4, sh_5, at_X9_split_115, at_X9_split_12, at_X9_split_121, at_X9_split_57, at_X9_split_74, at_X9_split_91, ca_X9_29, ca_X9_35, ca_X9_39, ca_X9_43, ca_X9_46, ca_X9_49, ca_X9_52, cd_X9_split_0, cd_X9_split_115, cd_X9_split_12, cd_X9_split_121, cd_X9_split_57, cd_X9_split_74, cd_X9_split_91, fl_X9_22, fl_X9_26, ev_b_32, ev_h_500, no_0, no_1, no_lt, no_le, no_eq, no_lt0, no_ge0, no_gt0, no_le0, no_eq0, no_0eq, no_eqm, no_meq, no_m0, no_mlt, no_mge, no_mgt, no_mm, no_i01, no_i10, no_in, no_or, no_ifm, no_mul, nI_add, no_sub, pk_div, iI_if, nI_clamp, oI_n, oI_s, not_true_eq_false, not_false_eq_true, forall_const, true_implies, false_and, and_false, or_false, false_or, Classical.not_not, true_or, or_true, no_b, no_eq1, eq_self, and_self, no_on, hK, tk_4, k1, h5]
            | exact rfl
            | (split <;> omega))
    · have e : c = n := by omega
      subst e
      obtain ⟨g1, g2, g3⟩ := LX_e h2
      have e5 := huniq b g2 h2.2.2.2
      subst e5
      have e4 := m_X9_add (B := B) (n := c) (μ := μ) hok (b := b) (c := c) (k := 0) (s := c) (v := 0) (by omega) g2.symm g1.symm g3.symm
      repeat' (first
        | (with_reducible refine ev_rid ?_; simp (disch := first | omega | assumption) only [ev_run_c, ev_run_n, ev_fj, ev_stp, ev_lk, ev_fv, ev_as, ev_sz, ev_st1, ev_st2, ev_rm, ev_pk, ev_Jof, ev_go, lv_args, List.map_cons, List.map_nil, List.zip_cons_cons, List.zip_nil_left, List.zip_nil_right, List.nil_append, List.cons_append, ↓reduceIte, reduceCtorEq, Int.reduceToNat, Nat.reduceEqDiff, Nat.reduceAdd, Nat.reduceLT, Nat.reduceLeDiff, Nat.reduceMul, Nat.reduceSub, Value.category, false_implies, true_and, and_true, Bool.false_eq_true, Option.some.injEq, exists_eq_left', Option.toList_some, Option.toList_none, ev_km, ev_k2, ev_k3, ev_k4, ev_k5, ev_l0, ev_l1, sh_1, sh_2, sh_3, sh_4, sh_5, at_X9_split_115, at_X9_split_12, at_X9_split_121, at_X9_split_57, at_X9_split_74, at_X9_split_91, ca_X9_29, ca_X9_35, ca_X9_39, ca_X9_43, ca_X9_46, ca_X9_49, ca_X9_52, cd_X9_split_0, cd_X9_split_115, cd_X9_split_12, cd_X9_split_121, cd_X9_split_57, cd_X9_split_74, cd_X9_split_91, fl_X9_22, fl_X9_26, ev_b_32, ev_h_500, no_0, no_1, no_lt, no_le, no_eq, no_lt0, no_ge0, no_gt0, no_le0, no_eq0, no_0eq, no_eqm, no_meq, no_m0, no_mlt, no_mge, no_mgt, no_mm, no_i01, no_i10, no_in, no_or, no_ifm, no_mul, nI_add, no_sub, pk_div, iI_if, nI_clamp, oI_n, oI_s, not_true_eq_false, not_false_eq_true, forall_const, true_implies, false_and, and_false, or_false, false_or, Classical.not_not, true_or, or_true, no_b, no_eq1, eq_self, and_self, no_on, hK, tk_4])
        | (with_reducible refine ev_gid ?_; simp (disch := first | omega | assumption) only [ev_run_c, ev_run_n, ev_fj, ev_stp, ev_lk, ev_fv, ev_as, ev_sz, ev_st1, ev_st2, ev_rm, ev_pk, ev_Jof, ev_go, lv_args, List.map_cons, List.map_nil, List.zip_cons_cons, List.zip_nil_left, List.zip_nil_right, List.nil_append, List.cons_append, ↓reduceIte, reduceCtorEq, Int.reduceToNat, Nat.reduceEqDiff, Nat.reduceAdd, Nat.reduceLT, Nat.reduceLeDiff, Nat.reduceMul, Nat.reduceSub, Value.category, false_implies, true_and, and_true, Bool.false_eq_true, Option.some.injEq, exists_eq_left', Option.toList_some, Option.toList_none, ev_km, ev_k2, ev_k3, ev_k4, ev_k5, ev_l0, ev_l1, sh_1, sh_2, sh_3, sh_4, sh_5, at_X9_split_115, at_X9_split_12, at_X9_split_121, at_X9_split_57, at_X9_split_74, at_X9_split_91, ca_X9_29, ca_X9_35, ca_X9_39, ca_X9_43, ca_X9_46, ca_X9_49, ca_X9_52, cd_X9_split_0, cd_X9_split_115, cd_X9_split_12, cd_X9_split_121, cd_X9_split_57, cd_X9_split_74, cd_X9_split_91, fl_X9_22, fl_X9_26, ev_b_32, ev_h_500, no_0, no_1, no_lt, no_le, no_eq, no_lt0, no_ge0, no_gt0, no_le0, no_eq0, no_0eq, no_eqm, no_meq, no_m0, no_mlt, no_mge, no_mgt, no_mm, no_i01, no_i10, no_in, no_or, no_ifm, no_mul, nI_add, no_sub, pk_div, iI_if, nI_clamp, oI_n, oI_s, not_true_eq_false, not_false_eq_true, forall_const, true_implies, false_and, and_false, or_false, false_or, Classical.not_not, true_or, or_true, no_b, no_eq1, eq_self, and_self, no_on, hK, tk_4])
        | (with_reducible refine And.intro (fun q => ?_) (fun q => ?_) <;> (try simp (disch := first | omega | assumption) only [no_0, no_1, no_lt, no_le, no_eq, no_lt0, no_ge0, no_gt0, no_le0, no_eq0, no_0eq, no_eqm, no_meq, no_m0, no_mlt, no_mge, no_mgt, no_mm, no_i01, no_i10, no_in, no_or, no_ifm, no_mul, nI_add, no_sub, pk_div, iI_if, nI_clamp, oI_n, oI_s, not_true_eq_false, not_false_eq_true, forall_const, true_implies, false_and, and_false, or_false, false_or, Classical.not_not, true_or, or_true, no_b, no_eq1, eq_self, and_self, no_on, hK, tk_4] at q))
        | (refine ev_ci e4 ?_)
        | with_reducible refine ev_ci (m_get1 hok hn hT ?_) ?_
        | with_reducible refine ev_ci (m_X9_isLetter hok ?_) ?_
        | with_reducible refine ev_ci (m_X9_addWordAt hok hn hT hB ?_ ?_ ?_ ?_) ?_
        | with_reducible refine ev_ci (m_X9_isDigit hok ?_) ?_
        | with_reducible refine ev_ci (m_X9_addNumberAt hok hn hT hB ?_ ?_ ?_ ?_ ?_) ?_
        | with_reducible refine ev_ci (m_X9_kindOf hok ?_) ?_
        | with_reducible refine ev_ci (m_X9_add hok ?_ ?_ ?_ ?_) ?_
        | omega
        | with_reducible assumption
        | with_reducible rfl
        | (refine Nat.lt_of_lt_of_le ?_ (Nat.le_refl 312); omega)
        | with_reducible refine lp_nx ?_ ?_ ?_ ?_
        | with_reducible refine lp_st ?_ ?_ ?_
        | with_reducible refine ls_c ?_ ?_
        | with_reducible refine vi_c ?_
        | with_reducible refine re_c ?_
        | with_reducible refine vz_c ?_
        | with_reducible refine rz_c ?_
        | exact trivial
        | with_reducible refine And.intro ?_ ?_
        | simp (disch := first | omega | assumption) only [ev_run_c, ev_run_n, ev_fj, ev_stp, ev_lk, ev_fv, ev_as, ev_sz, ev_st1, ev_st2, ev_rm, ev_pk, ev_Jof, ev_go, lv_args, List.map_cons, List.map_nil, List.zip_cons_cons, List.zip_nil_left, List.zip_nil_right, List.nil_append, List.cons_append, ↓reduceIte, reduceCtorEq, Int.reduceToNat, Nat.reduceEqDiff, Nat.reduceAdd, Nat.reduceLT, Nat.reduceLeDiff, Nat.reduceMul, Nat.reduceSub, Value.category, false_implies, true_and, and_true, Bool.false_eq_true, Option.some.injEq, exists_eq_left', Option.toList_some, Option.toList_none, ev_km, ev_k2, ev_k3, ev_k4, ev_k5, ev_l0, ev_l1, sh_1, sh_2, sh_3, sh_4, sh_5, at_X9_split_115, at_X9_split_12, at_X9_split_121, at_X9_split_57, at_X9_split_74, at_X9_split_91, ca_X9_29, ca_X9_35, ca_X9_39, ca_X9_43, ca_X9_46, ca_X9_49, ca_X9_52, cd_X9_split_0, cd_X9_split_115, cd_X9_split_12, cd_X9_split_121, cd_X9_split_57, cd_X9_split_74, cd_X9_split_91, fl_X9_22, fl_X9_26, ev_b_32, ev_h_500, no_0, no_1, no_lt, no_le, no_eq, no_lt0, no_ge0, no_gt0, no_le0, no_eq0, no_0eq, no_eqm, no_meq, no_m0, no_mlt, no_mge, no_mgt, no_mm, no_i01, no_i10, no_in, no_or, no_ifm, no_mul, nI_add, no_sub, pk_div, iI_if, nI_clamp, oI_n, oI_s, not_true_eq_false, not_false_eq_true, forall_const, true_implies, false_and, and_false, or_false, false_or, Classical.not_not, true_or, or_true, no_b, no_eq1, eq_self, and_self, no_on, hK, tk_4]
        | exact rfl
        | (split <;> omega))
  · rw [at_X9_split_0]
    repeat' (first
      | (with_reducible refine ev_rid ?_; simp (disch := first | omega | assumption) only [ev_run_c, ev_run_n, ev_fj, ev_stp, ev_lk, ev_fv, ev_as, ev_sz, ev_st1, ev_st2, ev_rm, ev_pk, ev_Jof, ev_go, lv_args, List.map_cons, List.map_nil, List.zip_cons_cons, List.zip_nil_left, List.zip_nil_right, List.nil_append, List.cons_append, ↓reduceIte, reduceCtorEq, Int.reduceToNat, Nat.reduceEqDiff, Nat.reduceAdd, Nat.reduceLT, Nat.reduceLeDiff, Nat.reduceMul, Nat.reduceSub, Value.category, false_implies, true_and, and_true, Bool.false_eq_true, Option.some.injEq, exists_eq_left', Option.toList_some, Option.toList_none, ev_km, ev_k2, ev_k3, ev_k4, ev_k5, ev_l0, ev_l1, sh_1, sh_2, sh_3, sh_4, sh_5, at_X9_split_115, at_X9_split_12, at_X9_split_121, at_X9_split_57, at_X9_split_74, at_X9_split_91, ca_X9_29, ca_X9_35, ca_X9_39, ca_X9_43, ca_X9_46, ca_X9_49, ca_X9_52, cd_X9_split_0, cd_X9_split_115, cd_X9_split_12, cd_X9_split_121, cd_X9_split_57, cd_X9_split_74, cd_X9_split_91, fl_X9_22, fl_X9_26, ev_b_32, ev_h_500, no_0, no_1, no_lt, no_le, no_eq, no_lt0, no_ge0, no_gt0, no_le0, no_eq0, no_0eq, no_eqm, no_meq, no_m0, no_mlt, no_mge, no_mgt, no_mm, no_i01, no_i10, no_in, no_or, no_ifm, no_mul, nI_add, no_sub, pk_div, iI_if, nI_clamp, oI_n, oI_s, not_true_eq_false, not_false_eq_true, forall_const, true_implies, false_and, and_false, or_false, false_or, Classical.not_not, true_or, or_true, no_b, no_eq1, eq_self, and_self, no_on, hK, w1_d, tk_00 (B := B) (n := n)])
      | (with_reducible refine ev_gid ?_; simp (disch := first | omega | assumption) only [ev_run_c, ev_run_n, ev_fj, ev_stp, ev_lk, ev_fv, ev_as, ev_sz, ev_st1, ev_st2, ev_rm, ev_pk, ev_Jof, ev_go, lv_args, List.map_cons, List.map_nil, List.zip_cons_cons, List.zip_nil_left, List.zip_nil_right, List.nil_append, List.cons_append, ↓reduceIte, reduceCtorEq, Int.reduceToNat, Nat.reduceEqDiff, Nat.reduceAdd, Nat.reduceLT, Nat.reduceLeDiff, Nat.reduceMul, Nat.reduceSub, Value.category, false_implies, true_and, and_true, Bool.false_eq_true, Option.some.injEq, exists_eq_left', Option.toList_some, Option.toList_none, ev_km, ev_k2, ev_k3, ev_k4, ev_k5, ev_l0, ev_l1, sh_1, sh_2, sh_3, sh_4, sh_5, at_X9_split_115, at_X9_split_12, at_X9_split_121, at_X9_split_57, at_X9_split_74, at_X9_split_91, ca_X9_29, ca_X9_35, ca_X9_39, ca_X9_43, ca_X9_46, ca_X9_49, ca_X9_52, cd_X9_split_0, cd_X9_split_115, cd_X9_split_12, cd_X9_split_121, cd_X9_split_57, cd_X9_split_74, cd_X9_split_91, fl_X9_22, fl_X9_26, ev_b_32, ev_h_500, no_0, no_1, no_lt, no_le, no_eq, no_lt0, no_ge0, no_gt0, no_le0, no_eq0, no_0eq, no_eqm, no_meq, no_m0, no_mlt, no_mge, no_mgt, no_mm, no_i01, no_i10, no_in, no_or, no_ifm, no_mul, nI_add, no_sub, pk_div, iI_if, nI_clamp, oI_n, oI_s, not_true_eq_false, not_false_eq_true, forall_const, true_implies, false_and, and_false, or_false, false_or, Classical.not_not, true_or, or_true, no_b, no_eq1, eq_self, and_self, no_on, hK, w1_d, tk_00 (B := B) (n := n)])
      | (with_reducible refine And.intro (fun q => ?_) (fun q => ?_) <;> (try simp (disch := first | omega | assumption) only [no_0, no_1, no_lt, no_le, no_eq, no_lt0, no_ge0, no_gt0, no_le0, no_eq0, no_0eq, no_eqm, no_meq, no_m0, no_mlt, no_mge, no_mgt, no_mm, no_i01, no_i10, no_in, no_or, no_ifm, no_mul, nI_add, no_sub, pk_div, iI_if, nI_clamp, oI_n, oI_s, not_true_eq_false, not_false_eq_true, forall_const, true_implies, false_and, and_false, or_false, false_or, Classical.not_not, true_or, or_true, no_b, no_eq1, eq_self, and_self, no_on, hK, w1_d, tk_00 (B := B) (n := n)] at q))
      | with_reducible refine ev_ci (m_get1 hok hn hT ?_) ?_
      | with_reducible refine ev_ci (m_X9_isLetter hok ?_) ?_
      | with_reducible refine ev_ci (m_X9_addWordAt hok hn hT hB ?_ ?_ ?_ ?_) ?_
      | with_reducible refine ev_ci (m_X9_isDigit hok ?_) ?_
      | with_reducible refine ev_ci (m_X9_addNumberAt hok hn hT hB ?_ ?_ ?_ ?_ ?_) ?_
      | with_reducible refine ev_ci (m_X9_kindOf hok ?_) ?_
      | with_reducible refine ev_ci (m_X9_add hok ?_ ?_ ?_ ?_) ?_
      | omega
      | with_reducible assumption
      | with_reducible rfl
      | (refine Nat.lt_of_lt_of_le ?_ (Nat.le_refl 312); omega)
      | refine lpG_st 0 0 0 ?_ ?_ ?_
      | exact LX_0
      | with_reducible refine lp_nx ?_ ?_ ?_ ?_
      | with_reducible refine lp_st ?_ ?_ ?_
      | with_reducible refine ls_c ?_ ?_
      | with_reducible refine vi_c ?_
      | with_reducible refine re_c ?_
      | with_reducible refine vz_c ?_
      | with_reducible refine rz_c ?_
      | exact trivial
      | with_reducible refine And.intro ?_ ?_
      | simp (disch := first | omega | assumption) only [ev_run_c, ev_run_n, ev_fj, ev_stp, ev_lk, ev_fv, ev_as, ev_sz, ev_st1, ev_st2, ev_rm, ev_pk, ev_Jof, ev_go, lv_args, List.map_cons, List.map_nil, List.zip_cons_cons, List.zip_nil_left, List.zip_nil_right, List.nil_append, List.cons_append, ↓reduceIte, reduceCtorEq, Int.reduceToNat, Nat.reduceEqDiff, Nat.reduceAdd, Nat.reduceLT, Nat.reduceLeDiff, Nat.reduceMul, Nat.reduceSub, Value.category, false_implies, true_and, and_true, Bool.false_eq_true, Option.some.injEq, exists_eq_left', Option.toList_some, Option.toList_none, ev_km, ev_k2, ev_k3, ev_k4, ev_k5, ev_l0, ev_l1, sh_1, sh_2, sh_3, sh_4, sh_5, at_X9_split_115, at_X9_split_12, at_X9_split_121, at_X9_split_57, at_X9_split_74, at_X9_split_91, ca_X9_29, ca_X9_35, ca_X9_39, ca_X9_43, ca_X9_46, ca_X9_49, ca_X9_52, cd_X9_split_0, cd_X9_split_115, cd_X9_split_12, cd_X9_split_121, cd_X9_split_57, cd_X9_split_74, cd_X9_split_91, fl_X9_22, fl_X9_26, ev_b_32, ev_h_500, no_0, no_1, no_lt, no_le, no_eq, no_lt0, no_ge0, no_gt0, no_le0, no_eq0, no_0eq, no_eqm, no_meq, no_m0, no_mlt, no_mge, no_mgt, no_mm, no_i01, no_i10, no_in, no_or, no_ifm, no_mul, nI_add, no_sub, pk_div, iI_if, nI_clamp, oI_n, oI_s, not_true_eq_false, not_false_eq_true, forall_const, true_implies, false_and, and_false, or_false, false_or, Classical.not_not, true_or, or_true, no_b, no_eq1, eq_self, and_self, no_on, hK, w1_d, tk_00 (B := B) (n := n)]
      | exact rfl
      | (split <;> omega))
end KindOf
