/-! ===== the reference's parser: is it that word ===== -/
section RWord
variable {G : ev_G} {N : Nat → Nat} {B : Nat → Nat} {n : Nat} {μ μ' : ev_M}
theorem kww_w : ∀ j, j < 19 → kww j = wN (ksC j) (ksL.getD j 0) := by decide +kernel
theorem kww_in : ∀ i, i < 19 → ∀ j, j < 19 → kww i = kww j → i = j := by decide +kernel
theorem kwi_iff {a : Nat} (h1 : tkd B n a = 1) (hB : ∀ b, B b < 256) {j : Nat} (hj : j < 19) : kwi B n a = j ↔ (tln B n a = ksL.getD j 0 ∧ ∀ k, k < ksL.getD j 0 → B (tst B n a + k) = ksC j k) := by
  obtain ⟨t1, t2, t3, t4, t5, t6, t7⟩ := tkd_1 h1
  have e0 : kwi B n a = fx kww (tvl B n a) 19 := if_pos h1
  rw [e0]
  constructor
  · intro h
    have h2 := fx_is (f := kww) (x := tvl B n a) (n := 19) (by omega)
    rw [h, kww_w j hj, t7] at h2
    have h3 := wN_inj (fun k hk => by have := (ksC_ok j hj k hk).2; omega) (fun k hk => ⟨by have := isL_iff.mp (t6 k hk); omega, hB _⟩) h2
    exact ⟨h3.1.symm, fun k hk => (h3.2 k hk).symm⟩
  · rintro ⟨h2, h3⟩
    have e1 : kww j = tvl B n a := by
      rw [kww_w j hj, t7, h2]
      exact wN_ext (fun k hk => (h3 k hk).symm)
    have h4 := fx_of (f := kww) (x := tvl B n a) (n := 19) ⟨j, hj, e1⟩
    have h5 := fx_is h4
    exact kww_in _ h4 j hj (h5.trans e1.symm)
section
variable {own : String} {Tb : ev_Tb} {y : ev_Mi} {cd : List (Nat × Instr)} {res : ev_R}
theorem LT_hJS {PC : Nat} {ks : List Nat} {VS ST : List Value} {M1 : ev_M} (hnext : LT G own y Tb PC (ks.zip VS) ST M1 res) {p : Program} {e : Env} {R : Room} {s : State} {m : MethodId} {args : Array Value} {below : List Frame} {meth : Method} {c : Code} (hB : ev_B sh_S G p R s m args meth c y.2.1 own y.2.2.1 y.2.2.2.2 res Tb.2.2.2.2.2.2) (hret : meth.sig.returnType = y.2.2.2.1) :
    ev_hJ sh_S G p e R s m args below meth c y.2.2.1 res [(PC, ks, fun vs st μ1 => vs = VS ∧ st = ST ∧ μ1 = M1)] := by
  intro pc ks' P hP l st μ1 vs h1 h2
  unfold ev_fj at hP
  by_cases hq : PC = pc
  · rw [if_pos hq] at hP
    cases hP
    obtain ⟨rfl, rfl, rfl⟩ := h2
    subst hq
    intro H locs ls hP hS hl
    exact hnext p e R s m args below meth c hB hret H locs ls hP hS (ev_pk_has hl h1)
  · rw [if_neg hq] at hP
    cases hP
theorem LT_runS {pc n PC : Nat} {ks : List Nat} {VS ST : List Value} {M1 : ev_M} {l : List (Nat × Value)} {st : List Value} (hM : ev_okM own y Tb cd) (hnext : LT G own y Tb PC (ks.zip VS) ST M1 res) (h : ev_run sh_S G Tb y.2.2.2.2 [(PC, ks, fun vs st μ1 => vs = VS ∧ st = ST ∧ μ1 = M1)] cd res n (ev_at cd pc) l st μ) : LT G own y Tb pc l st μ res := fun _ _ _ _ _ _ _ _ _ hB hret => eg_run hM hB hret (LT_hJS hnext hB hret) n pc h
theorem LT_run0 {pc n : Nat} {l : List (Nat × Value)} {st : List Value} (hM : ev_okM own y Tb cd) (h : ev_run sh_S G Tb y.2.2.2.2 [] cd res n (ev_at cd pc) l st μ) : LT G own y Tb pc l st μ res := fun _ _ _ _ _ _ _ _ _ hB hret => eg_run hM hB hret eg_J0 n pc h
/-- a local pushed by hand -/
theorem LT_al {pc : Nat} {k : Fin 4} {x : Nat} {l : List (Nat × Value)} {st : List Value} (hd : decode y.2.1 pc = .ok (.aload_n k, 1)) (hk : ev_lk l k = some (.ref x)) (h : LT G own y Tb (pc + 1) l (.ref x :: st) μ res) : LT G own y Tb pc l st μ res := by
  intro p e R s m args below meth c hB hret H locs ls hP hS hl
  obtain ⟨-, hx, hb, -⟩ := id hB
  exact lv_aload_n hx hb hd rfl (ev_lv0 hl (v := .ref x) hk) (h p e R s m args below meth c hB hret H locs ls hP hS hl)
theorem LT_il {pc : Nat} {k : Fin 4} {x : Int32} {l : List (Nat × Value)} {st : List Value} (hd : decode y.2.1 pc = .ok (.iload_n k, 1)) (hk : ev_lk l k = some (.int x)) (h : LT G own y Tb (pc + 1) l (.int x :: st) μ res) : LT G own y Tb pc l st μ res := by
  intro p e R s m args below meth c hB hret H locs ls hP hS hl
  obtain ⟨-, hx, hb, -⟩ := id hB
  exact lv_iload_n hx hb hd rfl (ev_lv0 hl (v := .int x) hk) (h p e R s m args below meth c hB hret H locs ls hP hS hl)
end
abbrev LTw (G : ev_G) (pc : Nat) (l : List (Nat × Value)) (st : List Value) (M : ev_M) (x : Nat) : Prop := LT G RX11 mi_X11_isWord (tb_X11_isWord 0) pc l st M (.inl (some (.int (nI x)), M))
theorem dW : decode cX11_isWord 28 = .ok (.iload_n 2, 1) ∧ decode cX11_isWord 29 = .ok (.aload_n 1, 1) ∧ decode cX11_isWord 18 = .ok (.invokevirtual 104, 3) ∧ decode cX11_isWord 30 = .ok (.invokevirtual 104, 3) ∧ decode cX11_isWord 49 = .ok (.invokevirtual 110, 3) := by decide +kernel
theorem LTw_len (hok : ev_ok sh_S G) (hks : KS G) {j : Nat} (hj : j < 19) {pc : Nat} (hd : decode cX11_isWord pc = .ok (.invokevirtual 104, 3)) {l : List (Nat × Value)} {y : Int32} {M : ev_M} {x : Nat} (h : LTw G (pc + 3) l [.int (nI (ksL.getD j 0)), .int y] M x) : LTw G pc l [.ref (340 + j), .int y] M x := by
  intro p e R s m args below meth c hB hret
  exact eh_V (r := [.int y]) (As := []) (b := 340 + j) (C := RJ0) hB ehJ_length.1 ehJ_length.2.1 ehJ_length.2.2 (fun H locs hS => vk_recv (adK := fun i => G.2.1 (340 + i)) (KS_s hB hks).1 hj hS) rfl (Nat.le_of_ble_eq_true rfl) (by decide) (j_length hok hks hj) hd (h p e R s m args below meth c hB hret)
theorem LTw_ch (hok : ev_ok sh_S G) (hks : KS G) {j k : Nat} (hj : j < 19) (hk : k < ksL.getD j 0) {l : List (Nat × Value)} {y : Int32} {M : ev_M} {x : Nat} (h : LTw G 52 l [.int (nI (ksC j k)), .int y] M x) : LTw G 49 l [.int (nI k), .ref (340 + j), .int y] M x := by
  intro p e R s m args below meth c hB hret
  exact eh_V (r := [.int y]) (As := [.int (nI k)]) (b := 340 + j) (C := RJ0) hB ehJ_charAt.1 ehJ_charAt.2.1 ehJ_charAt.2.2 (fun H locs hS => vk_recv (adK := fun i => G.2.1 (340 + i)) (KS_s hB hks).1 hj hS) rfl (Nat.le_of_ble_eq_true rfl) (by decide) (j_charAt hok hks hj hk) dW.2.2.2.2 (h p e R s m args below meth c hB hret)
set_option maxHeartbeats 2000000 in
theorem m_isWord (hok : ev_ok sh_S G) (hks : KS G) (hR : RB B n μ) {e : Nat × Int32} {a : Nat} {v : Int32} (h5 : e.1 < 5) {j : Nat} (hj : j < 19) : ev_T sh_S G mi_X11_isWord [.ref 301, .ref (340 + j)] (re B n e a v μ) (.inl (some (.int (nI (if e.1 = 0 ∧ kwi B n a = j then 1 else 0))), re B n e a v μ)) := by
  have k3 : (rcd (tkd B n a) = 2) = (tkd B n a = 1) := rcd_eq (tkd_le B n a) (by omega)
  have g1 := tst_le B n a
  have g2 := ps_le B n (a + 1)
  have g3 := hR.1
  have e0 : ps B n (a + 1) - tst B n a = tln B n a := rfl
  have hL := ksL_lt j hj
  have h19 : ∀ k : Nat, k ≠ 1 → (tkd B n a = k → kwi B n a = 19) := fun k hk h => by unfold kwi; rw [if_neg (by omega)]
  refine LT_T (own := RX11) (Tb := tb_X11_isWord 0) hok (okM_X11_isWord 0) (Nat.le_of_ble_eq_true rfl) ?_
  by_cases c : e.1 = 0 ∧ tkd B n a = 1
  · obtain ⟨t1, t2, t3, t4, t5, t6, t7⟩ := tkd_1 c.2
    have hq := kwi_iff c.2 hR.2.1 hj
    generalize hx : (if e.1 = 0 ∧ kwi B n a = j then 1 else 0) = x
    have x1 : (tln B n a = ksL.getD j 0 ∧ ∀ k, k < ksL.getD j 0 → B (tst B n a + k) = ksC j k) → x = 1 := fun q => by rw [← hx, if_pos ⟨c.1, hq.mpr q⟩]
    have x0 : ¬ (tln B n a = ksL.getD j 0 ∧ ∀ k, k < ksL.getD j 0 → B (tst B n a + k) = ksC j k) → x = 0 := fun q => by rw [← hx, if_neg (fun z => q (hq.mp z.2))]
    have loop : tln B n a = ksL.getD j 0 → ∀ d k, ksL.getD j 0 - k = d → k ≤ ksL.getD j 0 → (∀ i, i < k → B (tst B n a + i) = ksC j i) → LTw G 28 ([0, 1, 2].zip [.ref 301, .ref (340 + j), .int (nI k)]) [] (re B n e a v μ) x := by
      intro hT d
      induction d with
      | zero =>
        intro k hd hk hall
        have ek : k = ksL.getD j 0 := by omega
        subst ek
        have hx1 := x1 ⟨hT, hall⟩
        subst hx1
        refine LT_il dW.1 (x := nI (ksL.getD j 0)) rfl ?_
        refine LT_al dW.2.1 (x := 340 + j) rfl ?_
        refine LTw_len hok hks hj dW.2.2.2.1 ?_
        refine LT_run0 (n := 400) (okM_X11_isWord 0) ?_
        rw [show ev_at cd_X11_isWord 33 = (33, .if_icmp .ge 63) :: (36, .aload 0) :: (37, .getfield 26) :: (40, .aload 0) :: (41, .getfield 79) :: (44, .iload 2) :: (45, .iadd) :: (46, .baload) :: (47, .aload 1) :: (48, .iload 2) :: (49, .invokevirtual 110) :: (52, .if_icmp .eq 57) :: (55, .iconst 0) :: (56, .ireturn) :: cd_X11_isWord_57 from rfl]
        repeat' (first
          | (with_reducible refine ev_rid ?_; simp (disch := first | omega | assumption) only [ev_run_c, ev_run_n, ev_fj, ev_stp, ev_lk, ev_fv, ev_as, ev_sz, ev_st1, ev_st2, ev_rm, ev_pk, ev_Jof, ev_go, lv_args, List.map_cons, List.map_nil, List.zip_cons_cons, List.zip_nil_left, List.zip_nil_right, List.nil_append, List.cons_append, ↓reduceIte, reduceCtorEq, Int.reduceToNat, Nat.reduceEqDiff, Nat.reduceAdd, Nat.reduceLT, Nat.reduceLeDiff, Nat.reduceMul, Nat.reduceSub, Value.category, false_implies, true_and, and_true, Bool.false_eq_true, Option.some.injEq, exists_eq_left', Option.toList_some, Option.toList_none, ev_km, ev_k2, ev_k3, ev_k4, ev_k5, ev_l0, ev_l1, sh_1, sh_2, sh_3, sh_4, sh_5, at_X11_isWord_24, at_X11_isWord_26, at_X11_isWord_28, at_X11_isWord_57, at_X11_isWord_63, ca_X11_101, cd_X11_isWord_0, cd_X11_isWord_24, cd_X11_isWord_26, cd_X11_isWord_28, cd_X11_isWord_57, cd_X11_isWord_63, fl_X11_26, fl_X11_76, fl_X11_79, no_0, no_1, no_lt, no_le, no_eq, no_lt0, no_ge0, no_gt0, no_le0, no_eq0, no_0eq, no_eqm, no_meq, no_m0, no_mlt, no_mge, no_mgt, no_mm, no_i01, no_i10, no_in, no_or, no_ifm, no_mul, nI_add, no_sub, pk_div, iI_if, nI_clamp, oI_n, oI_s, not_true_eq_false, not_false_eq_true, forall_const, true_implies, false_and, and_false, or_false, false_or, Classical.not_not, true_or, or_true, no_b, no_eq1, eq_self, and_self, sk_301, sk_302, sl_302, sp_301])
          | (with_reducible refine ev_gid ?_; simp (disch := first | omega | assumption) only [ev_run_c, ev_run_n, ev_fj, ev_stp, ev_lk, ev_fv, ev_as, ev_sz, ev_st1, ev_st2, ev_rm, ev_pk, ev_Jof, ev_go, lv_args, List.map_cons, List.map_nil, List.zip_cons_cons, List.zip_nil_left, List.zip_nil_right, List.nil_append, List.cons_append, ↓reduceIte, reduceCtorEq, Int.reduceToNat, Nat.reduceEqDiff, Nat.reduceAdd, Nat.reduceLT, Nat.reduceLeDiff, Nat.reduceMul, Nat.reduceSub, Value.category, false_implies, true_and, and_true, Bool.false_eq_true, Option.some.injEq, exists_eq_left', Option.toList_some, Option.toList_none, ev_km, ev_k2, ev_k3, ev_k4, ev_k5, ev_l0, ev_l1, sh_1, sh_2, sh_3, sh_4, sh_5, at_X11_isWord_24, at_X11_isWord_26, at_X11_isWord_28, at_X11_isWord_57, at_X11_isWord_63, ca_X11_101, cd_X11_isWord_0, cd_X11_isWord_24, cd_X11_isWord_26, cd_X11_isWord_28, cd_X11_isWord_57, cd_X11_isWord_63, fl_X11_26, fl_X11_76, fl_X11_79, no_0, no_1, no_lt, no_le, no_eq, no_lt0, no_ge0, no_gt0, no_le0, no_eq0, no_0eq, no_eqm, no_meq, no_m0, no_mlt, no_mge, no_mgt, no_mm, no_i01, no_i10, no_in, no_or, no_ifm, no_mul, nI_add, no_sub, pk_div, iI_if, nI_clamp, oI_n, oI_s, not_true_eq_false, not_false_eq_true, forall_const, true_implies, false_and, and_false, or_false, false_or, Classical.not_not, true_or, or_true, no_b, no_eq1, eq_self, and_self, sk_301, sk_302, sl_302, sp_301])
          | (with_reducible refine And.intro (fun q => ?_) (fun q => ?_) <;> (try simp (disch := first | omega | assumption) only [no_0, no_1, no_lt, no_le, no_eq, no_lt0, no_ge0, no_gt0, no_le0, no_eq0, no_0eq, no_eqm, no_meq, no_m0, no_mlt, no_mge, no_mgt, no_mm, no_i01, no_i10, no_in, no_or, no_ifm, no_mul, nI_add, no_sub, pk_div, iI_if, nI_clamp, oI_n, oI_s, not_true_eq_false, not_false_eq_true, forall_const, true_implies, false_and, and_false, or_false, false_or, Classical.not_not, true_or, or_true, no_b, no_eq1, eq_self, and_self, sk_301, sk_302, sl_302, sp_301] at q))
          | with_reducible refine ev_ci (m_is hok ?_ ?_) ?_
          | omega
          | with_reducible assumption
          | with_reducible rfl
          | with_reducible refine lp_nx ?_ ?_ ?_ ?_
          | with_reducible refine lp_st ?_ ?_ ?_
          | with_reducible refine ls_c ?_ ?_
          | with_reducible refine vi_c ?_
          | with_reducible refine re_c ?_
          | with_reducible refine vz_c ?_
          | with_reducible refine rz_c ?_
          | exact trivial
          | with_reducible refine And.intro ?_ ?_
          | simp (disch := first | omega | assumption) only [ev_run_c, ev_run_n, ev_fj, ev_stp, ev_lk, ev_fv, ev_as, ev_sz, ev_st1, ev_st2, ev_rm, ev_pk, ev_Jof, ev_go, lv_args, List.map_cons, List.map_nil, List.zip_cons_cons, List.zip_nil_left, List.zip_nil_right, List.nil_append, List.cons_append, ↓reduceIte, reduceCtorEq, Int.reduceToNat, Nat.reduceEqDiff, Nat.reduceAdd, Nat.reduceLT, Nat.reduceLeDiff, Nat.reduceMul, Nat.reduceSub, Value.category, false_implies, true_and, and_true, Bool.false_eq_true, Option.some.injEq, exists_eq_left', Option.toList_some, Option.toList_none, ev_km, ev_k2, ev_k3, ev_k4, ev_k5, ev_l0, ev_l1, sh_1, sh_2, sh_3, sh_4, sh_5, at_X11_isWord_24, at_X11_isWord_26, at_X11_isWord_28, at_X11_isWord_57, at_X11_isWord_63, ca_X11_101, cd_X11_isWord_0, cd_X11_isWord_24, cd_X11_isWord_26, cd_X11_isWord_28, cd_X11_isWord_57, cd_X11_isWord_63, fl_X11_26, fl_X11_76, fl_X11_79, no_0, no_1, no_lt, no_le, no_eq, no_lt0, no_ge0, no_gt0, no_le0, no_eq0, no_0eq, no_eqm, no_meq, no_m0, no_mlt, no_mge, no_mgt, no_mm, no_i01, no_i10, no_in, no_or, no_ifm, no_mul, nI_add, no_sub, pk_div, iI_if, nI_clamp, oI_n, oI_s, not_true_eq_false, not_false_eq_true, forall_const, true_implies, false_and, and_false, or_false, false_or, Classical.not_not, true_or, or_true, no_b, no_eq1, eq_self, and_self, sk_301, sk_302, sl_302, sp_301]
          | exact rfl
          | (split <;> omega))
      | succ d ih =>
        intro k hd hk hall
        have hk2 : k < ksL.getD j 0 := by omega
        have hc := ksC_ok j hj k hk2
        have b2 := hR.2.1 (tst B n a + k)
        have b3 := isL_iff.mp (t6 k (by omega))
        have e7 : μ.1 307 (tst B n a + k) = nI (B (tst B n a + k)) := by rw [hR.2.2.2 _ (by omega), sb_n (by omega)]
        refine LT_il dW.1 (x := nI k) rfl ?_
        refine LT_al dW.2.1 (x := 340 + j) rfl ?_
        refine LTw_len hok hks hj dW.2.2.2.1 ?_
        have h52 : LTw G 52 ([0, 1, 2].zip [.ref 301, .ref (340 + j), .int (nI k)]) [.int (nI (ksC j k)), .int (nI (B (tst B n a + k)))] (re B n e a v μ) x := by
          by_cases cq : B (tst B n a + k) = ksC j k
          · have hn := ih (k + 1) (by omega) (by omega) (fun i hi => by
              by_cases ci : i = k
              · rw [ci]; exact cq
              · exact hall i (by omega))
            refine LT_run1 (n := 400) (okM_X11_isWord 0) hn ?_
            rw [show ev_at cd_X11_isWord 52 = (52, .if_icmp .eq 57) :: (55, .iconst 0) :: (56, .ireturn) :: cd_X11_isWord_57 from rfl]
            repeat' (first
              | (with_reducible refine ev_rid ?_; simp (disch := first | omega | assumption) only [ev_run_c, ev_run_n, ev_fj, ev_stp, ev_lk, ev_fv, ev_as, ev_sz, ev_st1, ev_st2, ev_rm, ev_pk, ev_Jof, ev_go, lv_args, List.map_cons, List.map_nil, List.zip_cons_cons, List.zip_nil_left, List.zip_nil_right, List.nil_append, List.cons_append, ↓reduceIte, reduceCtorEq, Int.reduceToNat, Nat.reduceEqDiff, Nat.reduceAdd, Nat.reduceLT, Nat.reduceLeDiff, Nat.reduceMul, Nat.reduceSub, Value.category, false_implies, true_and, and_true, Bool.false_eq_true, Option.some.injEq, exists_eq_left', Option.toList_some, Option.toList_none, ev_km, ev_k2, ev_k3, ev_k4, ev_k5, ev_l0, ev_l1, sh_1, sh_2, sh_3, sh_4, sh_5, at_X11_isWord_24, at_X11_isWord_26, at_X11_isWord_28, at_X11_isWord_57, at_X11_isWord_63, ca_X11_101, cd_X11_isWord_0, cd_X11_isWord_24, cd_X11_isWord_26, cd_X11_isWord_28, cd_X11_isWord_57, cd_X11_isWord_63, fl_X11_26, fl_X11_76, fl_X11_79, no_0, no_1, no_lt, no_le, no_eq, no_lt0, no_ge0, no_gt0, no_le0, no_eq0, no_0eq, no_eqm, no_meq, no_m0, no_mlt, no_mge, no_mgt, no_mm, no_i01, no_i10, no_in, no_or, no_ifm, no_mul, nI_add, no_sub, pk_div, iI_if, nI_clamp, oI_n, oI_s, not_true_eq_false, not_false_eq_true, forall_const, true_implies, false_and, and_false, or_false, false_or, Classical.not_not, true_or, or_true, no_b, no_eq1, eq_self, and_self, sk_301, sk_302, sl_302, sp_301])
              | (with_reducible refine ev_gid ?_; simp (disch := first | omega | assumption) only [ev_run_c, ev_run_n, ev_fj, ev_stp, ev_lk, ev_fv, ev_as, ev_sz, ev_st1, ev_st2, ev_rm, ev_pk, ev_Jof, ev_go, lv_args, List.map_cons, List.map_nil, List.zip_cons_cons, List.zip_nil_left, List.zip_nil_right, List.nil_append, List.cons_append, ↓reduceIte, reduceCtorEq, Int.reduceToNat, Nat.reduceEqDiff, Nat.reduceAdd, Nat.reduceLT, Nat.reduceLeDiff, Nat.reduceMul, Nat.reduceSub, Value.category, false_implies, true_and, and_true, Bool.false_eq_true, Option.some.injEq, exists_eq_left', Option.toList_some, Option.toList_none, ev_km, ev_k2, ev_k3, ev_k4, ev_k5, ev_l0, ev_l1, sh_1, sh_2, sh_3, sh_4, sh_5, at_X11_isWord_24, at_X11_isWord_26, at_X11_isWord_28, at_X11_isWord_57, at_X11_isWord_63, ca_X11_101, cd_X11_isWord_0, cd_X11_isWord_24, cd_X11_isWord_26, cd_X11_isWord_28, cd_X11_isWord_57, cd_X11_isWord_63, fl_X11_26, fl_X11_76, fl_X11_79, no_0, no_1, no_lt, no_le, no_eq, no_lt0, no_ge0, no_gt0, no_le0, no_eq0, no_0eq, no_eqm, no_meq, no_m0, no_mlt, no_mge, no_mgt, no_mm, no_i01, no_i10, no_in, no_or, no_ifm, no_mul, nI_add, no_sub, pk_div, iI_if, nI_clamp, oI_n, oI_s, not_true_eq_false, not_false_eq_true, forall_const, true_implies, false_and, and_false, or_false, false_or, Classical.not_not, true_or, or_true, no_b, no_eq1, eq_self, and_self, sk_301, sk_302, sl_302, sp_301])
              | (with_reducible refine And.intro (fun q => ?_) (fun q => ?_) <;> (try simp (disch := first | omega | assumption) only [no_0, no_1, no_lt, no_le, no_eq, no_lt0, no_ge0, no_gt0, no_le0, no_eq0, no_0eq, no_eqm, no_meq, no_m0, no_mlt, no_mge, no_mgt, no_mm, no_i01, no_i10, no_in, no_or, no_ifm, no_mul, nI_add, no_sub, pk_div, iI_if, nI_clamp, oI_n, oI_s, not_true_eq_false, not_false_eq_true, forall_const, true_implies, false_and, and_false, or_false, false_or, Classical.not_not, true_or, or_true, no_b, no_eq1, eq_self, and_self, sk_301, sk_302, sl_302, sp_301] at q))
              | with_reducible refine ev_ci (m_is hok ?_ ?_) ?_
              | omega
              | with_reducible assumption
              | with_reducible rfl
              | with_reducible refine lp_nx ?_ ?_ ?_ ?_
              | with_reducible refine lp_st ?_ ?_ ?_
              | with_reducible refine ls_c ?_ ?_
              | with_reducible refine vi_c ?_
              | with_reducible refine re_c ?_
              | with_reducible refine vz_c ?_
              | with_reducible refine rz_c ?_
              | exact trivial
              | with_reducible refine And.intro ?_ ?_
              | simp (disch := first | omega | assumption) only [ev_run_c, ev_run_n, ev_fj, ev_stp, ev_lk, ev_fv, ev_as, ev_sz, ev_st1, ev_st2, ev_rm, ev_pk, ev_Jof, ev_go, lv_args, List.map_cons, List.map_nil, List.zip_cons_cons, List.zip_nil_left, List.zip_nil_right, List.nil_append, List.cons_append, ↓reduceIte, reduceCtorEq, Int.reduceToNat, Nat.reduceEqDiff, Nat.reduceAdd, Nat.reduceLT, Nat.reduceLeDiff, Nat.reduceMul, Nat.reduceSub, Value.category, false_implies, true_and, and_true, Bool.false_eq_true, Option.some.injEq, exists_eq_left', Option.toList_some, Option.toList_none, ev_km, ev_k2, ev_k3, ev_k4, ev_k5, ev_l0, ev_l1, sh_1, sh_2, sh_3, sh_4, sh_5, at_X11_isWord_24, at_X11_isWord_26, at_X11_isWord_28, at_X11_isWord_57, at_X11_isWord_63, ca_X11_101, cd_X11_isWord_0, cd_X11_isWord_24, cd_X11_isWord_26, cd_X11_isWord_28, cd_X11_isWord_57, cd_X11_isWord_63, fl_X11_26, fl_X11_76, fl_X11_79, no_0, no_1, no_lt, no_le, no_eq, no_lt0, no_ge0, no_gt0, no_le0, no_eq0, no_0eq, no_eqm, no_meq, no_m0, no_mlt, no_mge, no_mgt, no_mm, no_i01, no_i10, no_in, no_or, no_ifm, no_mul, nI_add, no_sub, pk_div, iI_if, nI_clamp, oI_n, oI_s, not_true_eq_false, not_false_eq_true, forall_const, true_implies, false_and, and_false, or_false, false_or, Classical.not_not, true_or, or_true, no_b, no_eq1, eq_self, and_self, sk_301, sk_302, sl_302, sp_301]
              | exact rfl
              | (split <;> omega))
          · have hx0 := x0 (fun q => cq (q.2 k hk2))
            subst hx0
            refine LT_run0 (n := 400) (okM_X11_isWord 0) ?_
            rw [show ev_at cd_X11_isWord 52 = (52, .if_icmp .eq 57) :: (55, .iconst 0) :: (56, .ireturn) :: cd_X11_isWord_57 from rfl]
            repeat' (first
              | (with_reducible refine ev_rid ?_; simp (disch := first | omega | assumption) only [ev_run_c, ev_run_n, ev_fj, ev_stp, ev_lk, ev_fv, ev_as, ev_sz, ev_st1, ev_st2, ev_rm, ev_pk, ev_Jof, ev_go, lv_args, List.map_cons, List.map_nil, List.zip_cons_cons, List.zip_nil_left, List.zip_nil_right, List.nil_append, List.cons_append, ↓reduceIte, reduceCtorEq, Int.reduceToNat, Nat.reduceEqDiff, Nat.reduceAdd, Nat.reduceLT, Nat.reduceLeDiff, Nat.reduceMul, Nat.reduceSub, Value.category, false_implies, true_and, and_true, Bool.false_eq_true, Option.some.injEq, exists_eq_left', Option.toList_some, Option.toList_none, ev_km, ev_k2, ev_k3, ev_k4, ev_k5, ev_l0, ev_l1, sh_1, sh_2, sh_3, sh_4, sh_5, at_X11_isWord_24, at_X11_isWord_26, at_X11_isWord_28, at_X11_isWord_57, at_X11_isWord_63, ca_X11_101, cd_X11_isWord_0, cd_X11_isWord_24, cd_X11_isWord_26, cd_X11_isWord_28, cd_X11_isWord_57, cd_X11_isWord_63, fl_X11_26, fl_X11_76, fl_X11_79, no_0, no_1, no_lt, no_le, no_eq, no_lt0, no_ge0, no_gt0, no_le0, no_eq0, no_0eq, no_eqm, no_meq, no_m0, no_mlt, no_mge, no_mgt, no_mm, no_i01, no_i10, no_in, no_or, no_ifm, no_mul, nI_add, no_sub, pk_div, iI_if, nI_clamp, oI_n, oI_s, not_true_eq_false, not_false_eq_true, forall_const, true_implies, false_and, and_false, or_false, false_or, Classical.not_not, true_or, or_true, no_b, no_eq1, eq_self, and_self, sk_301, sk_302, sl_302, sp_301])
              | (with_reducible refine ev_gid ?_; simp (disch := first | omega | assumption) only [ev_run_c, ev_run_n, ev_fj, ev_stp, ev_lk, ev_fv, ev_as, ev_sz, ev_st1, ev_st2, ev_rm, ev_pk, ev_Jof, ev_go, lv_args, List.map_cons, List.map_nil, List.zip_cons_cons, List.zip_nil_left, List.zip_nil_right, List.nil_append, List.cons_append, ↓reduceIte, reduceCtorEq, Int.reduceToNat, Nat.reduceEqDiff, Nat.reduceAdd, Nat.reduceLT, Nat.reduceLeDiff, Nat.reduceMul, Nat.reduceSub, Value.category, false_implies, true_and, and_true, Bool.false_eq_true, Option.some.injEq, exists_eq_left', Option.toList_some, Option.toList_none, ev_km, ev_k2, ev_k3, ev_k4, ev_k5, ev_l0, ev_l1, sh_1, sh_2, sh_3, sh_4, sh_5, at_X11_isWord_24, at_X11_isWord_26, at_X11_isWord_28, at_X11_isWord_57, at_X11_isWord_63, ca_X11_101, cd_X11_isWord_0, cd_X11_isWord_24, cd_X11_isWord_26, cd_X11_isWord_28, cd_X11_isWord_57, cd_X11_isWord_63, fl_X11_26, fl_X11_76, fl_X11_79, no_0, no_1, no_lt, no_le, no_eq, no_lt0, no_ge0, no_gt0, no_le0, no_eq0, no_0eq, no_eqm, no_meq, no_m0, no_mlt, no_mge, no_mgt, no_mm, no_i01, no_i10, no_in, no_or, no_ifm, no_mul, nI_add, no_sub, pk_div, iI_if, nI_clamp, oI_n, oI_s, not_true_eq_false, not_false_eq_true, forall_const, true_implies, false_and, and_false, or_false, false_or, Classical.not_not, true_or, or_true, no_b, no_eq1, eq_self, and_self, sk_301, sk_302, sl_302, sp_301])
              | (with_reducible refine And.intro (fun q => ?_) (fun q => ?_) <;> (try simp (disch := first | omega | assumption) only [no_0, no_1, no_lt, no_le, no_eq, no_lt0, no_ge0, no_gt0, no_le0, no_eq0, no_0eq, no_eqm, no_meq, no_m0, no_mlt, no_mge, no_mgt, no_mm, no_i01, no_i10, no_in, no_or, no_ifm, no_mul, nI_add, no_sub, pk_div, iI_if, nI_clamp, oI_n, oI_s, not_true_eq_false, not_false_eq_true, forall_const, true_implies, false_and, and_false, or_false, false_or, Classical.not_not, true_or, or_true, no_b, no_eq1, eq_self, and_self, sk_301, sk_302, sl_302, sp_301] at q))
              | with_reducible refine ev_ci (m_is hok ?_ ?_) ?_
              | omega
              | with_reducible assumption
              | with_reducible rfl
              | with_reducible refine lp_nx ?_ ?_ ?_ ?_
              | with_reducible refine lp_st ?_ ?_ ?_
              | with_reducible refine ls_c ?_ ?_
              | with_reducible refine vi_c ?_
              | with_reducible refine re_c ?_
              | with_reducible refine vz_c ?_
              | with_reducible refine rz_c ?_
              | exact trivial
              | with_reducible refine And.intro ?_ ?_
              | simp (disch := first | omega | assumption) only [ev_run_c, ev_run_n, ev_fj, ev_stp, ev_lk, ev_fv, ev_as, ev_sz, ev_st1, ev_st2, ev_rm, ev_pk, ev_Jof, ev_go, lv_args, List.map_cons, List.map_nil, List.zip_cons_cons, List.zip_nil_left, List.zip_nil_right, List.nil_append, List.cons_append, ↓reduceIte, reduceCtorEq, Int.reduceToNat, Nat.reduceEqDiff, Nat.reduceAdd, Nat.reduceLT, Nat.reduceLeDiff, Nat.reduceMul, Nat.reduceSub, Value.category, false_implies, true_and, and_true, Bool.false_eq_true, Option.some.injEq, exists_eq_left', Option.toList_some, Option.toList_none, ev_km, ev_k2, ev_k3, ev_k4, ev_k5, ev_l0, ev_l1, sh_1, sh_2, sh_3, sh_4, sh_5, at_X11_isWord_24, at_X11_isWord_26, at_X11_isWord_28, at_X11_isWord_57, at_X11_isWord_63, ca_X11_101, cd_X11_isWord_0, cd_X11_isWord_24, cd_X11_isWord_26, cd_X11_isWord_28, cd_X11_isWord_57, cd_X11_isWord_63, fl_X11_26, fl_X11_76, fl_X11_79, no_0, no_1, no_lt, no_le, no_eq, no_lt0, no_ge0, no_gt0, no_le0, no_eq0, no_0eq, no_eqm, no_meq, no_m0, no_mlt, no_mge, no_mgt, no_mm, no_i01, no_i10, no_in, no_or, no_ifm, no_mul, nI_add, no_sub, pk_div, iI_if, nI_clamp, oI_n, oI_s, not_true_eq_false, not_false_eq_true, forall_const, true_implies, false_and, and_false, or_false, false_or, Classical.not_not, true_or, or_true, no_b, no_eq1, eq_self, and_self, sk_301, sk_302, sl_302, sp_301]
              | exact rfl
              | (split <;> omega))
        have h49 := LTw_ch hok hks hj hk2 h52
        refine LT_runS (n := 400) (okM_X11_isWord 0) h49 ?_
        rw [show ev_at cd_X11_isWord 33 = (33, .if_icmp .ge 63) :: (36, .aload 0) :: (37, .getfield 26) :: (40, .aload 0) :: (41, .getfield 79) :: (44, .iload 2) :: (45, .iadd) :: (46, .baload) :: (47, .aload 1) :: (48, .iload 2) :: (49, .invokevirtual 110) :: (52, .if_icmp .eq 57) :: (55, .iconst 0) :: (56, .ireturn) :: cd_X11_isWord_57 from rfl]
        repeat' (first
          | (with_reducible refine ev_rid ?_; simp (disch := first | omega | assumption) only [ev_run_c, ev_run_n, ev_fj, ev_stp, ev_lk, ev_fv, ev_as, ev_sz, ev_st1, ev_st2, ev_rm, ev_pk, ev_Jof, ev_go, lv_args, List.map_cons, List.map_nil, List.zip_cons_cons, List.zip_nil_left, List.zip_nil_right, List.nil_append, List.cons_append, ↓reduceIte, reduceCtorEq, Int.reduceToNat, Nat.reduceEqDiff, Nat.reduceAdd, Nat.reduceLT, Nat.reduceLeDiff, Nat.reduceMul, Nat.reduceSub, Value.category, false_implies, true_and, and_true, Bool.false_eq_true, Option.some.injEq, exists_eq_left', Option.toList_some, Option.toList_none, ev_km, ev_k2, ev_k3, ev_k4, ev_k5, ev_l0, ev_l1, sh_1, sh_2, sh_3, sh_4, sh_5, at_X11_isWord_24, at_X11_isWord_26, at_X11_isWord_28, at_X11_isWord_57, at_X11_isWord_63, ca_X11_101, cd_X11_isWord_0, cd_X11_isWord_24, cd_X11_isWord_26, cd_X11_isWord_28, cd_X11_isWord_57, cd_X11_isWord_63, fl_X11_26, fl_X11_76, fl_X11_79, no_0, no_1, no_lt, no_le, no_eq, no_lt0, no_ge0, no_gt0, no_le0, no_eq0, no_0eq, no_eqm, no_meq, no_m0, no_mlt, no_mge, no_mgt, no_mm, no_i01, no_i10, no_in, no_or, no_ifm, no_mul, nI_add, no_sub, pk_div, iI_if, nI_clamp, oI_n, oI_s, not_true_eq_false, not_false_eq_true, forall_const, true_implies, false_and, and_false, or_false, false_or, Classical.not_not, true_or, or_true, no_b, no_eq1, eq_self, and_self, sk_301, sk_302, sl_302, sp_301, re_14, re_n, e7, sk_307, sl_307, sp_307])
          | (with_reducible refine ev_gid ?_; simp (disch := first | omega | assumption) only [ev_run_c, ev_run_n, ev_fj, ev_stp, ev_lk, ev_fv, ev_as, ev_sz, ev_st1, ev_st2, ev_rm, ev_pk, ev_Jof, ev_go, lv_args, List.map_cons, List.map_nil, List.zip_cons_cons, List.zip_nil_left, List.zip_nil_right, List.nil_append, List.cons_append, ↓reduceIte, reduceCtorEq, Int.reduceToNat, Nat.reduceEqDiff, Nat.reduceAdd, Nat.reduceLT, Nat.reduceLeDiff, Nat.reduceMul, Nat.reduceSub, Value.category, false_implies, true_and, and_true, Bool.false_eq_true, Option.some.injEq, exists_eq_left', Option.toList_some, Option.toList_none, ev_km, ev_k2, ev_k3, ev_k4, ev_k5, ev_l0, ev_l1, sh_1, sh_2, sh_3, sh_4, sh_5, at_X11_isWord_24, at_X11_isWord_26, at_X11_isWord_28, at_X11_isWord_57, at_X11_isWord_63, ca_X11_101, cd_X11_isWord_0, cd_X11_isWord_24, cd_X11_isWord_26, cd_X11_isWord_28, cd_X11_isWord_57, cd_X11_isWord_63, fl_X11_26, fl_X11_76, fl_X11_79, no_0, no_1, no_lt, no_le, no_eq, no_lt0, no_ge0, no_gt0, no_le0, no_eq0, no_0eq, no_eqm, no_meq, no_m0, no_mlt, no_mge, no_mgt, no_mm, no_i01, no_i10, no_in, no_or, no_ifm, no_mul, nI_add, no_sub, pk_div, iI_if, nI_clamp, oI_n, oI_s, not_true_eq_false, not_false_eq_true, forall_const, true_implies, false_and, and_false, or_false, false_or, Classical.not_not, true_or, or_true, no_b, no_eq1, eq_self, and_self, sk_301, sk_302, sl_302, sp_301, re_14, re_n, e7, sk_307, sl_307, sp_307])
          | (with_reducible refine And.intro (fun q => ?_) (fun q => ?_) <;> (try simp (disch := first | omega | assumption) only [no_0, no_1, no_lt, no_le, no_eq, no_lt0, no_ge0, no_gt0, no_le0, no_eq0, no_0eq, no_eqm, no_meq, no_m0, no_mlt, no_mge, no_mgt, no_mm, no_i01, no_i10, no_in, no_or, no_ifm, no_mul, nI_add, no_sub, pk_div, iI_if, nI_clamp, oI_n, oI_s, not_true_eq_false, not_false_eq_true, forall_const, true_implies, false_and, and_false, or_false, false_or, Classical.not_not, true_or, or_true, no_b, no_eq1, eq_self, and_self, sk_301, sk_302, sl_302, sp_301, re_14, re_n, e7, sk_307, sl_307, sp_307] at q))
          | with_reducible refine ev_ci (m_is hok ?_ ?_) ?_
          | omega
          | with_reducible assumption
          | with_reducible rfl
          | with_reducible refine lp_nx ?_ ?_ ?_ ?_
          | with_reducible refine lp_st ?_ ?_ ?_
          | with_reducible refine ls_c ?_ ?_
          | with_reducible refine vi_c ?_
          | with_reducible refine re_c ?_
          | with_reducible refine vz_c ?_
          | with_reducible refine rz_c ?_
          | exact trivial
          | with_reducible refine And.intro ?_ ?_
          | simp (disch := first | omega | assumption) only [ev_run_c, ev_run_n, ev_fj, ev_stp, ev_lk, ev_fv, ev_as, ev_sz, ev_st1, ev_st2, ev_rm, ev_pk, ev_Jof, ev_go, lv_args, List.map_cons, List.map_nil, List.zip_cons_cons, List.zip_nil_left, List.zip_nil_right, List.nil_append, List.cons_append, ↓reduceIte, reduceCtorEq, Int.reduceToNat, Nat.reduceEqDiff, Nat.reduceAdd, Nat.reduceLT, Nat.reduceLeDiff, Nat.reduceMul, Nat.reduceSub, Value.category, false_implies, true_and, and_true, Bool.false_eq_true, Option.some.injEq, exists_eq_left', Option.toList_some, Option.toList_none, ev_km, ev_k2, ev_k3, ev_k4, ev_k5, ev_l0, ev_l1, sh_1, sh_2, sh_3, sh_4, sh_5, at_X11_isWord_24, at_X11_isWord_26, at_X11_isWord_28, at_X11_isWord_57, at_X11_isWord_63, ca_X11_101, cd_X11_isWord_0, cd_X11_isWord_24, cd_X11_isWord_26, cd_X11_isWord_28, cd_X11_isWord_57, cd_X11_isWord_63, fl_X11_26, fl_X11_76, fl_X11_79, no_0, no_1, no_lt, no_le, no_eq, no_lt0, no_ge0, no_gt0, no_le0, no_eq0, no_0eq, no_eqm, no_meq, no_m0, no_mlt, no_mge, no_mgt, no_mm, no_i01, no_i10, no_in, no_or, no_ifm, no_mul, nI_add, no_sub, pk_div, iI_if, nI_clamp, oI_n, oI_s, not_true_eq_false, not_false_eq_true, forall_const, true_implies, false_and, and_false, or_false, false_or, Classical.not_not, true_or, or_true, no_b, no_eq1, eq_self, and_self, sk_301, sk_302, sl_302, sp_301, re_14, re_n, e7, sk_307, sl_307, sp_307]
          | exact rfl
          | (split <;> omega))
    have h21 : LTw G 21 ([0, 1].zip [.ref 301, .ref (340 + j)]) [.int (nI (ksL.getD j 0)), .int (nI (tln B n a))] (re B n e a v μ) x := by
      by_cases cT : tln B n a = ksL.getD j 0
      · have hn := loop cT _ 0 rfl (Nat.zero_le _) (fun i hi => absurd hi (Nat.not_lt_zero i))
        refine LT_run1 (n := 400) (okM_X11_isWord 0) hn ?_
        rw [show ev_at cd_X11_isWord 21 = (21, .if_icmp .eq 26) :: cd_X11_isWord_24 from rfl]
        repeat' (first
          | (with_reducible refine ev_rid ?_; simp (disch := first | omega | assumption) only [ev_run_c, ev_run_n, ev_fj, ev_stp, ev_lk, ev_fv, ev_as, ev_sz, ev_st1, ev_st2, ev_rm, ev_pk, ev_Jof, ev_go, lv_args, List.map_cons, List.map_nil, List.zip_cons_cons, List.zip_nil_left, List.zip_nil_right, List.nil_append, List.cons_append, ↓reduceIte, reduceCtorEq, Int.reduceToNat, Nat.reduceEqDiff, Nat.reduceAdd, Nat.reduceLT, Nat.reduceLeDiff, Nat.reduceMul, Nat.reduceSub, Value.category, false_implies, true_and, and_true, Bool.false_eq_true, Option.some.injEq, exists_eq_left', Option.toList_some, Option.toList_none, ev_km, ev_k2, ev_k3, ev_k4, ev_k5, ev_l0, ev_l1, sh_1, sh_2, sh_3, sh_4, sh_5, at_X11_isWord_24, at_X11_isWord_26, at_X11_isWord_28, at_X11_isWord_57, at_X11_isWord_63, ca_X11_101, cd_X11_isWord_0, cd_X11_isWord_24, cd_X11_isWord_26, cd_X11_isWord_28, cd_X11_isWord_57, cd_X11_isWord_63, fl_X11_26, fl_X11_76, fl_X11_79, no_0, no_1, no_lt, no_le, no_eq, no_lt0, no_ge0, no_gt0, no_le0, no_eq0, no_0eq, no_eqm, no_meq, no_m0, no_mlt, no_mge, no_mgt, no_mm, no_i01, no_i10, no_in, no_or, no_ifm, no_mul, nI_add, no_sub, pk_div, iI_if, nI_clamp, oI_n, oI_s, not_true_eq_false, not_false_eq_true, forall_const, true_implies, false_and, and_false, or_false, false_or, Classical.not_not, true_or, or_true, no_b, no_eq1, eq_self, and_self, sk_301, sk_302, sl_302, sp_301])
          | (with_reducible refine ev_gid ?_; simp (disch := first | omega | assumption) only [ev_run_c, ev_run_n, ev_fj, ev_stp, ev_lk, ev_fv, ev_as, ev_sz, ev_st1, ev_st2, ev_rm, ev_pk, ev_Jof, ev_go, lv_args, List.map_cons, List.map_nil, List.zip_cons_cons, List.zip_nil_left, List.zip_nil_right, List.nil_append, List.cons_append, ↓reduceIte, reduceCtorEq, Int.reduceToNat, Nat.reduceEqDiff, Nat.reduceAdd, Nat.reduceLT, Nat.reduceLeDiff, Nat.reduceMul, Nat.reduceSub, Value.category, false_implies, true_and, and_true, Bool.false_eq_true, Option.some.injEq, exists_eq_left', Option.toList_some, Option.toList_none, ev_km, ev_k2, ev_k3, ev_k4, ev_k5, ev_l0, ev_l1, sh_1, sh_2, sh_3, sh_4, sh_5, at_X11_isWord_24, at_X11_isWord_26, at_X11_isWord_28, at_X11_isWord_57, at_X11_isWord_63, ca_X11_101, cd_X11_isWord_0, cd_X11_isWord_24, cd_X11_isWord_26, cd_X11_isWord_28, cd_X11_isWord_57, cd_X11_isWord_63, fl_X11_26, fl_X11_76, fl_X11_79, no_0, no_1, no_lt, no_le, no_eq, no_lt0, no_ge0, no_gt0, no_le0, no_eq0, no_0eq, no_eqm, no_meq, no_m0, no_mlt, no_mge, no_mgt, no_mm, no_i01, no_i10, no_in, no_or, no_ifm, no_mul, nI_add, no_sub, pk_div, iI_if, nI_clamp, oI_n, oI_s, not_true_eq_false, not_false_eq_true, forall_const, true_implies, false_and, and_false, or_false, false_or, Classical.not_not, true_or, or_true, no_b, no_eq1, eq_self, and_self, sk_301, sk_302, sl_302, sp_301])
          | (with_reducible refine And.intro (fun q => ?_) (fun q => ?_) <;> (try simp (disch := first | omega | assumption) only [no_0, no_1, no_lt, no_le, no_eq, no_lt0, no_ge0, no_gt0, no_le0, no_eq0, no_0eq, no_eqm, no_meq, no_m0, no_mlt, no_mge, no_mgt, no_mm, no_i01, no_i10, no_in, no_or, no_ifm, no_mul, nI_add, no_sub, pk_div, iI_if, nI_clamp, oI_n, oI_s, not_true_eq_false, not_false_eq_true, forall_const, true_implies, false_and, and_false, or_false, false_or, Classical.not_not, true_or, or_true, no_b, no_eq1, eq_self, and_self, sk_301, sk_302, sl_302, sp_301] at q))
          | with_reducible refine ev_ci (m_is hok ?_ ?_) ?_
          | omega
          | with_reducible assumption
          | with_reducible rfl
          | with_reducible refine lp_nx ?_ ?_ ?_ ?_
          | with_reducible refine lp_st ?_ ?_ ?_
          | with_reducible refine ls_c ?_ ?_
          | with_reducible refine vi_c ?_
          | with_reducible refine re_c ?_
          | with_reducible refine vz_c ?_
          | with_reducible refine rz_c ?_
          | exact trivial
          | with_reducible refine And.intro ?_ ?_
          | simp (disch := first | omega | assumption) only [ev_run_c, ev_run_n, ev_fj, ev_stp, ev_lk, ev_fv, ev_as, ev_sz, ev_st1, ev_st2, ev_rm, ev_pk, ev_Jof, ev_go, lv_args, List.map_cons, List.map_nil, List.zip_cons_cons, List.zip_nil_left, List.zip_nil_right, List.nil_append, List.cons_append, ↓reduceIte, reduceCtorEq, Int.reduceToNat, Nat.reduceEqDiff, Nat.reduceAdd, Nat.reduceLT, Nat.reduceLeDiff, Nat.reduceMul, Nat.reduceSub, Value.category, false_implies, true_and, and_true, Bool.false_eq_true, Option.some.injEq, exists_eq_left', Option.toList_some, Option.toList_none, ev_km, ev_k2, ev_k3, ev_k4, ev_k5, ev_l0, ev_l1, sh_1, sh_2, sh_3, sh_4, sh_5, at_X11_isWord_24, at_X11_isWord_26, at_X11_isWord_28, at_X11_isWord_57, at_X11_isWord_63, ca_X11_101, cd_X11_isWord_0, cd_X11_isWord_24, cd_X11_isWord_26, cd_X11_isWord_28, cd_X11_isWord_57, cd_X11_isWord_63, fl_X11_26, fl_X11_76, fl_X11_79, no_0, no_1, no_lt, no_le, no_eq, no_lt0, no_ge0, no_gt0, no_le0, no_eq0, no_0eq, no_eqm, no_meq, no_m0, no_mlt, no_mge, no_mgt, no_mm, no_i01, no_i10, no_in, no_or, no_ifm, no_mul, nI_add, no_sub, pk_div, iI_if, nI_clamp, oI_n, oI_s, not_true_eq_false, not_false_eq_true, forall_const, true_implies, false_and, and_false, or_false, false_or, Classical.not_not, true_or, or_true, no_b, no_eq1, eq_self, and_self, sk_301, sk_302, sl_302, sp_301]
          | exact rfl
          | (split <;> omega))
      · have hx0 := x0 (fun q => cT q.1)
        subst hx0
        refine LT_run0 (n := 400) (okM_X11_isWord 0) ?_
        rw [show ev_at cd_X11_isWord 21 = (21, .if_icmp .eq 26) :: cd_X11_isWord_24 from rfl]
        repeat' (first
          | (with_reducible refine ev_rid ?_; simp (disch := first | omega | assumption) only [ev_run_c, ev_run_n, ev_fj, ev_stp, ev_lk, ev_fv, ev_as, ev_sz, ev_st1, ev_st2, ev_rm, ev_pk, ev_Jof, ev_go, lv_args, List.map_cons, List.map_nil, List.zip_cons_cons, List.zip_nil_left, List.zip_nil_right, List.nil_append, List.cons_append, ↓reduceIte, reduceCtorEq, Int.reduceToNat, Nat.reduceEqDiff, Nat.reduceAdd, Nat.reduceLT, Nat.reduceLeDiff, Nat.reduceMul, Nat.reduceSub, Value.category, false_implies, true_and, and_true, Bool.false_eq_true, Option.some.injEq, exists_eq_left', Option.toList_some, Option.toList_none, ev_km, ev_k2, ev_k3, ev_k4, ev_k5, ev_l0, ev_l1, sh_1, sh_2, sh_3, sh_4, sh_5, at_X11_isWord_24, at_X11_isWord_26, at_X11_isWord_28, at_X11_isWord_57, at_X11_isWord_63, ca_X11_101, cd_X11_isWord_0, cd_X11_isWord_24, cd_X11_isWord_26, cd_X11_isWord_28, cd_X11_isWord_57, cd_X11_isWord_63, fl_X11_26, fl_X11_76, fl_X11_79, no_0, no_1, no_lt, no_le, no_eq, no_lt0, no_ge0, no_gt0, no_le0, no_eq0, no_0eq, no_eqm, no_meq, no_m0, no_mlt, no_mge, no_mgt, no_mm, no_i01, no_i10, no_in, no_or, no_ifm, no_mul, nI_add, no_sub, pk_div, iI_if, nI_clamp, oI_n, oI_s, not_true_eq_false, not_false_eq_true, forall_const, true_implies, false_and, and_false, or_false, false_or, Classical.not_not, true_or, or_true, no_b, no_eq1, eq_self, and_self, sk_301, sk_302, sl_302, sp_301])
          | (with_reducible refine ev_gid ?_; simp (disch := first | omega | assumption) only [ev_run_c, ev_run_n, ev_fj, ev_stp, ev_lk, ev_fv, ev_as, ev_sz, ev_st1, ev_st2, ev_rm, ev_pk, ev_Jof, ev_go, lv_args, List.map_cons, List.map_nil, List.zip_cons_cons, List.zip_nil_left, List.zip_nil_right, List.nil_append, List.cons_append, ↓reduceIte, reduceCtorEq, Int.reduceToNat, Nat.reduceEqDiff, Nat.reduceAdd, Nat.reduceLT, Nat.reduceLeDiff, Nat.reduceMul, Nat.reduceSub, Value.category, false_implies, true_and, and_true, Bool.false_eq_true, Option.some.injEq, exists_eq_left', Option.toList_some, Option.toList_none, ev_km, ev_k2, ev_k3, ev_k4, ev_k5, ev_l0, ev_l1, sh_1, sh_2, sh_3, sh_4, sh_5, at_X11_isWord_24, at_X11_isWord_26, at_X11_isWord_28, at_X11_isWord_57, at_X11_isWord_63, ca_X11_101, cd_X11_isWord_0, cd_X11_isWord_24, cd_X11_isWord_26, cd_X11_isWord_28, cd_X11_isWord_57, cd_X11_isWord_63, fl_X11_26, fl_X11_76, fl_X11_79, no_0, no_1, no_lt, no_le, no_eq, no_lt0, no_ge0, no_gt0, no_le0, no_eq0, no_0eq, no_eqm, no_meq, no_m0, no_mlt, no_mge, no_mgt, no_mm, no_i01, no_i10, no_in, no_or, no_ifm, no_mul, nI_add, no_sub, pk_div, iI_if, nI_clamp, oI_n, oI_s, not_true_eq_false, not_false_eq_true, forall_const, true_implies, false_and, and_false, or_false, false_or, Classical.not_not, true_or, or_true, no_b, no_eq1, eq_self, and_self, sk_301, sk_302, sl_302, sp_301])
          | (with_reducible refine And.intro (fun q => ?_) (fun q => ?_) <;> (try simp (disch := first | omega | assumption) only [no_0, no_1, no_lt, no_le, no_eq, no_lt0, no_ge0, no_gt0, no_le0, no_eq0, no_0eq, no_eqm, no_meq, no_m0, no_mlt, no_mge, no_mgt, no_mm, no_i01, no_i10, no_in, no_or, no_ifm, no_mul, nI_add, no_sub, pk_div, iI_if, nI_clamp, oI_n, oI_s, not_true_eq_false, not_false_eq_true, forall_const, true_implies, false_and, and_false, or_false, false_or, Classical.not_not, true_or, or_true, no_b, no_eq1, eq_self, and_self, sk_301, sk_302, sl_302, sp_301] at q))
          | with_reducible refine ev_ci (m_is hok ?_ ?_) ?_
          | omega
          | with_reducible assumption
          | with_reducible rfl
          | with_reducible refine lp_nx ?_ ?_ ?_ ?_
          | with_reducible refine lp_st ?_ ?_ ?_
          | with_reducible refine ls_c ?_ ?_
          | with_reducible refine vi_c ?_
          | with_reducible refine re_c ?_
          | with_reducible refine vz_c ?_
          | with_reducible refine rz_c ?_
          | exact trivial
          | with_reducible refine And.intro ?_ ?_
          | simp (disch := first | omega | assumption) only [ev_run_c, ev_run_n, ev_fj, ev_stp, ev_lk, ev_fv, ev_as, ev_sz, ev_st1, ev_st2, ev_rm, ev_pk, ev_Jof, ev_go, lv_args, List.map_cons, List.map_nil, List.zip_cons_cons, List.zip_nil_left, List.zip_nil_right, List.nil_append, List.cons_append, ↓reduceIte, reduceCtorEq, Int.reduceToNat, Nat.reduceEqDiff, Nat.reduceAdd, Nat.reduceLT, Nat.reduceLeDiff, Nat.reduceMul, Nat.reduceSub, Value.category, false_implies, true_and, and_true, Bool.false_eq_true, Option.some.injEq, exists_eq_left', Option.toList_some, Option.toList_none, ev_km, ev_k2, ev_k3, ev_k4, ev_k5, ev_l0, ev_l1, sh_1, sh_2, sh_3, sh_4, sh_5, at_X11_isWord_24, at_X11_isWord_26, at_X11_isWord_28, at_X11_isWord_57, at_X11_isWord_63, ca_X11_101, cd_X11_isWord_0, cd_X11_isWord_24, cd_X11_isWord_26, cd_X11_isWord_28, cd_X11_isWord_57, cd_X11_isWord_63, fl_X11_26, fl_X11_76, fl_X11_79, no_0, no_1, no_lt, no_le, no_eq, no_lt0, no_ge0, no_gt0, no_le0, no_eq0, no_0eq, no_eqm, no_meq, no_m0, no_mlt, no_mge, no_mgt, no_mm, no_i01, no_i10, no_in, no_or, no_ifm, no_mul, nI_add, no_sub, pk_div, iI_if, nI_clamp, oI_n, oI_s, not_true_eq_false, not_false_eq_true, forall_const, true_implies, false_and, and_false, or_false, false_or, Classical.not_not, true_or, or_true, no_b, no_eq1, eq_self, and_self, sk_301, sk_302, sl_302, sp_301]
          | exact rfl
          | (split <;> omega))
    have h18 := LTw_len hok hks hj dW.2.2.1 h21
    refine LT_runS (n := 400) (okM_X11_isWord 0) h18 ?_
    rw [show ev_at cd_X11_isWord 0 = cd_X11_isWord_0 from rfl]
    repeat' (first
      | (with_reducible refine ev_rid ?_; simp (disch := first | omega | assumption) only [ev_run_c, ev_run_n, ev_fj, ev_stp, ev_lk, ev_fv, ev_as, ev_sz, ev_st1, ev_st2, ev_rm, ev_pk, ev_Jof, ev_go, lv_args, List.map_cons, List.map_nil, List.zip_cons_cons, List.zip_nil_left, List.zip_nil_right, List.nil_append, List.cons_append, ↓reduceIte, reduceCtorEq, Int.reduceToNat, Nat.reduceEqDiff, Nat.reduceAdd, Nat.reduceLT, Nat.reduceLeDiff, Nat.reduceMul, Nat.reduceSub, Value.category, false_implies, true_and, and_true, Bool.false_eq_true, Option.some.injEq, exists_eq_left', Option.toList_some, Option.toList_none, ev_km, ev_k2, ev_k3, ev_k4, ev_k5, ev_l0, ev_l1, sh_1, sh_2, sh_3, sh_4, sh_5, at_X11_isWord_24, at_X11_isWord_26, at_X11_isWord_28, at_X11_isWord_57, at_X11_isWord_63, ca_X11_101, cd_X11_isWord_0, cd_X11_isWord_24, cd_X11_isWord_26, cd_X11_isWord_28, cd_X11_isWord_57, cd_X11_isWord_63, fl_X11_26, fl_X11_76, fl_X11_79, no_0, no_1, no_lt, no_le, no_eq, no_lt0, no_ge0, no_gt0, no_le0, no_eq0, no_0eq, no_eqm, no_meq, no_m0, no_mlt, no_mge, no_mgt, no_mm, no_i01, no_i10, no_in, no_or, no_ifm, no_mul, nI_add, no_sub, pk_div, iI_if, nI_clamp, oI_n, oI_s, not_true_eq_false, not_false_eq_true, forall_const, true_implies, false_and, and_false, or_false, false_or, Classical.not_not, true_or, or_true, no_b, no_eq1, eq_self, and_self, sk_301, sk_302, sl_302, sp_301, re_13, re_14, e0, k3])
      | (with_reducible refine ev_gid ?_; simp (disch := first | omega | assumption) only [ev_run_c, ev_run_n, ev_fj, ev_stp, ev_lk, ev_fv, ev_as, ev_sz, ev_st1, ev_st2, ev_rm, ev_pk, ev_Jof, ev_go, lv_args, List.map_cons, List.map_nil, List.zip_cons_cons, List.zip_nil_left, List.zip_nil_right, List.nil_append, List.cons_append, ↓reduceIte, reduceCtorEq, Int.reduceToNat, Nat.reduceEqDiff, Nat.reduceAdd, Nat.reduceLT, Nat.reduceLeDiff, Nat.reduceMul, Nat.reduceSub, Value.category, false_implies, true_and, and_true, Bool.false_eq_true, Option.some.injEq, exists_eq_left', Option.toList_some, Option.toList_none, ev_km, ev_k2, ev_k3, ev_k4, ev_k5, ev_l0, ev_l1, sh_1, sh_2, sh_3, sh_4, sh_5, at_X11_isWord_24, at_X11_isWord_26, at_X11_isWord_28, at_X11_isWord_57, at_X11_isWord_63, ca_X11_101, cd_X11_isWord_0, cd_X11_isWord_24, cd_X11_isWord_26, cd_X11_isWord_28, cd_X11_isWord_57, cd_X11_isWord_63, fl_X11_26, fl_X11_76, fl_X11_79, no_0, no_1, no_lt, no_le, no_eq, no_lt0, no_ge0, no_gt0, no_le0, no_eq0, no_0eq, no_eqm, no_meq, no_m0, no_mlt, no_mge, no_mgt, no_mm, no_i01, no_i10, no_in, no_or, no_ifm, no_mul, nI_add, no_sub, pk_div, iI_if, nI_clamp, oI_n, oI_s, not_true_eq_false, not_false_eq_true, forall_const, true_implies, false_and, and_false, or_false, false_or, Classical.not_not, true_or, or_true, no_b, no_eq1, eq_self, and_self, sk_301, sk_302, sl_302, sp_301, re_13, re_14, e0, k3])
      | (with_reducible refine And.intro (fun q => ?_) (fun q => ?_) <;> (try simp (disch := first | omega | assumption) only [no_0, no_1, no_lt, no_le, no_eq, no_lt0, no_ge0, no_gt0, no_le0, no_eq0, no_0eq, no_eqm, no_meq, no_m0, no_mlt, no_mge, no_mgt, no_mm, no_i01, no_i10, no_in, no_or, no_ifm, no_mul, nI_add, no_sub, pk_div, iI_if, nI_clamp, oI_n, oI_s, not_true_eq_false, not_false_eq_true, forall_const, true_implies, false_and, and_false, or_false, false_or, Classical.not_not, true_or, or_true, no_b, no_eq1, eq_self, and_self, sk_301, sk_302, sl_302, sp_301, re_13, re_14, e0, k3] at q))
      | with_reducible refine ev_ci (m_is hok ?_ ?_) ?_
      | omega
      | with_reducible assumption
      | with_reducible rfl
      | with_reducible refine lp_nx ?_ ?_ ?_ ?_
      | with_reducible refine lp_st ?_ ?_ ?_
      | with_reducible refine ls_c ?_ ?_
      | with_reducible refine vi_c ?_
      | with_reducible refine re_c ?_
      | with_reducible refine vz_c ?_
      | with_reducible refine rz_c ?_
      | exact trivial
      | with_reducible refine And.intro ?_ ?_
      | simp (disch := first | omega | assumption) only [ev_run_c, ev_run_n, ev_fj, ev_stp, ev_lk, ev_fv, ev_as, ev_sz, ev_st1, ev_st2, ev_rm, ev_pk, ev_Jof, ev_go, lv_args, List.map_cons, List.map_nil, List.zip_cons_cons, List.zip_nil_left, List.zip_nil_right, List.nil_append, List.cons_append, ↓reduceIte, reduceCtorEq, Int.reduceToNat, Nat.reduceEqDiff, Nat.reduceAdd, Nat.reduceLT, Nat.reduceLeDiff, Nat.reduceMul, Nat.reduceSub, Value.category, false_implies, true_and, and_true, Bool.false_eq_true, Option.some.injEq, exists_eq_left', Option.toList_some, Option.toList_none, ev_km, ev_k2, ev_k3, ev_k4, ev_k5, ev_l0, ev_l1, sh_1, sh_2, sh_3, sh_4, sh_5, at_X11_isWord_24, at_X11_isWord_26, at_X11_isWord_28, at_X11_isWord_57, at_X11_isWord_63, ca_X11_101, cd_X11_isWord_0, cd_X11_isWord_24, cd_X11_isWord_26, cd_X11_isWord_28, cd_X11_isWord_57, cd_X11_isWord_63, fl_X11_26, fl_X11_76, fl_X11_79, no_0, no_1, no_lt, no_le, no_eq, no_lt0, no_ge0, no_gt0, no_le0, no_eq0, no_0eq, no_eqm, no_meq, no_m0, no_mlt, no_mge, no_mgt, no_mm, no_i01, no_i10, no_in, no_or, no_ifm, no_mul, nI_add, no_sub, pk_div, iI_if, nI_clamp, oI_n, oI_s, not_true_eq_false, not_false_eq_true, forall_const, true_implies, false_and, and_false, or_false, false_or, Classical.not_not, true_or, or_true, no_b, no_eq1, eq_self, and_self, sk_301, sk_302, sl_302, sp_301, re_13, re_14, e0, k3]
      | exact rfl
      | (split <;> omega))
  · rw [if_neg (fun q => c ⟨q.1, Classical.byContradiction (fun z => by have := h19 _ z rfl; omega)⟩)]
    refine LT_run0 (n := 400) (okM_X11_isWord 0) ?_
    rw [show ev_at cd_X11_isWord 0 = cd_X11_isWord_0 from rfl]
    repeat' (first
      | (with_reducible refine ev_rid ?_; simp (disch := first | omega | assumption) only [ev_run_c, ev_run_n, ev_fj, ev_stp, ev_lk, ev_fv, ev_as, ev_sz, ev_st1, ev_st2, ev_rm, ev_pk, ev_Jof, ev_go, lv_args, List.map_cons, List.map_nil, List.zip_cons_cons, List.zip_nil_left, List.zip_nil_right, List.nil_append, List.cons_append, ↓reduceIte, reduceCtorEq, Int.reduceToNat, Nat.reduceEqDiff, Nat.reduceAdd, Nat.reduceLT, Nat.reduceLeDiff, Nat.reduceMul, Nat.reduceSub, Value.category, false_implies, true_and, and_true, Bool.false_eq_true, Option.some.injEq, exists_eq_left', Option.toList_some, Option.toList_none, ev_km, ev_k2, ev_k3, ev_k4, ev_k5, ev_l0, ev_l1, sh_1, sh_2, sh_3, sh_4, sh_5, at_X11_isWord_24, at_X11_isWord_26, at_X11_isWord_28, at_X11_isWord_57, at_X11_isWord_63, ca_X11_101, cd_X11_isWord_0, cd_X11_isWord_24, cd_X11_isWord_26, cd_X11_isWord_28, cd_X11_isWord_57, cd_X11_isWord_63, fl_X11_26, fl_X11_76, fl_X11_79, no_0, no_1, no_lt, no_le, no_eq, no_lt0, no_ge0, no_gt0, no_le0, no_eq0, no_0eq, no_eqm, no_meq, no_m0, no_mlt, no_mge, no_mgt, no_mm, no_i01, no_i10, no_in, no_or, no_ifm, no_mul, nI_add, no_sub, pk_div, iI_if, nI_clamp, oI_n, oI_s, not_true_eq_false, not_false_eq_true, forall_const, true_implies, false_and, and_false, or_false, false_or, Classical.not_not, true_or, or_true, no_b, no_eq1, eq_self, and_self, sk_301, sk_302, sl_302, sp_301, re_13, re_14, e0, k3])
      | (with_reducible refine ev_gid ?_; simp (disch := first | omega | assumption) only [ev_run_c, ev_run_n, ev_fj, ev_stp, ev_lk, ev_fv, ev_as, ev_sz, ev_st1, ev_st2, ev_rm, ev_pk, ev_Jof, ev_go, lv_args, List.map_cons, List.map_nil, List.zip_cons_cons, List.zip_nil_left, List.zip_nil_right, List.nil_append, List.cons_append, ↓reduceIte, reduceCtorEq, Int.reduceToNat, Nat.reduceEqDiff, Nat.reduceAdd, Nat.reduceLT, Nat.reduceLeDiff, Nat.reduceMul, Nat.reduceSub, Value.category, false_implies, true_and, and_true, Bool.false_eq_true, Option.some.injEq, exists_eq_left', Option.toList_some, Option.toList_none, ev_km, ev_k2, ev_k3, ev_k4, ev_k5, ev_l0, ev_l1, sh_1, sh_2, sh_3, sh_4, sh_5, at_X11_isWord_24, at_X11_isWord_26, at_X11_isWord_28, at_X11_isWord_57, at_X11_isWord_63, ca_X11_101, cd_X11_isWord_0, cd_X11_isWord_24, cd_X11_isWord_26, cd_X11_isWord_28, cd_X11_isWord_57, cd_X11_isWord_63, fl_X11_26, fl_X11_76, fl_X11_79, no_0, no_1, no_lt, no_le, no_eq, no_lt0, no_ge0, no_gt0, no_le0, no_eq0, no_0eq, no_eqm, no_meq, no_m0, no_mlt, no_mge, no_mgt, no_mm, no_i01, no_i10, no_in, no_or, no_ifm, no_mul, nI_add, no_sub, pk_div, iI_if, nI_clamp, oI_n, oI_s, not_true_eq_false, not_false_eq_true, forall_const, true_implies, false_and, and_false, or_false, false_or, Classical.not_not, true_or, or_true, no_b, no_eq1, eq_self, and_self, sk_301, sk_302, sl_302, sp_301, re_13, re_14, e0, k3])
      | (with_reducible refine And.intro (fun q => ?_) (fun q => ?_) <;> (try simp (disch := first | omega | assumption) only [no_0, no_1, no_lt, no_le, no_eq, no_lt0, no_ge0, no_gt0, no_le0, no_eq0, no_0eq, no_eqm, no_meq, no_m0, no_mlt, no_mge, no_mgt, no_mm, no_i01, no_i10, no_in, no_or, no_ifm, no_mul, nI_add, no_sub, pk_div, iI_if, nI_clamp, oI_n, oI_s, not_true_eq_false, not_false_eq_true, forall_const, true_implies, false_and, and_false, or_false, false_or, Classical.not_not, true_or, or_true, no_b, no_eq1, eq_self, and_self, sk_301, sk_302, sl_302, sp_301, re_13, re_14, e0, k3] at q))
      | with_reducible refine ev_ci (m_is hok ?_ ?_) ?_
      | omega
      | with_reducible assumption
      | with_reducible rfl
      | with_reducible refine lp_nx ?_ ?_ ?_ ?_
      | with_reducible refine lp_st ?_ ?_ ?_
      | with_reducible refine ls_c ?_ ?_
      | with_reducible refine vi_c ?_
      | with_reducible refine re_c ?_
      | with_reducible refine vz_c ?_
      | with_reducible refine rz_c ?_
      | exact trivial
      | with_reducible refine And.intro ?_ ?_
      | simp (disch := first | omega | assumption) only [ev_run_c, ev_run_n, ev_fj, ev_stp, ev_lk, ev_fv, ev_as, ev_sz, ev_st1, ev_st2, ev_rm, ev_pk, ev_Jof, ev_go, lv_args, List.map_cons, List.map_nil, List.zip_cons_cons, List.zip_nil_left, List.zip_nil_right, List.nil_append, List.cons_append, ↓reduceIte, reduceCtorEq, Int.reduceToNat, Nat.reduceEqDiff, Nat.reduceAdd, Nat.reduceLT, Nat.reduceLeDiff, Nat.reduceMul, Nat.reduceSub, Value.category, false_implies, true_and, and_true, Bool.false_eq_true, Option.some.injEq, exists_eq_left', Option.toList_some, Option.toList_none, ev_km, ev_k2, ev_k3, ev_k4, ev_k5, ev_l0, ev_l1, sh_1, sh_2, sh_3, sh_4, sh_5, at_X11_isWord_24, at_X11_isWord_26, at_X11_isWord_28, at_X11_isWord_57, at_X11_isWord_63, ca_X11_101, cd_X11_isWord_0, cd_X11_isWord_24, cd_X11_isWord_26, cd_X11_isWord_28, cd_X11_isWord_57, cd_X11_isWord_63, fl_X11_26, fl_X11_76, fl_X11_79, no_0, no_1, no_lt, no_le, no_eq, no_lt0, no_ge0, no_gt0, no_le0, no_eq0, no_0eq, no_eqm, no_meq, no_m0, no_mlt, no_mge, no_mgt, no_mm, no_i01, no_i10, no_in, no_or, no_ifm, no_mul, nI_add, no_sub, pk_div, iI_if, nI_clamp, oI_n, oI_s, not_true_eq_false, not_false_eq_true, forall_const, true_implies, false_and, and_false, or_false, false_or, Classical.not_not, true_or, or_true, no_b, no_eq1, eq_self, and_self, sk_301, sk_302, sl_302, sp_301, re_13, re_14, e0, k3]
      | exact rfl
      | (split <;> omega))
end RWord
