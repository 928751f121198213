/-! ===== the law's body: one case ===== -/
section Cs
variable {G : ev_G} {μ μ1 μ' : ev_M}
theorem m_X11_thrown (hok : ev_ok sh_S G) : ev_T sh_S G mi_X11_thrown [.ref 301] μ (.inl (some (.int (μ.1 301 0)), μ)) := by
  refine ev_tri hok (okM_X11_thrown 0) (Nat.le_of_ble_eq_true rfl) 400 ?_
  rw [at_X11_thrown_0]
  repeat' (first
    | (with_reducible refine ev_rid ?_; simp (disch := first | omega | assumption) only [ev_run_c, ev_run_n, ev_fj, ev_stp, ev_lk, ev_fv, ev_as, ev_sz, ev_st1, ev_st2, ev_rm, ev_pk, ev_Jof, ev_go, lv_args, List.map_cons, List.map_nil, List.zip_cons_cons, List.zip_nil_left, List.zip_nil_right, List.nil_append, List.cons_append, ↓reduceIte, reduceCtorEq, Int.reduceToNat, Nat.reduceEqDiff, Nat.reduceAdd, Nat.reduceLT, Nat.reduceLeDiff, Nat.reduceMul, Nat.reduceSub, Value.category, false_implies, true_and, and_true, Bool.false_eq_true, Option.some.injEq, exists_eq_left', Option.toList_some, Option.toList_none, ev_km, ev_k2, ev_k3, ev_k4, ev_k5, ev_l0, ev_l1, sh_1, sh_2, sh_3, sh_4, sh_5, cd_X11_thrown_0, fl_X11_40, no_0, no_1, no_lt, no_le, no_eq, no_lt0, no_ge0, no_gt0, no_le0, no_eq0, no_0eq, no_eqm, no_meq, no_m0, no_mlt, no_mge, no_mgt, no_mm, no_i01, no_i10, no_in, no_or, no_ifm, no_mul, nI_add, no_sub, pk_div, iI_if, nI_clamp, oI_n, oI_s, not_true_eq_false, not_false_eq_true, forall_const, true_implies, false_and, and_false, or_false, false_or, Classical.not_not, true_or, or_true, no_b, no_eq1, eq_self, and_self, sk_301, sk_302, sl_302, sp_301])
    | (with_reducible refine ev_gid ?_; simp (disch := first | omega | assumption) only [ev_run_c, ev_run_n, ev_fj, ev_stp, ev_lk, ev_fv, ev_as, ev_sz, ev_st1, ev_st2, ev_rm, ev_pk, ev_Jof, ev_go, lv_args, List.map_cons, List.map_nil, List.zip_cons_cons, List.zip_nil_left, List.zip_nil_right, List.nil_append, List.cons_append, ↓reduceIte, reduceCtorEq, Int.reduceToNat, Nat.reduceEqDiff, Nat.reduceAdd, Nat.reduceLT, Nat.reduceLeDiff, Nat.reduceMul, Nat.reduceSub, Value.category, false_implies, true_and, and_true, Bool.false_eq_true, Option.some.injEq, exists_eq_left', Option.toList_some, Option.toList_none, ev_km, ev_k2, ev_k3, ev_k4, ev_k5, ev_l0, ev_l1, sh_1, sh_2, sh_3, sh_4, sh_5, cd_X11_thrown_0, fl_X11_40, no_0, no_1, no_lt, no_le, no_eq, no_lt0, no_ge0, no_gt0, no_le0, no_eq0, no_0eq, no_eqm, no_meq, no_m0, no_mlt, no_mge, no_mgt, no_mm, no_i01, no_i10, no_in, no_or, no_ifm, no_mul, nI_add, no_sub, pk_div, iI_if, nI_clamp, oI_n, oI_s, not_true_eq_false, not_false_eq_true, forall_const, true_implies, false_and, and_false, or_false, false_or, Classical.not_not, true_or, or_true, no_b, no_eq1, eq_self, and_self, sk_301, sk_302, sl_302, sp_301])
    | (with_reducible refine And.intro (fun q => ?_) (fun q => ?_) <;> (try simp (disch := first | omega | assumption) only [no_0, no_1, no_lt, no_le, no_eq, no_lt0, no_ge0, no_gt0, no_le0, no_eq0, no_0eq, no_eqm, no_meq, no_m0, no_mlt, no_mge, no_mgt, no_mm, no_i01, no_i10, no_in, no_or, no_ifm, no_mul, nI_add, no_sub, pk_div, iI_if, nI_clamp, oI_n, oI_s, not_true_eq_false, not_false_eq_true, forall_const, true_implies, false_and, and_false, or_false, false_or, Classical.not_not, true_or, or_true, no_b, no_eq1, eq_self, and_self, sk_301, sk_302, sl_302, sp_301] at q))
    | omega
    | with_reducible assumption
    | with_reducible rfl
    | with_reducible refine lp_nx ?_ ?_ ?_ ?_
    | with_reducible refine lp_st ?_ ?_ ?_
    | with_reducible refine ls_c ?_ ?_
    | with_reducible refine vi_c ?_
    | with_reducible refine re_c ?_
    | with_reducible refine vz_c ?_
    | with_reducible refine rz_c ?_
    | exact trivial
    | with_reducible refine And.intro ?_ ?_
    | simp (disch := first | omega | assumption) only [ev_run_c, ev_run_n, ev_fj, ev_stp, ev_lk, ev_fv, ev_as, ev_sz, ev_st1, ev_st2, ev_rm, ev_pk, ev_Jof, ev_go, lv_args, List.map_cons, List.map_nil, List.zip_cons_cons, List.zip_nil_left, List.zip_nil_right, List.nil_append, List.cons_append, ↓reduceIte, reduceCtorEq, Int.reduceToNat, Nat.reduceEqDiff, Nat.reduceAdd, Nat.reduceLT, Nat.reduceLeDiff, Nat.reduceMul, Nat.reduceSub, Value.category, false_implies, true_and, and_true, Bool.false_eq_true, Option.some.injEq, exists_eq_left', Option.toList_some, Option.toList_none, ev_km, ev_k2, ev_k3, ev_k4, ev_k5, ev_l0, ev_l1, sh_1, sh_2, sh_3, sh_4, sh_5, cd_X11_thrown_0, fl_X11_40, no_0, no_1, no_lt, no_le, no_eq, no_lt0, no_ge0, no_gt0, no_le0, no_eq0, no_0eq, no_eqm, no_meq, no_m0, no_mlt, no_mge, no_mgt, no_mm, no_i01, no_i10, no_in, no_or, no_ifm, no_mul, nI_add, no_sub, pk_div, iI_if, nI_clamp, oI_n, oI_s, not_true_eq_false, not_false_eq_true, forall_const, true_implies, false_and, and_false, or_false, false_or, Classical.not_not, true_or, or_true, no_b, no_eq1, eq_self, and_self, sk_301, sk_302, sl_302, sp_301]
    | exact rfl
    | (split <;> omega))
theorem fp_nn {x : UInt64} (h : vf_n64 x) : FP.dcmp x x = some .eq := by
  have hx : x.toNat % 9223372036854775808 ≤ 9218868437227405312 := by
    unfold vf_n64 at h
    have h1 : (x &&& 0x7fffffffffffffff).toNat ≤ (0x7ff0000000000000 : UInt64).toNat := UInt64.le_iff_toNat_le.mp h
    rw [UInt64.toNat_and] at h1
    have e1 : (0x7fffffffffffffff : UInt64).toNat = 2 ^ 63 - 1 := by decide
    have e2 : (0x7ff0000000000000 : UInt64).toNat = 9218868437227405312 := by decide
    rw [e1, e2, Nat.and_two_pow_sub_one_eq_mod] at h1
    exact h1
  have hd : Jvm.FP.Core.decode Jvm.FP.Core.b64 x.toNat ≠ .nan := by
    show (if x.toNat / 4503599627370496 % 2048 = 2048 - 1 then (if x.toNat % 4503599627370496 = 0 then Jvm.FP.Core.Datum.inf (Jvm.FP.Core.fieldS Jvm.FP.Core.b64 x.toNat) else .nan) else if x.toNat / 4503599627370496 % 2048 = 0 then .fin (Jvm.FP.Core.fieldS Jvm.FP.Core.b64 x.toNat) (x.toNat % 4503599627370496) (Jvm.FP.Core.Fmt.qmin Jvm.FP.Core.b64) else .fin (Jvm.FP.Core.fieldS Jvm.FP.Core.b64 x.toNat) (4503599627370496 + x.toNat % 4503599627370496) (Jvm.FP.Core.Fmt.qmin Jvm.FP.Core.b64 + (((x.toNat / 4503599627370496 % 2048 : Nat) : Int) - 1))) ≠ .nan
    split
    · split
      · exact fun q => by cases q
      · omega
    · split <;> exact fun q => by cases q
  show Jvm.FP.Core.order (Jvm.FP.Core.decode Jvm.FP.Core.b64 x.toNat) (Jvm.FP.Core.decode Jvm.FP.Core.b64 x.toNat) = some .eq
  have hc : ∀ a : Int, compare a a = .eq := fun a => by simp [compare, compareOfLessAndEq]
  generalize Jvm.FP.Core.decode Jvm.FP.Core.b64 x.toNat = d at hd
  cases d with
  | nan => exact absurd rfl hd
  | inf => exact congrArg some (hc _)
  | fin => exact congrArg some (hc _)
theorem fp_nc {x : UInt64} (h : vf_n64 x) (op : CmpOp) : Op.cmpValue (FP.dcmp x x) op = 0 := by rw [fp_nn h]; rfl
variable {p : Program} {e : Env} {s : State} {m : MethodId} {below : List Frame} {meth : Method} {c : Code} {b L : Nat} {xs : Nat → Int32} {Q : State → Prop} {k pc i : Nat} {l : List (Nat × Value)} {st : List Value}
/-- what the words say of a helper, of a reference's method, of the class's own -/
def lw_hw (n na : Nat) (yh : ev_Mi) (hh : List (Nat × Nat × Nat × Nat)) : Prop := Cond.methodLink RL n yh.1 ∈ ev_wd ∧ Cond.static yh.1 ∈ ev_wd ∧ Cond.codeWith yh.1 yh.2.1 yh.2.2.1 yh.2.2.2.1 hh ∈ ev_wd ∧ Cond.initialized yh.1.cls ∈ ev_wd ∧ (yh.1.cls ≠ "java/lang/invoke/MethodHandle" ∧ yh.1.cls ≠ "java/lang/invoke/VarHandle" ∧ (parseMethodDescriptor yh.1.desc).map (fun d => d.parameters.length) = some na) ∧ yh.2.2.1 ≤ 20 ∧ yh.2.2.2.2 ≤ 100
def lw_mw (C : String) (n na : Nat) (ym : ev_Mi) : Prop := eh_ok RL n na ym ∧ Cond.instanceMethod ym.1 ∈ ev_wd ∧ Cond.selects C ym.1 ym.1 ∈ ev_wd ∧ ym.2.2.2.2 ≤ 100
theorem LW_m (hB : lw_B G p s m c b L xs) {n na : Nat} {ym : ev_Mi} (hw : lw_mw RX11 n na ym) {As : List Value} (hlen : As.length = na) (hsz : ev_sz st ≤ 8) {v : Value} (hT : ev_T sh_S G ym (.ref 301 :: As) μ (.inl (some v, μ1))) (hd : decode code pc = .ok (.invokevirtual n, 3)) (hk : k < 600)
    (h : LW G p e s m below meth c b Q k (pc + 3) l (v :: st) μ1) : LW G p e s m below meth c b Q k pc l (As.reverse ++ .ref 301 :: st) μ :=
  LW_call hB hw.1 hw.2.1 hw.2.2.1 (r := 301) (ci := 9) (by decide +kernel) sk_301 (by decide) (rfl : vwCl[9]? = some (RX11, TX11, 21)) hlen hsz hw.2.2.2 hT hd h hk
theorem LW_x (hB : lw_B G p s m c b L xs) {n na : Nat} {ym : ev_Mi} (hw : lw_mw RX10 n na ym) {As : List Value} (hlen : As.length = na) (hsz : ev_sz st ≤ 8) {v : Value} (hT : ev_T sh_S G ym (.ref 0 :: As) μ (.inl (some v, μ1))) (hd : decode code pc = .ok (.invokevirtual n, 3)) (hk : k < 600)
    (h : LW G p e s m below meth c b Q k (pc + 3) l (v :: st) μ1) : LW G p e s m below meth c b Q k pc l (As.reverse ++ .ref 0 :: st) μ :=
  LW_call hB hw.1 hw.2.1 hw.2.2.1 (r := 0) (ci := 8) (by decide +kernel) sk_0 (by decide) (rfl : vwCl[8]? = some (RX10, TX10, 7)) hlen hsz hw.2.2.2 hT hd h hk
theorem LW_hp (hB : lw_B G p s m c b L xs) {n na : Nat} {yh : ev_Mi} {hh : List (Nat × Nat × Nat × Nat)} (hw : lw_hw n na yh hh) {As : List Value} (hlen : As.length = na) {x : Int32} (hT : hb_T G yh hh As μ x μ1) (hd : decode code pc = .ok (.invokestatic n, 3)) (hk : k < 600)
    (h : LW G p e s m below meth c b Q (k + 1) (pc + 3) l [.int x] μ1) : LW G p e s m below meth c b Q k pc l As.reverse μ :=
  LW_help hB hw.1 hw.2.1 hw.2.2.1 hw.2.2.2.1 hw.2.2.2.2.1 hlen hw.2.2.2.2.2 hT hd h hk
/-- behind both calls: what was thrown is one, and so are the answers -/
def lw_th (t : Nat) (j : Int) : List (Nat × Instr × Nat) := [(t, .aload_n 2, 1), (t + 1, .invokevirtual 206, 3), (t + 4, .iload 6, 2), (t + 6, .if_icmp .eq 5, 3), (t + 11, .iload 6, 2), (t + 13, .ifCond .ne j, 3)]
def lw_tI (t : Nat) (off : Int) : List (Nat × Instr × Nat) := [(t + 16, .aload_n 3, 1), (t + 17, .iconst 0, 1), (t + 18, .laload, 1), (t + 19, .iload 7, 2), (t + 21, .i2l, 1), (t + 22, .lcmp, 1), (t + 23, .ifCond .eq 5, 3), (t + 28, .goto off, 3)]
def lw_tZ (t : Nat) (off : Int) : List (Nat × Instr × Nat) := [(t + 16, .aload_n 3, 1), (t + 17, .iconst 0, 1), (t + 18, .laload, 1), (t + 19, .iload 7, 2), (t + 21, .ifCond .eq 7, 3), (t + 24, .lconst 1, 1), (t + 25, .goto 4, 3), (t + 28, .lconst 0, 1), (t + 29, .lcmp, 1), (t + 30, .ifCond .eq 5, 3), (t + 35, .goto off, 3)]
theorem LW_th (hB : lw_B G p s m c b L xs) (hw : lw_mw RX11 206 0 mi_X11_thrown) {t : Nat} {j : Int} {t2 : Nat} (hd : lw_okd (lw_th t j) = true) (hl9 : lw_lk l i) {n : Int32} (h6 : ev_lk l 6 = some (.int n)) (hn : μ.1 301 0 = n) (hj : ((t + 13 : Nat) : Int) + j = (t2 : Int)) (hk : k < 600) (h1 : ¬ n = 0 → LW G p e s m below meth c b Q k t2 l [] μ) (h2 : n = 0 → LW G p e s m below meth c b Q k (t + 16) l [] μ) : LW G p e s m below meth c b Q k t l [] μ := by
  refine LW_al hB (lw_d hd 0 rfl) hl9.2.2.1 ?_
  refine LW_m (As := []) (st := []) hB hw rfl (by decide) (m_X11_thrown hB.1) (lw_d hd 1 rfl) hk ?_
  refine LW_il hB (lw_d hd 2 rfl) h6 ?_
  refine LW_ce (t := t + 11) hB (lw_d hd 3 rfl) (by omega) hn ?_
  refine LW_il hB (lw_d hd 4 rfl) h6 ?_
  exact LW_in hB (lw_d hd 5 rfl) hj h1 h2
theorem LW_tI (hB : lw_B G p s m c b L xs) (hw : lw_mw RX11 206 0 mi_X11_thrown) {t : Nat} {off : Int} (hd : lw_okd (lw_th t 15 ++ lw_tI t off) = true) (hl9 : lw_lk l i) {n v : Int32} (h6 : ev_lk l 6 = some (.int n)) (h7 : ev_lk l 7 = some (.int v)) (hn : μ.1 301 0 = n) (hv : n = 0 → μ.2.1 310 0 = fI v) (ht : ((t + 28 : Nat) : Int) + off = 3700) (hk : k < 600) (h : LW G p e s m below meth c b Q k 3700 l [] μ) : LW G p e s m below meth c b Q k t l [] μ := by
  have hd2 := lw_okd_2 hd
  have hg : LW G p e s m below meth c b Q k (t + 28) l [] μ := LW_gt hB (lw_d hd2 7 rfl) ht h
  refine LW_th (t2 := t + 28) hB hw (lw_okd_1 hd) hl9 h6 hn (by omega) hk (fun _ => hg) (fun z => ?_)
  refine LW_al hB (lw_d hd2 0 rfl) hl9.2.2.2.1 ?_
  refine LW_ic (v := 0) hB (lw_d hd2 1 rfl) rfl ?_
  refine LW_ll hB (lw_d hd2 2 rfl) ?_
  refine LW_il hB (lw_d hd2 3 rfl) h7 ?_
  refine LW_i2l hB (lw_d hd2 4 rfl) ?_
  refine LW_lcm hB (lw_d hd2 5 rfl) ?_
  refine LW_ie (t := t + 28) hB (lw_d hd2 6 rfl) (by omega) (fun _ => hg) (fun q => absurd ((lg_cmp_eq _ _).mpr (hv z)) q)
theorem LW_tZ (hB : lw_B G p s m c b L xs) (hw : lw_mw RX11 206 0 mi_X11_thrown) {t : Nat} {off : Int} (hd : lw_okd (lw_th t 22 ++ lw_tZ t off) = true) (hl9 : lw_lk l i) {n v : Int32} (h6 : ev_lk l 6 = some (.int n)) (h7 : ev_lk l 7 = some (.int v)) (hn : μ.1 301 0 = n) (hv : n = 0 → μ.2.1 310 0 = fZ v) (ht : ((t + 35 : Nat) : Int) + off = 3700) (hk : k < 600) (h : LW G p e s m below meth c b Q k 3700 l [] μ) : LW G p e s m below meth c b Q k t l [] μ := by
  have hd2 := lw_okd_2 hd
  have hg : LW G p e s m below meth c b Q k (t + 35) l [] μ := LW_gt hB (lw_d hd2 10 rfl) ht h
  refine LW_th (t2 := t + 35) hB hw (lw_okd_1 hd) hl9 h6 hn (by omega) hk (fun _ => hg) (fun z => ?_)
  refine LW_al hB (lw_d hd2 0 rfl) hl9.2.2.2.1 ?_
  refine LW_ic (v := 0) hB (lw_d hd2 1 rfl) rfl ?_
  refine LW_ll hB (lw_d hd2 2 rfl) ?_
  refine LW_il hB (lw_d hd2 3 rfl) h7 ?_
  have fin : ∀ w : Int64, fZ v = w → LW G p e s m below meth c b Q k (t + 29) l [.long w, .long (μ.2.1 310 0)] μ := fun w hw9 => by
    refine LW_lcm hB (lw_d hd2 8 rfl) ?_
    exact LW_ie (t := t + 35) hB (lw_d hd2 9 rfl) (by omega) (fun _ => hg) (fun q => absurd ((lg_cmp_eq _ _).mpr ((hv z).trans hw9)) q)
  refine LW_ie (t := t + 28) hB (lw_d hd2 4 rfl) (by omega) (fun q => ?_) (fun q => ?_)
  · exact LW_lc (v := 0) hB (lw_d hd2 7 rfl) rfl (fin 0 (if_pos q))
  · refine LW_lc (v := 1) hB (lw_d hd2 5 rfl) rfl ?_
    exact LW_gt (t := t + 29) hB (lw_d hd2 6 rfl) (by omega) (fin 1 (if_neg q))
/-- a case with a helper: p0, the numbers' rows, the row between the calls, behind the second -/
def lw_A (p0 : Nat) : List (Nat × Instr × Nat) := [(p0, .aload_n 1, 1)]
def lw_M (q ih : Nat) : List (Nat × Instr × Nat) := [(q, .aload_n 3, 1), (q + 1, .invokestatic ih, 3), (q + 4, .istore 6, 2), (q + 6, .aload_n 2, 1)]
def lw_R (r im : Nat) : List (Nat × Instr × Nat) := [(r, .invokevirtual im, 3), (r + 3, .istore 7, 2)]
/-- the numbers are laid on the stack -/
def lw_pu (G : ev_G) (p : Program) (e : Env) (s : State) (m : MethodId) (below : List Frame) (meth : Method) (c : Code) (b : Nat) (Q : State → Prop) (i t w : Nat) (As : List Value) : Prop := ∀ (k : Nat) (l : List (Nat × Value)) (st : List Value) (μ : ev_M), lw_lk l i → LW G p e s m below meth c b Q k (t + w) l (As.reverse ++ st) μ → LW G p e s m below meth c b Q k t l st μ
theorem LW_pu (hB : lw_B G p s m c b L xs) (hi : i + 5 < L) {n t : Nat} (hd : lw_okd (lw_ap t n 1) = true) (hn : n ≤ 5) : lw_pu G p e s m below meth c b Q i t (6 * n) (lw_av xs i 1 n) := fun _ _ _ _ hl9 h => LW_ap hB hl9 hi n t 1 _ hd (by omega) h
theorem lw_lk6 {n : Int32} : lw_lk (ev_st1 (lw_l i) 6 (.int n)) i := ⟨rfl, rfl, rfl, rfl, rfl, rfl⟩
theorem lw_lk7 {n v : Int32} : lw_lk (ev_st1 (ev_st1 (lw_l i) 6 (.int n)) 7 (.int v)) i := ⟨rfl, rfl, rfl, rfl, rfl, rfl⟩
theorem lw_s7 {n v : Int32} : ∀ q ∈ lw_l i, q ∈ ev_st1 (ev_st1 (lw_l i) 6 (.int n)) 7 (.int v) := fun q hq => List.mem_cons_of_mem _ (List.mem_cons_of_mem _ hq)
/-- up to the answers -/
theorem LW_c0 (hB : lw_B G p s m c b L xs) {p0 w ih im na : Nat} {As : List Value} {yh ym : ev_Mi} {hh : List (Nat × Nat × Nat × Nat)} (hp1 : lw_pu G p e s m below meth c b Q i (p0 + 1) w As) (hp2 : lw_pu G p e s m below meth c b Q i (p0 + 1 + w + 7) w As) (hA : lw_okd (lw_A p0) = true) (hM : lw_okd (lw_M (p0 + 1 + w) ih) = true) (hR : lw_okd (lw_R (p0 + 1 + w + 7 + w) im) = true)
    (hwh : lw_hw ih (na + 2) yh hh) (hwm : lw_mw RX11 im na ym) (hlen : As.length = na) {n v : Int32} {μ2 : ev_M} (hT : hb_T G yh hh (.ref 0 :: As ++ [.ref 310]) μ n μ1) (hT2 : ev_T sh_S G ym (.ref 301 :: As) μ1 (.inl (some (.int v), μ2))) (hk : k < 599)
    (h : LW G p e s m below meth c b Q (k + 1) (p0 + 1 + w + 7 + w + 5) (ev_st1 (ev_st1 (lw_l i) 6 (.int n)) 7 (.int v)) [] μ2) : LW G p e s m below meth c b Q k p0 (lw_l i) [] μ := by
  refine LW_al hB (lw_d hA 0 rfl) (a := 0) rfl ?_
  refine hp1 _ _ _ _ lw_lk0 ?_
  refine LW_al hB (lw_d hM 0 rfl) (a := 310) rfl ?_
  have e1 : (Value.ref 310 :: (As.reverse ++ [Value.ref 0])) = (Value.ref 0 :: As ++ [Value.ref 310]).reverse := by simp
  rw [e1]
  refine LW_hp hB hwh (by simp [hlen]) hT (lw_d hM 1 rfl) (by omega) ?_
  refine LW_is hB (lw_d hM 2 rfl) (by decide) ?_
  refine LW_al hB (lw_d hM 3 rfl) (a := 301) rfl ?_
  refine hp2 _ _ _ _ lw_lk6 ?_
  refine LW_m hB hwm hlen (by decide) hT2 (lw_d hR 0 rfl) (by omega) ?_
  exact LW_is hB (lw_d hR 1 rfl) (by decide) h
theorem LW_cI (hB : lw_B G p s m c b L xs) {p0 w ih im na : Nat} {As : List Value} {yh ym : ev_Mi} {hh : List (Nat × Nat × Nat × Nat)} {off : Int} (hp1 : lw_pu G p e s m below meth c b Q i (p0 + 1) w As) (hp2 : lw_pu G p e s m below meth c b Q i (p0 + 1 + w + 7) w As) (hd : lw_okd (lw_A p0 ++ (lw_M (p0 + 1 + w) ih ++ (lw_R (p0 + 1 + w + 7 + w) im ++ (lw_th (p0 + 1 + w + 7 + w + 5) 15 ++ lw_tI (p0 + 1 + w + 7 + w + 5) off)))) = true)
    (hwt : lw_mw RX11 206 0 mi_X11_thrown) (hwh : lw_hw ih (na + 2) yh hh) (hwm : lw_mw RX11 im na ym) (hlen : As.length = na) (hst : stq G yh hh ym As fI μ) (ht : ((p0 + 1 + w + 7 + w + 5 + 28 : Nat) : Int) + off = 3700) (hk : k < 599)
    (h : ∀ (σ : ev_A) (μ2 : ev_M), Bo σ μ2 → LW G p e s m below meth c b Q (k + 1) 3700 (lw_l i) [] μ2) : LW G p e s m below meth c b Q k p0 (lw_l i) [] μ := by
  obtain ⟨n, v, μ1, μ2, σ', a1, a2, a3, a4, a5⟩ := hst
  refine LW_c0 hB hp1 hp2 (lw_okd_1 hd) (lw_okd_1 (lw_okd_2 hd)) (lw_okd_1 (lw_okd_2 (lw_okd_2 hd))) hwh hwm hlen a1 a2 hk ?_
  exact LW_tI hB hwt (lw_okd_2 (lw_okd_2 (lw_okd_2 hd))) lw_lk7 rfl rfl a3 a4 ht (by omega) (LW_sub lw_s7 (h σ' μ2 a5))
theorem LW_cZ (hB : lw_B G p s m c b L xs) {p0 w ih im na : Nat} {As : List Value} {yh ym : ev_Mi} {hh : List (Nat × Nat × Nat × Nat)} {off : Int} (hp1 : lw_pu G p e s m below meth c b Q i (p0 + 1) w As) (hp2 : lw_pu G p e s m below meth c b Q i (p0 + 1 + w + 7) w As) (hd : lw_okd (lw_A p0 ++ (lw_M (p0 + 1 + w) ih ++ (lw_R (p0 + 1 + w + 7 + w) im ++ (lw_th (p0 + 1 + w + 7 + w + 5) 22 ++ lw_tZ (p0 + 1 + w + 7 + w + 5) off)))) = true)
    (hwt : lw_mw RX11 206 0 mi_X11_thrown) (hwh : lw_hw ih (na + 2) yh hh) (hwm : lw_mw RX11 im na ym) (hlen : As.length = na) (hst : stq G yh hh ym As fZ μ) (ht : ((p0 + 1 + w + 7 + w + 5 + 35 : Nat) : Int) + off = 3700) (hk : k < 599)
    (h : ∀ (σ : ev_A) (μ2 : ev_M), Bo σ μ2 → LW G p e s m below meth c b Q (k + 1) 3700 (lw_l i) [] μ2) : LW G p e s m below meth c b Q k p0 (lw_l i) [] μ := by
  obtain ⟨n, v, μ1, μ2, σ', a1, a2, a3, a4, a5⟩ := hst
  refine LW_c0 hB hp1 hp2 (lw_okd_1 hd) (lw_okd_1 (lw_okd_2 hd)) (lw_okd_1 (lw_okd_2 (lw_okd_2 hd))) hwh hwm hlen a1 a2 hk ?_
  exact LW_tZ hB hwt (lw_okd_2 (lw_okd_2 (lw_okd_2 hd))) lw_lk7 rfl rfl a3 a4 ht (by omega) (LW_sub lw_s7 (h σ' μ2 a5))
/-- a case without a helper -/
def lw_D (q ix : Nat) : List (Nat × Instr × Nat) := [(q, .invokevirtual ix, 3), (q + 3, .aload_n 2, 1)]
def lw_F (r im : Nat) (off : Int) : List (Nat × Instr × Nat) := [(r, .invokevirtual im, 3), (r + 3, .if_icmp .eq off, 3)]
theorem LW_cP (hB : lw_B G p s m c b L xs) {p0 w ix im na : Nat} {As : List Value} {yx ym : ev_Mi} {off : Int} (hp1 : lw_pu G p e s m below meth c b Q i (p0 + 1) w As) (hp2 : lw_pu G p e s m below meth c b Q i (p0 + 1 + w + 4) w As) (hd : lw_okd (lw_A p0 ++ (lw_D (p0 + 1 + w) ix ++ lw_F (p0 + 1 + w + 4 + w) im off)) = true)
    (hwx : lw_mw RX10 ix na yx) (hwm : lw_mw RX11 im na ym) (hlen : As.length = na) (hst : stp0 G yx ym As μ) (ht : ((p0 + 1 + w + 4 + w + 3 : Nat) : Int) + off = 3700) (hk : k < 599)
    (h : ∀ (σ : ev_A) (μ2 : ev_M), Bo σ μ2 → LW G p e s m below meth c b Q (k + 1) 3700 (lw_l i) [] μ2) : LW G p e s m below meth c b Q k p0 (lw_l i) [] μ := by
  obtain ⟨v, μ1, μ2, σ', a1, a2, a5⟩ := hst
  have hA := lw_okd_1 hd
  have hD := lw_okd_1 (lw_okd_2 hd)
  have hF := lw_okd_2 (lw_okd_2 hd)
  refine LW_al hB (lw_d hA 0 rfl) (a := 0) rfl ?_
  refine hp1 _ _ _ _ lw_lk0 ?_
  refine LW_x hB hwx hlen (by decide) a1 (lw_d hD 0 rfl) (by omega) ?_
  refine LW_al hB (lw_d hD 1 rfl) (a := 301) rfl ?_
  refine hp2 _ _ _ _ lw_lk0 ?_
  refine LW_m hB hwm hlen (by show (1 : Nat) + 0 ≤ 8; omega) a2 (lw_d hF 0 rfl) (by omega) ?_
  exact LW_ce hB (lw_d hF 1 rfl) ht rfl (LW_k (Nat.le_succ k) (h σ' μ2 a5))
end Cs
