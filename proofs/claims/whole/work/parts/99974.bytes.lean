/-! ===== bytes out of numbers; append ===== -/
section Bytes
variable {G : ev_G} {N : Nat → Nat} {B : Nat → Nat} {n : Nat} {μ μ' : ev_M} {σ : ev_A}
/-- byte k of a number -/
def bt (v : Int32) (k : Nat) : Nat := v.toBitVec.toNat / 2 ^ (8 * k) % 256
theorem bt_lt (v : Int32) (k : Nat) : bt v k < 256 := Nat.mod_lt _ (by decide)
theorem by_1 {v : Int32} {k : Nat} (hk : k < 4) : ((v.toUInt32 >>> ((nI (8 * k)).toUInt32 &&& Int32.toUInt32 31)).toInt32 &&& nI 255) = nI (bt v k) := by
  have e2 : ((nI (8 * k)).toUInt32 &&& Int32.toUInt32 31).toNat % 32 = 8 * k := by
    rcases (show k = 0 ∨ k = 1 ∨ k = 2 ∨ k = 3 by omega) with rfl | rfl | rfl | rfl <;> decide
  have e4 : v.toBitVec.toNat / 2 ^ (8 * k) < 2 ^ 32 := Nat.lt_of_le_of_lt (Nat.div_le_self _ _) v.toBitVec.isLt
  have e : (v.toUInt32 >>> ((nI (8 * k)).toUInt32 &&& Int32.toUInt32 31)) = UInt32.ofNat (v.toBitVec.toNat / 2 ^ (8 * k)) := by
    apply UInt32.toNat_inj.1
    rw [UInt32.toNat_shiftRight, e2, Nat.shiftRight_eq_div_pow, UInt32.toNat_ofNat_of_lt' e4]
    rfl
  rw [e]
  apply Int32.toBitVec_inj.1
  show BitVec.ofNat 32 (v.toBitVec.toNat / 2 ^ (8 * k)) &&& BitVec.ofNat 32 255 = BitVec.ofNat 32 (v.toBitVec.toNat / 2 ^ (8 * k) % 256)
  rw [← BitVec.ofNat_and]
  congr 1
  exact Nat.and_two_pow_sub_one_eq_mod _ 8
theorem sr_toInt {v : Int32} {k : Nat} (hk : k < 4) : (v >>> (nI (8 * k) &&& 31)).toInt = v.toInt / 2 ^ (8 * k) := by
  have e2 : ((nI (8 * k) &&& 31 : Int32).toBitVec.smod 32).toNat = 8 * k := by
    rcases (show k = 0 ∨ k = 1 ∨ k = 2 ∨ k = 3 by omega) with rfl | rfl | rfl | rfl <;> decide
  show (BitVec.sshiftRight v.toBitVec ((nI (8 * k) &&& 31 : Int32).toBitVec.smod 32).toNat).toInt = _
  rw [e2, BitVec.toInt_sshiftRight, Int.shiftRight_eq_div_pow]
  rfl
theorem by_2 {v : Int32} {k : Nat} (hk : k < 4) : (v >>> (nI (8 * k) &&& 31)).toInt8.toInt32 = sb (bt v k) := by
  have hb := bt_lt v k
  have hv : v.toInt = if 2 * v.toBitVec.toNat < 2 ^ 32 then (v.toBitVec.toNat : Int) else (v.toBitVec.toNat : Int) - ((2 ^ 32 : Nat) : Int) := BitVec.toInt_eq_toNat_cond v.toBitVec
  have hl := v.toBitVec.isLt
  apply Int32.toInt_inj.mp
  rw [Int8.toInt_toInt32, Int32.toInt_toInt8, sr_toInt hk]
  have e3 : (sb (bt v k)).toInt = if bt v k < 128 then (bt v k : Int) else (bt v k : Int) - 256 := by
    unfold sb
    split
    · exact nI_toInt (by omega)
    · exact iI_toInt (by omega)
  rw [e3, hv]
  unfold bt
  generalize v.toBitVec.toNat = V at hl
  rcases (show k = 0 ∨ k = 1 ∨ k = 2 ∨ k = 3 by omega) with rfl | rfl | rfl | rfl <;> simp only [Int.bmod, Nat.reduceMul, Nat.reducePow, Int.reducePow] <;> (repeat' split) <;> omega
/-- four bytes more -/
def apB (b : Nat → Nat) (n : Nat) (v : Int32) : Nat → Nat := fun i => if n ≤ i ∧ i < n + 4 then bt v (3 - (i - n)) else b i
theorem apB_n {b : Nat → Nat} {n i : Nat} {v : Int32} (h : ¬ (n ≤ i ∧ i < n + 4)) : apB b n v i = b i := if_neg h
theorem apB_y {b : Nat → Nat} {n k : Nat} {v : Int32} (h : k < 4) : apB b n v (n + k) = bt v (3 - k) := by
  show (if n ≤ n + k ∧ n + k < n + 4 then bt v (3 - (n + k - n)) else b (n + k)) = _
  rw [if_pos (by omega), Nat.add_sub_cancel_left]
theorem apB_lt {b : Nat → Nat} {n : Nat} {v : Int32} (h : ∀ i, b i < 256) (i : Nat) : apB b n v i < 256 := by
  unfold apB
  split
  · exact bt_lt _ _
  · exact h i
/-- what append does -/
def s_append (σ : ev_A) (a b c d e : Int32) : Nat × Int32 × ev_A := if 480 < aBn σ then (0, -1, σ) else (0, nI (aBn σ + 20), (aN σ, aE σ, aH σ, aK σ, aV σ, aS σ, apB (apB (apB (apB (apB (aB σ) (aBn σ) a) (aBn σ + 4) b) (aBn σ + 8) c) (aBn σ + 12) d) (aBn σ + 16) e, aBn σ + 20, aPc σ, aPa σ, aG σ, aGn σ))
theorem OKA_append (hA : OKA σ) (a b c d e : Int32) : OKA (s_append σ a b c d e).2.2 := by
  obtain ⟨h1, h2, h3, h4, h5, h6, h7, h8, h9, h10, h11⟩ := hA
  unfold s_append
  by_cases z : 480 < aBn σ
  · rw [if_pos z]; exact ⟨h1, h2, h3, h4, h5, h6, h7, h8, h9, h10, h11⟩
  · rw [if_neg z]
    exact ⟨h1, h2, h3, h4, h5, h6, (show aBn σ + 20 ≤ 500 by omega), apB_lt (apB_lt (apB_lt (apB_lt (apB_lt h8)))), h9, h10, h11⟩
theorem m_add1 (hok : ev_ok sh_S G) {n v : Nat} (hn : n < 500) (h : μ.1 1 1 = nI n) : ev_T sh_S G mi_X1_add [.ref 1, .int (nI v)] μ (.inl (none, w1 (w1 μ 2 n (nI v)) 1 1 (nI (n + 1)))) := by
  obtain ⟨h1, h2, h3, h4, h5, h6⟩ := OW_1
  have e1 : ∀ x, (w1 μ 2 n x).1 1 1 = nI n := fun x => by rw [w1_n (by omega), h]
  refine ev_tri hok okM_X1_add (Nat.le_of_ble_eq_true rfl) 400 ?_
  rw [at_X1_add_0]
  repeat' (first
    | (with_reducible refine ev_rid ?_; simp (disch := first | omega | assumption) only [ev_run_c, ev_run_n, ev_fj, ev_stp, ev_lk, ev_fv, ev_as, ev_sz, ev_st1, ev_st2, ev_rm, ev_pk, ev_Jof, ev_go, lv_args, List.map_cons, List.map_nil, List.zip_cons_cons, List.zip_nil_left, List.zip_nil_right, List.nil_append, List.cons_append, ↓reduceIte, reduceCtorEq, Int.reduceToNat, Nat.reduceEqDiff, Nat.reduceAdd, Nat.reduceLT, Nat.reduceLeDiff, Nat.reduceMul, Nat.reduceSub, Value.category, false_implies, true_and, and_true, Bool.false_eq_true, Option.some.injEq, exists_eq_left', Option.toList_some, Option.toList_none, ev_km, ev_k2, ev_k3, ev_k4, ev_k5, ev_l0, ev_l1, sh_1, sh_2, sh_3, sh_4, sh_5, at_X1_add_34, ca_X1_29, cd_X1_add_0, cd_X1_add_34, fl_X1_13, fl_X1_19, no_0, no_1, no_lt, no_le, no_eq, no_lt0, no_ge0, no_gt0, no_le0, no_eq0, no_0eq, no_eqm, no_meq, no_m0, no_mlt, no_mge, no_mgt, no_mm, no_i01, no_i10, no_in, no_or, no_ifm, no_mul, nI_add, no_sub, pk_div, iI_if, nI_clamp, oI_n, oI_s, not_true_eq_false, not_false_eq_true, forall_const, true_implies, false_and, and_false, or_false, false_or, Classical.not_not, true_or, or_true, no_b, no_eq1, eq_self, and_self, no_on, h1, h2, h3, h4, h, w1_d, e1])
    | (with_reducible refine ev_gid ?_; simp (disch := first | omega | assumption) only [ev_run_c, ev_run_n, ev_fj, ev_stp, ev_lk, ev_fv, ev_as, ev_sz, ev_st1, ev_st2, ev_rm, ev_pk, ev_Jof, ev_go, lv_args, List.map_cons, List.map_nil, List.zip_cons_cons, List.zip_nil_left, List.zip_nil_right, List.nil_append, List.cons_append, ↓reduceIte, reduceCtorEq, Int.reduceToNat, Nat.reduceEqDiff, Nat.reduceAdd, Nat.reduceLT, Nat.reduceLeDiff, Nat.reduceMul, Nat.reduceSub, Value.category, false_implies, true_and, and_true, Bool.false_eq_true, Option.some.injEq, exists_eq_left', Option.toList_some, Option.toList_none, ev_km, ev_k2, ev_k3, ev_k4, ev_k5, ev_l0, ev_l1, sh_1, sh_2, sh_3, sh_4, sh_5, at_X1_add_34, ca_X1_29, cd_X1_add_0, cd_X1_add_34, fl_X1_13, fl_X1_19, no_0, no_1, no_lt, no_le, no_eq, no_lt0, no_ge0, no_gt0, no_le0, no_eq0, no_0eq, no_eqm, no_meq, no_m0, no_mlt, no_mge, no_mgt, no_mm, no_i01, no_i10, no_in, no_or, no_ifm, no_mul, nI_add, no_sub, pk_div, iI_if, nI_clamp, oI_n, oI_s, not_true_eq_false, not_false_eq_true, forall_const, true_implies, false_and, and_false, or_false, false_or, Classical.not_not, true_or, or_true, no_b, no_eq1, eq_self, and_self, no_on, h1, h2, h3, h4, h, w1_d, e1])
    | (with_reducible refine And.intro (fun q => ?_) (fun q => ?_) <;> (try simp (disch := first | omega | assumption) only [no_0, no_1, no_lt, no_le, no_eq, no_lt0, no_ge0, no_gt0, no_le0, no_eq0, no_0eq, no_eqm, no_meq, no_m0, no_mlt, no_mge, no_mgt, no_mm, no_i01, no_i10, no_in, no_or, no_ifm, no_mul, nI_add, no_sub, pk_div, iI_if, nI_clamp, oI_n, oI_s, not_true_eq_false, not_false_eq_true, forall_const, true_implies, false_and, and_false, or_false, false_or, Classical.not_not, true_or, or_true, no_b, no_eq1, eq_self, and_self, no_on, h1, h2, h3, h4, h, w1_d, e1] at q))
    | with_reducible refine ev_ci (m_X10_setCell hok ?_ ?_ ?_ ?_ _) ?_
    | omega
    | with_reducible assumption
    | with_reducible rfl
    | (refine Nat.lt_of_lt_of_le ?_ (Nat.le_refl 312); omega)
    | with_reducible refine lp_nx ?_ ?_ ?_ ?_
    | with_reducible refine lp_st ?_ ?_ ?_
    | with_reducible refine ls_c ?_ ?_
    | with_reducible refine vi_c ?_
    | with_reducible refine re_c ?_
    | with_reducible refine vz_c ?_
    | with_reducible refine rz_c ?_
    | exact trivial
    | with_reducible refine And.intro ?_ ?_
    | simp (disch := first | omega | assumption) only [ev_run_c, ev_run_n, ev_fj, ev_stp, ev_lk, ev_fv, ev_as, ev_sz, ev_st1, ev_st2, ev_rm, ev_pk, ev_Jof, ev_go, lv_args, List.map_cons, List.map_nil, List.zip_cons_cons, List.zip_nil_left, List.zip_nil_right, List.nil_append, List.cons_append, ↓reduceIte, reduceCtorEq, Int.reduceToNat, Nat.reduceEqDiff, Nat.reduceAdd, Nat.reduceLT, Nat.reduceLeDiff, Nat.reduceMul, Nat.reduceSub, Value.category, false_implies, true_and, and_true, Bool.false_eq_true, Option.some.injEq, exists_eq_left', Option.toList_some, Option.toList_none, ev_km, ev_k2, ev_k3, ev_k4, ev_k5, ev_l0, ev_l1, sh_1, sh_2, sh_3, sh_4, sh_5, at_X1_add_34, ca_X1_29, cd_X1_add_0, cd_X1_add_34, fl_X1_13, fl_X1_19, no_0, no_1, no_lt, no_le, no_eq, no_lt0, no_ge0, no_gt0, no_le0, no_eq0, no_0eq, no_eqm, no_meq, no_m0, no_mlt, no_mge, no_mgt, no_mm, no_i01, no_i10, no_in, no_or, no_ifm, no_mul, nI_add, no_sub, pk_div, iI_if, nI_clamp, oI_n, oI_s, not_true_eq_false, not_false_eq_true, forall_const, true_implies, false_and, and_false, or_false, false_or, Classical.not_not, true_or, or_true, no_b, no_eq1, eq_self, and_self, no_on, h1, h2, h3, h4, h, w1_d, e1]
    | exact rfl
    | (split <;> omega))
/-- only the input changes -/
def FI (μ μ' : ev_M) : Prop := (∀ a k, a ≠ 2 → ¬ (a = 1 ∧ k = 1) → μ'.1 a k = μ.1 a k) ∧ μ'.2 = μ.2
theorem FI_tr {μ'' : ev_M} (h : FI μ μ') (h2 : FI μ' μ'') : FI μ μ'' := ⟨fun a k h3 h4 => (h2.1 a k h3 h4).trans (h.1 a k h3 h4), h2.2.trans h.2⟩
set_option maxRecDepth 20000 in
theorem m_X1_four (hok : ev_ok sh_S G) {n : Nat} (hn : n + 4 ≤ 500) (h : μ.1 1 1 = nI n) (h2 : ∀ i, i < n → μ.1 2 i = nI (B i)) (v : Int32) : ∃ μ', ev_T sh_S G mi_X1_addFourBytes [.ref 1, .int v] μ (.inl (none, μ')) ∧ μ'.1 1 1 = nI (n + 4) ∧ (∀ i, i < n + 4 → μ'.1 2 i = nI (apB B n v i)) ∧ FI μ μ' := by
  have b3 := by_1 (v := v) (k := 3) (by omega)
  have b2 := by_1 (v := v) (k := 2) (by omega)
  have b1 := by_1 (v := v) (k := 1) (by omega)
  have b0 := by_1 (v := v) (k := 0) (by omega)
  rw [show 8 * 3 = 24 from rfl] at b3
  rw [show 8 * 2 = 16 from rfl] at b2
  rw [show 8 * 1 = 8 from rfl] at b1
  rw [show 8 * 0 = 0 from rfl] at b0
  have s1 : nI 24 + (-8) = nI 16 := by decide
  have s2 : nI 16 + (-8) = nI 8 := by decide
  have s3 : nI 8 + (-8) = nI 0 := by decide
  have s4 : nI 0 + (-8) = -8 := by decide
  have s5 : ((-8 : Int32) < 0) = True := by decide
  have k1 : ev_kd sh_S 1 = 0 := by decide +kernel
  have a3 := m_add1 (μ := μ) (v := bt v 3) hok (by omega) h
  obtain ⟨μ1, e1⟩ : ∃ μ1, w1 (w1 μ 2 n (nI (bt v 3))) 1 1 (nI (n + 1)) = μ1 := ⟨_, rfl⟩
  have g1 : μ1.1 1 1 = nI (n + 1) := by rw [← e1, w1_s]
  have a2 := m_add1 (μ := μ1) (v := bt v 2) hok (by omega) g1
  obtain ⟨μ2, e2⟩ : ∃ μ2, w1 (w1 μ1 2 (n + 1) (nI (bt v 2))) 1 1 (nI (n + 1 + 1)) = μ2 := ⟨_, rfl⟩
  have g2 : μ2.1 1 1 = nI (n + 1 + 1) := by rw [← e2, w1_s]
  have a1 := m_add1 (μ := μ2) (v := bt v 1) hok (by omega) g2
  obtain ⟨μ3, e3⟩ : ∃ μ3, w1 (w1 μ2 2 (n + 1 + 1) (nI (bt v 1))) 1 1 (nI (n + 1 + 1 + 1)) = μ3 := ⟨_, rfl⟩
  have g3 : μ3.1 1 1 = nI (n + 1 + 1 + 1) := by rw [← e3, w1_s]
  have a0 := m_add1 (μ := μ3) (v := bt v 0) hok (by omega) g3
  obtain ⟨μ4, e4⟩ : ∃ μ4, w1 (w1 μ3 2 (n + 1 + 1 + 1) (nI (bt v 0))) 1 1 (nI (n + 1 + 1 + 1 + 1)) = μ4 := ⟨_, rfl⟩
  rw [e1] at a3
  rw [e2] at a2
  rw [e3] at a1
  rw [e4] at a0
  refine ⟨μ4, ?_, by rw [← e4, w1_s], fun i hi => ?_, fun a k ha hb => ?_, by rw [← e4, ← e3, ← e2, ← e1]; rfl⟩
  · refine ev_tri hok okM_X1_addFourBytes (Nat.le_of_ble_eq_true rfl) 400 ?_
    rw [at_X1_addFourBytes_0]
    repeat' (first
      | (with_reducible refine ev_rid ?_; simp (disch := first | omega | assumption) only [ev_run_c, ev_run_n, ev_fj, ev_stp, ev_lk, ev_fv, ev_as, ev_sz, ev_st1, ev_st2, ev_rm, ev_pk, ev_Jof, ev_go, lv_args, List.map_cons, List.map_nil, List.zip_cons_cons, List.zip_nil_left, List.zip_nil_right, List.nil_append, List.cons_append, ↓reduceIte, reduceCtorEq, Int.reduceToNat, Nat.reduceEqDiff, Nat.reduceAdd, Nat.reduceLT, Nat.reduceLeDiff, Nat.reduceMul, Nat.reduceSub, Value.category, false_implies, true_and, and_true, Bool.false_eq_true, Option.some.injEq, exists_eq_left', Option.toList_some, Option.toList_none, ev_km, ev_k2, ev_k3, ev_k4, ev_k5, ev_l0, ev_l1, sh_1, sh_2, sh_3, sh_4, sh_5, at_X1_addFourBytes_24, at_X1_addFourBytes_3, ca_X1_33, cd_X1_addFourBytes_0, cd_X1_addFourBytes_24, cd_X1_addFourBytes_3, ev_b_24, ev_h_255, ev_i_m8, no_0, no_1, no_lt, no_le, no_eq, no_lt0, no_ge0, no_gt0, no_le0, no_eq0, no_0eq, no_eqm, no_meq, no_m0, no_mlt, no_mge, no_mgt, no_mm, no_i01, no_i10, no_in, no_or, no_ifm, no_mul, nI_add, no_sub, pk_div, iI_if, nI_clamp, oI_n, oI_s, not_true_eq_false, not_false_eq_true, forall_const, true_implies, false_and, and_false, or_false, false_or, Classical.not_not, true_or, or_true, no_b, no_eq1, eq_self, and_self, no_on, k1, b3, b2, b1, b0, s1, s2, s3, s4, s5])
      | (with_reducible refine ev_gid ?_; simp (disch := first | omega | assumption) only [ev_run_c, ev_run_n, ev_fj, ev_stp, ev_lk, ev_fv, ev_as, ev_sz, ev_st1, ev_st2, ev_rm, ev_pk, ev_Jof, ev_go, lv_args, List.map_cons, List.map_nil, List.zip_cons_cons, List.zip_nil_left, List.zip_nil_right, List.nil_append, List.cons_append, ↓reduceIte, reduceCtorEq, Int.reduceToNat, Nat.reduceEqDiff, Nat.reduceAdd, Nat.reduceLT, Nat.reduceLeDiff, Nat.reduceMul, Nat.reduceSub, Value.category, false_implies, true_and, and_true, Bool.false_eq_true, Option.some.injEq, exists_eq_left', Option.toList_some, Option.toList_none, ev_km, ev_k2, ev_k3, ev_k4, ev_k5, ev_l0, ev_l1, sh_1, sh_2, sh_3, sh_4, sh_5, at_X1_addFourBytes_24, at_X1_addFourBytes_3, ca_X1_33, cd_X1_addFourBytes_0, cd_X1_addFourBytes_24, cd_X1_addFourBytes_3, ev_b_24, ev_h_255, ev_i_m8, no_0, no_1, no_lt, no_le, no_eq, no_lt0, no_ge0, no_gt0, no_le0, no_eq0, no_0eq, no_eqm, no_meq, no_m0, no_mlt, no_mge, no_mgt, no_mm, no_i01, no_i10, no_in, no_or, no_ifm, no_mul, nI_add, no_sub, pk_div, iI_if, nI_clamp, oI_n, oI_s, not_true_eq_false, not_false_eq_true, forall_const, true_implies, false_and, and_false, or_false, false_or, Classical.not_not, true_or, or_true, no_b, no_eq1, eq_self, and_self, no_on, k1, b3, b2, b1, b0, s1, s2, s3, s4, s5])
      | (with_reducible refine And.intro (fun q => ?_) (fun q => ?_) <;> (try simp (disch := first | omega | assumption) only [no_0, no_1, no_lt, no_le, no_eq, no_lt0, no_ge0, no_gt0, no_le0, no_eq0, no_0eq, no_eqm, no_meq, no_m0, no_mlt, no_mge, no_mgt, no_mm, no_i01, no_i10, no_in, no_or, no_ifm, no_mul, nI_add, no_sub, pk_div, iI_if, nI_clamp, oI_n, oI_s, not_true_eq_false, not_false_eq_true, forall_const, true_implies, false_and, and_false, or_false, false_or, Classical.not_not, true_or, or_true, no_b, no_eq1, eq_self, and_self, no_on, k1, b3, b2, b1, b0, s1, s2, s3, s4, s5] at q))
      | (with_reducible refine ev_ci a3 ?_)
      | (with_reducible refine ev_ci a2 ?_)
      | (with_reducible refine ev_ci a1 ?_)
      | (with_reducible refine ev_ci a0 ?_)
      | with_reducible refine ev_ci (m_X1_add hok ha ?_) ?_
      | omega
      | with_reducible assumption
      | with_reducible rfl
      | (refine Nat.lt_of_lt_of_le ?_ (Nat.le_refl 312); omega)
      | with_reducible refine lp_nx ?_ ?_ ?_ ?_
      | with_reducible refine lp_st ?_ ?_ ?_
      | with_reducible refine ls_c ?_ ?_
      | with_reducible refine vi_c ?_
      | with_reducible refine re_c ?_
      | with_reducible refine vz_c ?_
      | with_reducible refine rz_c ?_
      | exact trivial
      | with_reducible refine And.intro ?_ ?_
      | simp (disch := first | omega | assumption) only [ev_run_c, ev_run_n, ev_fj, ev_stp, ev_lk, ev_fv, ev_as, ev_sz, ev_st1, ev_st2, ev_rm, ev_pk, ev_Jof, ev_go, lv_args, List.map_cons, List.map_nil, List.zip_cons_cons, List.zip_nil_left, List.zip_nil_right, List.nil_append, List.cons_append, ↓reduceIte, reduceCtorEq, Int.reduceToNat, Nat.reduceEqDiff, Nat.reduceAdd, Nat.reduceLT, Nat.reduceLeDiff, Nat.reduceMul, Nat.reduceSub, Value.category, false_implies, true_and, and_true, Bool.false_eq_true, Option.some.injEq, exists_eq_left', Option.toList_some, Option.toList_none, ev_km, ev_k2, ev_k3, ev_k4, ev_k5, ev_l0, ev_l1, sh_1, sh_2, sh_3, sh_4, sh_5, at_X1_addFourBytes_24, at_X1_addFourBytes_3, ca_X1_33, cd_X1_addFourBytes_0, cd_X1_addFourBytes_24, cd_X1_addFourBytes_3, ev_b_24, ev_h_255, ev_i_m8, no_0, no_1, no_lt, no_le, no_eq, no_lt0, no_ge0, no_gt0, no_le0, no_eq0, no_0eq, no_eqm, no_meq, no_m0, no_mlt, no_mge, no_mgt, no_mm, no_i01, no_i10, no_in, no_or, no_ifm, no_mul, nI_add, no_sub, pk_div, iI_if, nI_clamp, oI_n, oI_s, not_true_eq_false, not_false_eq_true, forall_const, true_implies, false_and, and_false, or_false, false_or, Classical.not_not, true_or, or_true, no_b, no_eq1, eq_self, and_self, no_on, k1, b3, b2, b1, b0, s1, s2, s3, s4, s5]
      | exact rfl
      | (split <;> omega))
  · rw [← e4, w1_n (by omega)]
    by_cases c3 : i = n + 3
    · subst c3
      rw [show n + 1 + 1 + 1 = n + 3 from rfl, w1_s, apB_y (by omega)]
    · rw [w1_n (by omega), ← e3, w1_n (by omega)]
      by_cases c2 : i = n + 2
      · subst c2
        rw [show n + 1 + 1 = n + 2 from rfl, w1_s, apB_y (by omega)]
      · rw [w1_n (by omega), ← e2, w1_n (by omega)]
        by_cases c1 : i = n + 1
        · subst c1
          rw [w1_s, apB_y (by omega)]
        · rw [w1_n (by omega), ← e1, w1_n (by omega)]
          by_cases c0 : i = n
          · subst c0
            have := apB_y (b := B) (n := i) (v := v) (k := 0) (by omega)
            rw [Nat.add_zero] at this
            rw [w1_s, this]
          · rw [w1_n (by omega), apB_n (by omega)]
            exact h2 i (by omega)
  · rw [← e4, w1_n hb, w1_n (by omega), ← e3, w1_n hb, w1_n (by omega), ← e2, w1_n hb, w1_n (by omega), ← e1, w1_n hb, w1_n (by omega)]
theorem XS_in {B' : Nat → Nat} {n' : Nat} (h : XS σ μ) (hk : aK σ ≤ 8) (hf : FI μ μ') (h1 : μ'.1 1 1 = nI n') (h2 : ∀ i, i < n' → μ'.1 2 i = nI (B' i)) : XS (aN σ, aE σ, aH σ, aK σ, aV σ, aS σ, B', n', aPc σ, aPa σ, aG σ, aGn σ) μ' := by
  obtain ⟨⟨x1, x2⟩, ⟨x3, x4, x5, x6, x7⟩, x8, x9⟩ := id h
  have za : ∀ a k, 3 ≤ a → μ'.1 a k = μ.1 a k := fun a k ha => hf.1 a k (by omega) (by omega)
  have zr : μ'.2.2 = μ.2.2 := by rw [hf.2]
  have fr : ∀ b N', 3 ≤ b → PR b N' μ → PR b N' μ' := fun b N' hb hP => PR_fr hP (fun a k ha _ => za a k (by omega)) (fun k => by rw [hf.2])
  have z3 : ∀ x, hx μ' x = hx μ x := hx_c (za 78 1 (by omega)) (fun x => by rw [zr])
  refine ⟨⟨fr 34 _ (by omega) x1, (za 34 0 (by omega)).trans x2⟩, ⟨⟨fun i hi => ?_, fun i j hi hj hij => ?_, hl_c x3.2.2 (za 78 1 (by omega))⟩, (za 78 2 (by omega)).trans x4, fun i hi => ?_, fun i hi => ?_, x7⟩, fun s hs => ⟨?_, (za _ 0 (by omega)).trans (x8 s hs).2.1, fun hv => fr _ _ (by omega) ((x8 s hs).2.2 hv)⟩, ⟨h1, h2⟩, ⟨(za 5 1 (by omega)).trans x9.2.1.1, (za 5 2 (by omega)).trans x9.2.1.2⟩, ⟨(za 3 1 (by omega)).trans x9.2.2.1.1, fun i hi => (za 4 i (by omega)).trans (x9.2.2.1.2 i hi)⟩, ?_⟩
  · rw [z3]; exact x3.1 i hi
  · rw [z3, z3]; exact x3.2.1 i j hi hj hij
  · have g := x3.1 i hi
    rw [z3, za _ _ (by omega)]; exact x5 i hi
  · have hi8 : i < 8 := Nat.lt_of_lt_of_le hi hk
    have g := x3.1 i hi8
    rw [z3, za _ _ (by omega)]
    exact ⟨fr _ _ (by omega) (x6 i hi).1, (x6 i hi).2⟩
  · rw [zr]; exact (x8 s hs).1
  · rw [za 6 0 (by omega)]; exact x9.2.2.2
set_option maxRecDepth 20000 in
theorem x_X10_append (hok : ev_ok sh_S G) (h : XS σ μ) (hA : OKA σ) (a b c d e : Int32) : x_res mi_X10_append [.ref 0, .int a, .int b, .int c, .int d, .int e] μ G (s_append σ a b c d e) := by
  have hb5 : aBn σ ≤ 500 := hA.2.2.2.2.2.2.1
  have hs := h.2.2.2.1.1
  unfold s_append
  by_cases z : 480 < aBn σ
  · rw [if_pos z]
    refine ⟨μ, ?_, h, Fc_rf⟩
    rw [xR_0]
    refine ev_tri hok okM_X10_append (Nat.le_of_ble_eq_true rfl) 400 ?_
    rw [at_X10_append_0]
    repeat' (first
      | (with_reducible refine ev_rid ?_; simp (disch := first | omega | assumption) only [ev_run_c, ev_run_n, ev_fj, ev_stp, ev_lk, ev_fv, ev_as, ev_sz, ev_st1, ev_st2, ev_rm, ev_pk, ev_Jof, ev_go, lv_args, List.map_cons, List.map_nil, List.zip_cons_cons, List.zip_nil_left, List.zip_nil_right, List.nil_append, List.cons_append, ↓reduceIte, reduceCtorEq, Int.reduceToNat, Nat.reduceEqDiff, Nat.reduceAdd, Nat.reduceLT, Nat.reduceLeDiff, Nat.reduceMul, Nat.reduceSub, Value.category, false_implies, true_and, and_true, Bool.false_eq_true, Option.some.injEq, exists_eq_left', Option.toList_some, Option.toList_none, ev_km, ev_k2, ev_k3, ev_k4, ev_k5, ev_l0, ev_l1, sh_1, sh_2, sh_3, sh_4, sh_5, at_X10_append_18, ca_X10_53, cd_X10_append_0, cd_X10_append_18, fl_X10_14, fl_X10_49, ev_b_20, ev_h_500, no_0, no_1, no_lt, no_le, no_eq, no_lt0, no_ge0, no_gt0, no_le0, no_eq0, no_0eq, no_eqm, no_meq, no_m0, no_mlt, no_mge, no_mgt, no_mm, no_i01, no_i10, no_in, no_or, no_ifm, no_mul, nI_add, no_sub, pk_div, iI_if, nI_clamp, oI_n, oI_s, not_true_eq_false, not_false_eq_true, forall_const, true_implies, false_and, and_false, or_false, false_or, Classical.not_not, true_or, or_true, no_b, no_eq1, eq_self, and_self, no_on, sk_0, hq_0, hs_1, hs])
      | (with_reducible refine ev_gid ?_; simp (disch := first | omega | assumption) only [ev_run_c, ev_run_n, ev_fj, ev_stp, ev_lk, ev_fv, ev_as, ev_sz, ev_st1, ev_st2, ev_rm, ev_pk, ev_Jof, ev_go, lv_args, List.map_cons, List.map_nil, List.zip_cons_cons, List.zip_nil_left, List.zip_nil_right, List.nil_append, List.cons_append, ↓reduceIte, reduceCtorEq, Int.reduceToNat, Nat.reduceEqDiff, Nat.reduceAdd, Nat.reduceLT, Nat.reduceLeDiff, Nat.reduceMul, Nat.reduceSub, Value.category, false_implies, true_and, and_true, Bool.false_eq_true, Option.some.injEq, exists_eq_left', Option.toList_some, Option.toList_none, ev_km, ev_k2, ev_k3, ev_k4, ev_k5, ev_l0, ev_l1, sh_1, sh_2, sh_3, sh_4, sh_5, at_X10_append_18, ca_X10_53, cd_X10_append_0, cd_X10_append_18, fl_X10_14, fl_X10_49, ev_b_20, ev_h_500, no_0, no_1, no_lt, no_le, no_eq, no_lt0, no_ge0, no_gt0, no_le0, no_eq0, no_0eq, no_eqm, no_meq, no_m0, no_mlt, no_mge, no_mgt, no_mm, no_i01, no_i10, no_in, no_or, no_ifm, no_mul, nI_add, no_sub, pk_div, iI_if, nI_clamp, oI_n, oI_s, not_true_eq_false, not_false_eq_true, forall_const, true_implies, false_and, and_false, or_false, false_or, Classical.not_not, true_or, or_true, no_b, no_eq1, eq_self, and_self, no_on, sk_0, hq_0, hs_1, hs])
      | (with_reducible refine And.intro (fun q => ?_) (fun q => ?_) <;> (try simp (disch := first | omega | assumption) only [no_0, no_1, no_lt, no_le, no_eq, no_lt0, no_ge0, no_gt0, no_le0, no_eq0, no_0eq, no_eqm, no_meq, no_m0, no_mlt, no_mge, no_mgt, no_mm, no_i01, no_i10, no_in, no_or, no_ifm, no_mul, nI_add, no_sub, pk_div, iI_if, nI_clamp, oI_n, oI_s, not_true_eq_false, not_false_eq_true, forall_const, true_implies, false_and, and_false, or_false, false_or, Classical.not_not, true_or, or_true, no_b, no_eq1, eq_self, and_self, no_on, sk_0, hq_0, hs_1, hs] at q))
      | omega
      | with_reducible assumption
      | with_reducible rfl
      | (refine Nat.lt_of_lt_of_le ?_ (Nat.le_refl 312); omega)
      | with_reducible refine lp_nx ?_ ?_ ?_ ?_
      | with_reducible refine lp_st ?_ ?_ ?_
      | with_reducible refine ls_c ?_ ?_
      | with_reducible refine vi_c ?_
      | with_reducible refine re_c ?_
      | with_reducible refine vz_c ?_
      | with_reducible refine rz_c ?_
      | exact trivial
      | with_reducible refine And.intro ?_ ?_
      | simp (disch := first | omega | assumption) only [ev_run_c, ev_run_n, ev_fj, ev_stp, ev_lk, ev_fv, ev_as, ev_sz, ev_st1, ev_st2, ev_rm, ev_pk, ev_Jof, ev_go, lv_args, List.map_cons, List.map_nil, List.zip_cons_cons, List.zip_nil_left, List.zip_nil_right, List.nil_append, List.cons_append, ↓reduceIte, reduceCtorEq, Int.reduceToNat, Nat.reduceEqDiff, Nat.reduceAdd, Nat.reduceLT, Nat.reduceLeDiff, Nat.reduceMul, Nat.reduceSub, Value.category, false_implies, true_and, and_true, Bool.false_eq_true, Option.some.injEq, exists_eq_left', Option.toList_some, Option.toList_none, ev_km, ev_k2, ev_k3, ev_k4, ev_k5, ev_l0, ev_l1, sh_1, sh_2, sh_3, sh_4, sh_5, at_X10_append_18, ca_X10_53, cd_X10_append_0, cd_X10_append_18, fl_X10_14, fl_X10_49, ev_b_20, ev_h_500, no_0, no_1, no_lt, no_le, no_eq, no_lt0, no_ge0, no_gt0, no_le0, no_eq0, no_0eq, no_eqm, no_meq, no_m0, no_mlt, no_mge, no_mgt, no_mm, no_i01, no_i10, no_in, no_or, no_ifm, no_mul, nI_add, no_sub, pk_div, iI_if, nI_clamp, oI_n, oI_s, not_true_eq_false, not_false_eq_true, forall_const, true_implies, false_and, and_false, or_false, false_or, Classical.not_not, true_or, or_true, no_b, no_eq1, eq_self, and_self, no_on, sk_0, hq_0, hs_1, hs]
      | exact rfl
      | (split <;> omega))
  · rw [if_neg z]
    obtain ⟨μ1, a1, p1, q1, r1⟩ := m_X1_four (μ := μ) (n := aBn σ) hok (by omega) hs h.2.2.2.1.2 a
    obtain ⟨μ2, a2, p2, q2, r2⟩ := m_X1_four (μ := μ1) (n := aBn σ + 4) hok (by omega) p1 q1 b
    obtain ⟨μ3, a3, p3, q3, r3⟩ := m_X1_four (μ := μ2) (n := aBn σ + 8) hok (by omega) p2 q2 c
    obtain ⟨μ4, a4, p4, q4, r4⟩ := m_X1_four (μ := μ3) (n := aBn σ + 12) hok (by omega) p3 q3 d
    obtain ⟨μ5, a5, p5, q5, r5⟩ := m_X1_four (μ := μ4) (n := aBn σ + 16) hok (by omega) p4 q4 e
    have r := FI_tr r1 (FI_tr r2 (FI_tr r3 (FI_tr r4 r5)))
    have p5 : μ5.1 1 1 = nI (aBn σ + 20) := p5
    refine ⟨μ5, ?_, XS_in h hA.2.2.1 r p5 q5, fun a k ha => ⟨r.1 a k (by omega) (by omega), by rw [r.2], by rw [r.2]⟩⟩
    rw [xR_0]
    refine ev_tri hok okM_X10_append (Nat.le_of_ble_eq_true rfl) 400 ?_
    rw [at_X10_append_0]
    repeat' (first
      | (with_reducible refine ev_rid ?_; simp (disch := first | omega | assumption) only [ev_run_c, ev_run_n, ev_fj, ev_stp, ev_lk, ev_fv, ev_as, ev_sz, ev_st1, ev_st2, ev_rm, ev_pk, ev_Jof, ev_go, lv_args, List.map_cons, List.map_nil, List.zip_cons_cons, List.zip_nil_left, List.zip_nil_right, List.nil_append, List.cons_append, ↓reduceIte, reduceCtorEq, Int.reduceToNat, Nat.reduceEqDiff, Nat.reduceAdd, Nat.reduceLT, Nat.reduceLeDiff, Nat.reduceMul, Nat.reduceSub, Value.category, false_implies, true_and, and_true, Bool.false_eq_true, Option.some.injEq, exists_eq_left', Option.toList_some, Option.toList_none, ev_km, ev_k2, ev_k3, ev_k4, ev_k5, ev_l0, ev_l1, sh_1, sh_2, sh_3, sh_4, sh_5, at_X10_append_18, ca_X10_53, cd_X10_append_0, cd_X10_append_18, fl_X10_14, fl_X10_49, ev_b_20, ev_h_500, no_0, no_1, no_lt, no_le, no_eq, no_lt0, no_ge0, no_gt0, no_le0, no_eq0, no_0eq, no_eqm, no_meq, no_m0, no_mlt, no_mge, no_mgt, no_mm, no_i01, no_i10, no_in, no_or, no_ifm, no_mul, nI_add, no_sub, pk_div, iI_if, nI_clamp, oI_n, oI_s, not_true_eq_false, not_false_eq_true, forall_const, true_implies, false_and, and_false, or_false, false_or, Classical.not_not, true_or, or_true, no_b, no_eq1, eq_self, and_self, no_on, sk_0, hq_0, hs_1, hs, p5])
      | (with_reducible refine ev_gid ?_; simp (disch := first | omega | assumption) only [ev_run_c, ev_run_n, ev_fj, ev_stp, ev_lk, ev_fv, ev_as, ev_sz, ev_st1, ev_st2, ev_rm, ev_pk, ev_Jof, ev_go, lv_args, List.map_cons, List.map_nil, List.zip_cons_cons, List.zip_nil_left, List.zip_nil_right, List.nil_append, List.cons_append, ↓reduceIte, reduceCtorEq, Int.reduceToNat, Nat.reduceEqDiff, Nat.reduceAdd, Nat.reduceLT, Nat.reduceLeDiff, Nat.reduceMul, Nat.reduceSub, Value.category, false_implies, true_and, and_true, Bool.false_eq_true, Option.some.injEq, exists_eq_left', Option.toList_some, Option.toList_none, ev_km, ev_k2, ev_k3, ev_k4, ev_k5, ev_l0, ev_l1, sh_1, sh_2, sh_3, sh_4, sh_5, at_X10_append_18, ca_X10_53, cd_X10_append_0, cd_X10_append_18, fl_X10_14, fl_X10_49, ev_b_20, ev_h_500, no_0, no_1, no_lt, no_le, no_eq, no_lt0, no_ge0, no_gt0, no_le0, no_eq0, no_0eq, no_eqm, no_meq, no_m0, no_mlt, no_mge, no_mgt, no_mm, no_i01, no_i10, no_in, no_or, no_ifm, no_mul, nI_add, no_sub, pk_div, iI_if, nI_clamp, oI_n, oI_s, not_true_eq_false, not_false_eq_true, forall_const, true_implies, false_and, and_false, or_false, false_or, Classical.not_not, true_or, or_true, no_b, no_eq1, eq_self, and_self, no_on, sk_0, hq_0, hs_1, hs, p5])
      | (with_reducible refine And.intro (fun q => ?_) (fun q => ?_) <;> (try simp (disch := first | omega | assumption) only [no_0, no_1, no_lt, no_le, no_eq, no_lt0, no_ge0, no_gt0, no_le0, no_eq0, no_0eq, no_eqm, no_meq, no_m0, no_mlt, no_mge, no_mgt, no_mm, no_i01, no_i10, no_in, no_or, no_ifm, no_mul, nI_add, no_sub, pk_div, iI_if, nI_clamp, oI_n, oI_s, not_true_eq_false, not_false_eq_true, forall_const, true_implies, false_and, and_false, or_false, false_or, Classical.not_not, true_or, or_true, no_b, no_eq1, eq_self, and_self, no_on, sk_0, hq_0, hs_1, hs, p5] at q))
      | (with_reducible refine ev_ci a1 ?_)
      | (with_reducible refine ev_ci a2 ?_)
      | (with_reducible refine ev_ci a3 ?_)
      | (with_reducible refine ev_ci a4 ?_)
      | (with_reducible refine ev_ci a5 ?_)
      | omega
      | with_reducible assumption
      | with_reducible rfl
      | (refine Nat.lt_of_lt_of_le ?_ (Nat.le_refl 312); omega)
      | with_reducible refine lp_nx ?_ ?_ ?_ ?_
      | with_reducible refine lp_st ?_ ?_ ?_
      | with_reducible refine ls_c ?_ ?_
      | with_reducible refine vi_c ?_
      | with_reducible refine re_c ?_
      | with_reducible refine vz_c ?_
      | with_reducible refine rz_c ?_
      | exact trivial
      | with_reducible refine And.intro ?_ ?_
      | simp (disch := first | omega | assumption) only [ev_run_c, ev_run_n, ev_fj, ev_stp, ev_lk, ev_fv, ev_as, ev_sz, ev_st1, ev_st2, ev_rm, ev_pk, ev_Jof, ev_go, lv_args, List.map_cons, List.map_nil, List.zip_cons_cons, List.zip_nil_left, List.zip_nil_right, List.nil_append, List.cons_append, ↓reduceIte, reduceCtorEq, Int.reduceToNat, Nat.reduceEqDiff, Nat.reduceAdd, Nat.reduceLT, Nat.reduceLeDiff, Nat.reduceMul, Nat.reduceSub, Value.category, false_implies, true_and, and_true, Bool.false_eq_true, Option.some.injEq, exists_eq_left', Option.toList_some, Option.toList_none, ev_km, ev_k2, ev_k3, ev_k4, ev_k5, ev_l0, ev_l1, sh_1, sh_2, sh_3, sh_4, sh_5, at_X10_append_18, ca_X10_53, cd_X10_append_0, cd_X10_append_18, fl_X10_14, fl_X10_49, ev_b_20, ev_h_500, no_0, no_1, no_lt, no_le, no_eq, no_lt0, no_ge0, no_gt0, no_le0, no_eq0, no_0eq, no_eqm, no_meq, no_m0, no_mlt, no_mge, no_mgt, no_mm, no_i01, no_i10, no_in, no_or, no_ifm, no_mul, nI_add, no_sub, pk_div, iI_if, nI_clamp, oI_n, oI_s, not_true_eq_false, not_false_eq_true, forall_const, true_implies, false_and, and_false, or_false, false_or, Classical.not_not, true_or, or_true, no_b, no_eq1, eq_self, and_self, no_on, sk_0, hq_0, hs_1, hs, p5]
      | exact rfl
      | (split <;> omega))
/-- only the reference's input changes -/
def FR (μ μ' : ev_M) : Prop := (∀ a k, a ≠ 307 → ¬ (a = 301 ∧ k = 9) → μ'.1 a k = μ.1 a k) ∧ μ'.2 = μ.2
theorem FR_tr {μ'' : ev_M} (h : FR μ μ') (h2 : FR μ' μ'') : FR μ μ'' := ⟨fun a k h3 h4 => (h2.1 a k h3 h4).trans (h.1 a k h3 h4), h2.2.trans h.2⟩
def w49 (μ : ev_M) (n : Nat) (x : Int32) : ev_M := w1 (w1 μ 307 n x) 301 9 (nI (n + 1))
theorem w49_9 {n : Nat} {x : Int32} : (w49 μ n x).1 301 9 = nI (n + 1) := w1_s
theorem w49_y {n : Nat} {x : Int32} : (w49 μ n x).1 307 n = x := by unfold w49; rw [w1_n (by omega), w1_s]
theorem w49_n {n a k : Nat} {x : Int32} (h : ¬ (a = 307 ∧ k = n)) (h2 : ¬ (a = 301 ∧ k = 9)) : (w49 μ n x).1 a k = μ.1 a k := by unfold w49; rw [w1_n h2, w1_n h]
/-- four turns -/
def f4 (μ : ev_M) (n : Nat) (v : Int32) : Nat → ev_M
  | 0 => μ
  | k + 1 => w49 (f4 μ n v k) (n + k) (sb (bt v (3 - k)))
theorem f4_ok {n : Nat} {v : Int32} (h : μ.1 301 9 = nI n) (h2 : ∀ i, i < n → μ.1 307 i = sb (B i)) (k : Nat) (hk : k ≤ 4) : (f4 μ n v k).1 301 9 = nI (n + k) ∧ (∀ i, i < n + k → (f4 μ n v k).1 307 i = sb (apB B n v i)) ∧ FR μ (f4 μ n v k) := by
  induction k with
  | zero => exact ⟨h, fun i hi => by rw [apB_n (by omega)]; exact h2 i hi, fun _ _ _ _ => rfl, rfl⟩
  | succ k ih =>
    obtain ⟨i1, i2, i3, i4⟩ := ih (by omega)
    refine ⟨w49_9, fun i hi => ?_, fun a j ha hb => ?_, i4⟩
    · show (w49 (f4 μ n v k) (n + k) (sb (bt v (3 - k)))).1 307 i = _
      by_cases c : i = n + k
      · subst c
        rw [w49_y, apB_y (by omega)]
      · rw [w49_n (by omega) (by omega)]
        exact i2 i (by omega)
    · show (w49 (f4 μ n v k) (n + k) (sb (bt v (3 - k)))).1 a j = _
      rw [w49_n (by omega) hb]
      exact i3 a j ha hb
set_option maxRecDepth 20000 in
theorem m_X11_four (hok : ev_ok sh_S G) {n : Nat} (hn : n + 4 ≤ 500) (h : μ.1 301 9 = nI n) (h2 : ∀ i, i < n → μ.1 307 i = sb (B i)) (v : Int32) : ∃ μ', ev_T sh_S G mi_X11_four [.ref 301, .int v] μ (.inl (none, μ')) ∧ μ'.1 301 9 = nI (n + 4) ∧ (∀ i, i < n + 4 → μ'.1 307 i = sb (apB B n v i)) ∧ FR μ μ' := by
  refine ⟨f4 μ n v 4, ?_, f4_ok h h2 4 (by omega)⟩
  have nb : ∀ k, k < 4 → (v >>> (nI (8 * k) &&& 31)).toInt8.toInt32.toInt8.toInt32 = sb (bt v k) := fun k hk => by rw [← by_2 hk]; exact pk_vb _
  refine ev_tri1 hok (okM_X11_four 0) (Nat.le_of_ble_eq_true rfl) 2 [0, 1, 2] 4 400 (fun k => [.ref 301, .int v, .int (if k < 4 then nI (3 - k) else -1)]) (fun k => f4 μ n v k) (fun _ => True) ?_ ?_
  · intro k hk _
    rw [at_X11_four_2]
    obtain ⟨r1, r2, r3⟩ := f4_ok (v := v) h h2 k hk
    rcases Nat.lt_or_ge k 4 with hkn | hkn
    · have nbk := nb (3 - k) (by omega)
      have h1 : ∀ x, (w1 (f4 μ n v k) 307 (n + k) x).1 301 9 = nI (n + k) := fun x => by rw [w1_n (by omega), r1]
      have e1 : (if k < 4 then nI (3 - k) else (-1 : Int32)) = nI (3 - k) := if_pos hkn
      have e2 : nI (3 - k) + (-1) = (if k + 1 < 4 then nI (3 - (k + 1)) else (-1 : Int32)) := by
        rcases (show k = 0 ∨ k = 1 ∨ k = 2 ∨ k = 3 by omega) with rfl | rfl | rfl | rfl <;> decide
      have e3 : w1 (w1 (f4 μ n v k) 307 (n + k) (sb (bt v (3 - k)))) 301 9 (nI (n + k + 1)) = f4 μ n v (k + 1) := rfl
      repeat' (first
        | (with_reducible refine ev_rid ?_; simp (disch := first | omega | assumption) only [ev_run_c, ev_run_n, ev_fj, ev_stp, ev_lk, ev_fv, ev_as, ev_sz, ev_st1, ev_st2, ev_rm, ev_pk, ev_Jof, ev_go, lv_args, List.map_cons, List.map_nil, List.zip_cons_cons, List.zip_nil_left, List.zip_nil_right, List.nil_append, List.cons_append, ↓reduceIte, reduceCtorEq, Int.reduceToNat, Nat.reduceEqDiff, Nat.reduceAdd, Nat.reduceLT, Nat.reduceLeDiff, Nat.reduceMul, Nat.reduceSub, Value.category, false_implies, true_and, and_true, Bool.false_eq_true, Option.some.injEq, exists_eq_left', Option.toList_some, Option.toList_none, ev_km, ev_k2, ev_k3, ev_k4, ev_k5, ev_l0, ev_l1, sh_1, sh_2, sh_3, sh_4, sh_5, at_X11_four_2, at_X11_four_38, cd_X11_four_0, cd_X11_four_2, cd_X11_four_38, fl_X11_26, fl_X11_55, ev_b_8, no_0, no_1, no_lt, no_le, no_eq, no_lt0, no_ge0, no_gt0, no_le0, no_eq0, no_0eq, no_eqm, no_meq, no_m0, no_mlt, no_mge, no_mgt, no_mm, no_i01, no_i10, no_in, no_or, no_ifm, no_mul, nI_add, no_sub, pk_div, iI_if, nI_clamp, oI_n, oI_s, not_true_eq_false, not_false_eq_true, forall_const, true_implies, false_and, and_false, or_false, false_or, Classical.not_not, true_or, or_true, no_b, no_eq1, eq_self, and_self, sk_301, sk_302, sl_302, sp_301, r1, h1, nbk, e1, e2, e3, w1_d, sk_307, sl_307, sp_307])
        | (with_reducible refine ev_gid ?_; simp (disch := first | omega | assumption) only [ev_run_c, ev_run_n, ev_fj, ev_stp, ev_lk, ev_fv, ev_as, ev_sz, ev_st1, ev_st2, ev_rm, ev_pk, ev_Jof, ev_go, lv_args, List.map_cons, List.map_nil, List.zip_cons_cons, List.zip_nil_left, List.zip_nil_right, List.nil_append, List.cons_append, ↓reduceIte, reduceCtorEq, Int.reduceToNat, Nat.reduceEqDiff, Nat.reduceAdd, Nat.reduceLT, Nat.reduceLeDiff, Nat.reduceMul, Nat.reduceSub, Value.category, false_implies, true_and, and_true, Bool.false_eq_true, Option.some.injEq, exists_eq_left', Option.toList_some, Option.toList_none, ev_km, ev_k2, ev_k3, ev_k4, ev_k5, ev_l0, ev_l1, sh_1, sh_2, sh_3, sh_4, sh_5, at_X11_four_2, at_X11_four_38, cd_X11_four_0, cd_X11_four_2, cd_X11_four_38, fl_X11_26, fl_X11_55, ev_b_8, no_0, no_1, no_lt, no_le, no_eq, no_lt0, no_ge0, no_gt0, no_le0, no_eq0, no_0eq, no_eqm, no_meq, no_m0, no_mlt, no_mge, no_mgt, no_mm, no_i01, no_i10, no_in, no_or, no_ifm, no_mul, nI_add, no_sub, pk_div, iI_if, nI_clamp, oI_n, oI_s, not_true_eq_false, not_false_eq_true, forall_const, true_implies, false_and, and_false, or_false, false_or, Classical.not_not, true_or, or_true, no_b, no_eq1, eq_self, and_self, sk_301, sk_302, sl_302, sp_301, r1, h1, nbk, e1, e2, e3, w1_d, sk_307, sl_307, sp_307])
        | (with_reducible refine And.intro (fun q => ?_) (fun q => ?_) <;> (try simp (disch := first | omega | assumption) only [no_0, no_1, no_lt, no_le, no_eq, no_lt0, no_ge0, no_gt0, no_le0, no_eq0, no_0eq, no_eqm, no_meq, no_m0, no_mlt, no_mge, no_mgt, no_mm, no_i01, no_i10, no_in, no_or, no_ifm, no_mul, nI_add, no_sub, pk_div, iI_if, nI_clamp, oI_n, oI_s, not_true_eq_false, not_false_eq_true, forall_const, true_implies, false_and, and_false, or_false, false_or, Classical.not_not, true_or, or_true, no_b, no_eq1, eq_self, and_self, sk_301, sk_302, sl_302, sp_301, r1, h1, nbk, e1, e2, e3, w1_d, sk_307, sl_307, sp_307] at q))
        | omega
        | with_reducible assumption
        | with_reducible rfl
        | exact Or.inl ⟨trivial, ?_⟩
        | with_reducible refine lp_nx ?_ ?_ ?_ ?_
        | with_reducible refine lp_st ?_ ?_ ?_
        | with_reducible refine ls_c ?_ ?_
        | with_reducible refine vi_c ?_
        | with_reducible refine re_c ?_
        | with_reducible refine vz_c ?_
        | with_reducible refine rz_c ?_
        | exact trivial
        | with_reducible refine And.intro ?_ ?_
        | simp (disch := first | omega | assumption) only [ev_run_c, ev_run_n, ev_fj, ev_stp, ev_lk, ev_fv, ev_as, ev_sz, ev_st1, ev_st2, ev_rm, ev_pk, ev_Jof, ev_go, lv_args, List.map_cons, List.map_nil, List.zip_cons_cons, List.zip_nil_left, List.zip_nil_right, List.nil_append, List.cons_append, ↓reduceIte, reduceCtorEq, Int.reduceToNat, Nat.reduceEqDiff, Nat.reduceAdd, Nat.reduceLT, Nat.reduceLeDiff, Nat.reduceMul, Nat.reduceSub, Value.category, false_implies, true_and, and_true, Bool.false_eq_true, Option.some.injEq, exists_eq_left', Option.toList_some, Option.toList_none, ev_km, ev_k2, ev_k3, ev_k4, ev_k5, ev_l0, ev_l1, sh_1, sh_2, sh_3, sh_4, sh_5, at_X11_four_2, at_X11_four_38, cd_X11_four_0, cd_X11_four_2, cd_X11_four_38, fl_X11_26, fl_X11_55, ev_b_8, no_0, no_1, no_lt, no_le, no_eq, no_lt0, no_ge0, no_gt0, no_le0, no_eq0, no_0eq, no_eqm, no_meq, no_m0, no_mlt, no_mge, no_mgt, no_mm, no_i01, no_i10, no_in, no_or, no_ifm, no_mul, nI_add, no_sub, pk_div, iI_if, nI_clamp, oI_n, oI_s, not_true_eq_false, not_false_eq_true, forall_const, true_implies, false_and, and_false, or_false, false_or, Classical.not_not, true_or, or_true, no_b, no_eq1, eq_self, and_self, sk_301, sk_302, sl_302, sp_301, r1, h1, nbk, e1, e2, e3, w1_d, sk_307, sl_307, sp_307]
        | exact rfl
        | (split <;> omega))
    · have hkn : k = 4 := by omega
      subst hkn
      have e1 : (if 4 < 4 then nI (3 - 4) else (-1 : Int32)) = -1 := by decide
      have e0 : ((-1 : Int32) < 0) = True := by decide
      repeat' (first
        | (with_reducible refine ev_rid ?_; simp (disch := first | omega | assumption) only [ev_run_c, ev_run_n, ev_fj, ev_stp, ev_lk, ev_fv, ev_as, ev_sz, ev_st1, ev_st2, ev_rm, ev_pk, ev_Jof, ev_go, lv_args, List.map_cons, List.map_nil, List.zip_cons_cons, List.zip_nil_left, List.zip_nil_right, List.nil_append, List.cons_append, ↓reduceIte, reduceCtorEq, Int.reduceToNat, Nat.reduceEqDiff, Nat.reduceAdd, Nat.reduceLT, Nat.reduceLeDiff, Nat.reduceMul, Nat.reduceSub, Value.category, false_implies, true_and, and_true, Bool.false_eq_true, Option.some.injEq, exists_eq_left', Option.toList_some, Option.toList_none, ev_km, ev_k2, ev_k3, ev_k4, ev_k5, ev_l0, ev_l1, sh_1, sh_2, sh_3, sh_4, sh_5, at_X11_four_2, at_X11_four_38, cd_X11_four_0, cd_X11_four_2, cd_X11_four_38, fl_X11_26, fl_X11_55, ev_b_8, no_0, no_1, no_lt, no_le, no_eq, no_lt0, no_ge0, no_gt0, no_le0, no_eq0, no_0eq, no_eqm, no_meq, no_m0, no_mlt, no_mge, no_mgt, no_mm, no_i01, no_i10, no_in, no_or, no_ifm, no_mul, nI_add, no_sub, pk_div, iI_if, nI_clamp, oI_n, oI_s, not_true_eq_false, not_false_eq_true, forall_const, true_implies, false_and, and_false, or_false, false_or, Classical.not_not, true_or, or_true, no_b, no_eq1, eq_self, and_self, sk_301, sk_302, sl_302, sp_301, e1, e0])
        | (with_reducible refine ev_gid ?_; simp (disch := first | omega | assumption) only [ev_run_c, ev_run_n, ev_fj, ev_stp, ev_lk, ev_fv, ev_as, ev_sz, ev_st1, ev_st2, ev_rm, ev_pk, ev_Jof, ev_go, lv_args, List.map_cons, List.map_nil, List.zip_cons_cons, List.zip_nil_left, List.zip_nil_right, List.nil_append, List.cons_append, ↓reduceIte, reduceCtorEq, Int.reduceToNat, Nat.reduceEqDiff, Nat.reduceAdd, Nat.reduceLT, Nat.reduceLeDiff, Nat.reduceMul, Nat.reduceSub, Value.category, false_implies, true_and, and_true, Bool.false_eq_true, Option.some.injEq, exists_eq_left', Option.toList_some, Option.toList_none, ev_km, ev_k2, ev_k3, ev_k4, ev_k5, ev_l0, ev_l1, sh_1, sh_2, sh_3, sh_4, sh_5, at_X11_four_2, at_X11_four_38, cd_X11_four_0, cd_X11_four_2, cd_X11_four_38, fl_X11_26, fl_X11_55, ev_b_8, no_0, no_1, no_lt, no_le, no_eq, no_lt0, no_ge0, no_gt0, no_le0, no_eq0, no_0eq, no_eqm, no_meq, no_m0, no_mlt, no_mge, no_mgt, no_mm, no_i01, no_i10, no_in, no_or, no_ifm, no_mul, nI_add, no_sub, pk_div, iI_if, nI_clamp, oI_n, oI_s, not_true_eq_false, not_false_eq_true, forall_const, true_implies, false_and, and_false, or_false, false_or, Classical.not_not, true_or, or_true, no_b, no_eq1, eq_self, and_self, sk_301, sk_302, sl_302, sp_301, e1, e0])
        | (with_reducible refine And.intro (fun q => ?_) (fun q => ?_) <;> (try simp (disch := first | omega | assumption) only [no_0, no_1, no_lt, no_le, no_eq, no_lt0, no_ge0, no_gt0, no_le0, no_eq0, no_0eq, no_eqm, no_meq, no_m0, no_mlt, no_mge, no_mgt, no_mm, no_i01, no_i10, no_in, no_or, no_ifm, no_mul, nI_add, no_sub, pk_div, iI_if, nI_clamp, oI_n, oI_s, not_true_eq_false, not_false_eq_true, forall_const, true_implies, false_and, and_false, or_false, false_or, Classical.not_not, true_or, or_true, no_b, no_eq1, eq_self, and_self, sk_301, sk_302, sl_302, sp_301, e1, e0] at q))
        | omega
        | with_reducible assumption
        | with_reducible rfl
        | with_reducible refine lp_nx ?_ ?_ ?_ ?_
        | with_reducible refine lp_st ?_ ?_ ?_
        | with_reducible refine ls_c ?_ ?_
        | with_reducible refine vi_c ?_
        | with_reducible refine re_c ?_
        | with_reducible refine vz_c ?_
        | with_reducible refine rz_c ?_
        | exact trivial
        | with_reducible refine And.intro ?_ ?_
        | simp (disch := first | omega | assumption) only [ev_run_c, ev_run_n, ev_fj, ev_stp, ev_lk, ev_fv, ev_as, ev_sz, ev_st1, ev_st2, ev_rm, ev_pk, ev_Jof, ev_go, lv_args, List.map_cons, List.map_nil, List.zip_cons_cons, List.zip_nil_left, List.zip_nil_right, List.nil_append, List.cons_append, ↓reduceIte, reduceCtorEq, Int.reduceToNat, Nat.reduceEqDiff, Nat.reduceAdd, Nat.reduceLT, Nat.reduceLeDiff, Nat.reduceMul, Nat.reduceSub, Value.category, false_implies, true_and, and_true, Bool.false_eq_true, Option.some.injEq, exists_eq_left', Option.toList_some, Option.toList_none, ev_km, ev_k2, ev_k3, ev_k4, ev_k5, ev_l0, ev_l1, sh_1, sh_2, sh_3, sh_4, sh_5, at_X11_four_2, at_X11_four_38, cd_X11_four_0, cd_X11_four_2, cd_X11_four_38, fl_X11_26, fl_X11_55, ev_b_8, no_0, no_1, no_lt, no_le, no_eq, no_lt0, no_ge0, no_gt0, no_le0, no_eq0, no_0eq, no_eqm, no_meq, no_m0, no_mlt, no_mge, no_mgt, no_mm, no_i01, no_i10, no_in, no_or, no_ifm, no_mul, nI_add, no_sub, pk_div, iI_if, nI_clamp, oI_n, oI_s, not_true_eq_false, not_false_eq_true, forall_const, true_implies, false_and, and_false, or_false, false_or, Classical.not_not, true_or, or_true, no_b, no_eq1, eq_self, and_self, sk_301, sk_302, sl_302, sp_301, e1, e0]
        | exact rfl
        | (split <;> omega))
  · rw [at_X11_four_0]
    have e1 : (if 0 < 4 then nI (3 - 0) else (-1 : Int32)) = nI 3 := by decide
    repeat' (first
      | (with_reducible refine ev_rid ?_; simp (disch := first | omega | assumption) only [ev_run_c, ev_run_n, ev_fj, ev_stp, ev_lk, ev_fv, ev_as, ev_sz, ev_st1, ev_st2, ev_rm, ev_pk, ev_Jof, ev_go, lv_args, List.map_cons, List.map_nil, List.zip_cons_cons, List.zip_nil_left, List.zip_nil_right, List.nil_append, List.cons_append, ↓reduceIte, reduceCtorEq, Int.reduceToNat, Nat.reduceEqDiff, Nat.reduceAdd, Nat.reduceLT, Nat.reduceLeDiff, Nat.reduceMul, Nat.reduceSub, Value.category, false_implies, true_and, and_true, Bool.false_eq_true, Option.some.injEq, exists_eq_left', Option.toList_some, Option.toList_none, ev_km, ev_k2, ev_k3, ev_k4, ev_k5, ev_l0, ev_l1, sh_1, sh_2, sh_3, sh_4, sh_5, at_X11_four_2, at_X11_four_38, cd_X11_four_0, cd_X11_four_2, cd_X11_four_38, fl_X11_26, fl_X11_55, ev_b_8, no_0, no_1, no_lt, no_le, no_eq, no_lt0, no_ge0, no_gt0, no_le0, no_eq0, no_0eq, no_eqm, no_meq, no_m0, no_mlt, no_mge, no_mgt, no_mm, no_i01, no_i10, no_in, no_or, no_ifm, no_mul, nI_add, no_sub, pk_div, iI_if, nI_clamp, oI_n, oI_s, not_true_eq_false, not_false_eq_true, forall_const, true_implies, false_and, and_false, or_false, false_or, Classical.not_not, true_or, or_true, no_b, no_eq1, eq_self, and_self, sk_301, sk_302, sl_302, sp_301, e1])
      | (with_reducible refine ev_gid ?_; simp (disch := first | omega | assumption) only [ev_run_c, ev_run_n, ev_fj, ev_stp, ev_lk, ev_fv, ev_as, ev_sz, ev_st1, ev_st2, ev_rm, ev_pk, ev_Jof, ev_go, lv_args, List.map_cons, List.map_nil, List.zip_cons_cons, List.zip_nil_left, List.zip_nil_right, List.nil_append, List.cons_append, ↓reduceIte, reduceCtorEq, Int.reduceToNat, Nat.reduceEqDiff, Nat.reduceAdd, Nat.reduceLT, Nat.reduceLeDiff, Nat.reduceMul, Nat.reduceSub, Value.category, false_implies, true_and, and_true, Bool.false_eq_true, Option.some.injEq, exists_eq_left', Option.toList_some, Option.toList_none, ev_km, ev_k2, ev_k3, ev_k4, ev_k5, ev_l0, ev_l1, sh_1, sh_2, sh_3, sh_4, sh_5, at_X11_four_2, at_X11_four_38, cd_X11_four_0, cd_X11_four_2, cd_X11_four_38, fl_X11_26, fl_X11_55, ev_b_8, no_0, no_1, no_lt, no_le, no_eq, no_lt0, no_ge0, no_gt0, no_le0, no_eq0, no_0eq, no_eqm, no_meq, no_m0, no_mlt, no_mge, no_mgt, no_mm, no_i01, no_i10, no_in, no_or, no_ifm, no_mul, nI_add, no_sub, pk_div, iI_if, nI_clamp, oI_n, oI_s, not_true_eq_false, not_false_eq_true, forall_const, true_implies, false_and, and_false, or_false, false_or, Classical.not_not, true_or, or_true, no_b, no_eq1, eq_self, and_self, sk_301, sk_302, sl_302, sp_301, e1])
      | (with_reducible refine And.intro (fun q => ?_) (fun q => ?_) <;> (try simp (disch := first | omega | assumption) only [no_0, no_1, no_lt, no_le, no_eq, no_lt0, no_ge0, no_gt0, no_le0, no_eq0, no_0eq, no_eqm, no_meq, no_m0, no_mlt, no_mge, no_mgt, no_mm, no_i01, no_i10, no_in, no_or, no_ifm, no_mul, nI_add, no_sub, pk_div, iI_if, nI_clamp, oI_n, oI_s, not_true_eq_false, not_false_eq_true, forall_const, true_implies, false_and, and_false, or_false, false_or, Classical.not_not, true_or, or_true, no_b, no_eq1, eq_self, and_self, sk_301, sk_302, sl_302, sp_301, e1] at q))
      | omega
      | with_reducible assumption
      | with_reducible rfl
      | with_reducible refine lp_nx ?_ ?_ ?_ ?_
      | with_reducible refine lp_st ?_ ?_ ?_
      | with_reducible refine ls_c ?_ ?_
      | with_reducible refine vi_c ?_
      | with_reducible refine re_c ?_
      | with_reducible refine vz_c ?_
      | with_reducible refine rz_c ?_
      | exact trivial
      | with_reducible refine And.intro ?_ ?_
      | simp (disch := first | omega | assumption) only [ev_run_c, ev_run_n, ev_fj, ev_stp, ev_lk, ev_fv, ev_as, ev_sz, ev_st1, ev_st2, ev_rm, ev_pk, ev_Jof, ev_go, lv_args, List.map_cons, List.map_nil, List.zip_cons_cons, List.zip_nil_left, List.zip_nil_right, List.nil_append, List.cons_append, ↓reduceIte, reduceCtorEq, Int.reduceToNat, Nat.reduceEqDiff, Nat.reduceAdd, Nat.reduceLT, Nat.reduceLeDiff, Nat.reduceMul, Nat.reduceSub, Value.category, false_implies, true_and, and_true, Bool.false_eq_true, Option.some.injEq, exists_eq_left', Option.toList_some, Option.toList_none, ev_km, ev_k2, ev_k3, ev_k4, ev_k5, ev_l0, ev_l1, sh_1, sh_2, sh_3, sh_4, sh_5, at_X11_four_2, at_X11_four_38, cd_X11_four_0, cd_X11_four_2, cd_X11_four_38, fl_X11_26, fl_X11_55, ev_b_8, no_0, no_1, no_lt, no_le, no_eq, no_lt0, no_ge0, no_gt0, no_le0, no_eq0, no_0eq, no_eqm, no_meq, no_m0, no_mlt, no_mge, no_mgt, no_mm, no_i01, no_i10, no_in, no_or, no_ifm, no_mul, nI_add, no_sub, pk_div, iI_if, nI_clamp, oI_n, oI_s, not_true_eq_false, not_false_eq_true, forall_const, true_implies, false_and, and_false, or_false, false_or, Classical.not_not, true_or, or_true, no_b, no_eq1, eq_self, and_self, sk_301, sk_302, sl_302, sp_301, e1]
      | exact rfl
      | (split <;> omega))
set_option maxRecDepth 20000 in
theorem M_append (hok : ev_ok sh_S G) (h : MS σ μ) (hA : OKA σ) (a b c d e : Int32) : s_res mi_X11_append [.ref 301, .int a, .int b, .int c, .int d, .int e] μ G (s_append σ a b c d e) := by
  have hb5 : aBn σ ≤ 500 := hA.2.2.2.2.2.2.1
  obtain ⟨h1, h2, h3, h4, h5, h6, h7, h8, h9, h10, h11, h12⟩ := MS_th (t := 0) h
  have h79 : μ.1 301 9 = nI (aBn σ) := h.2.2.2.2.2.2.1
  have eth : (ev_up μ.1 301 0 (nI 0), μ.2) = th μ 0 := rfl
  unfold s_append
  by_cases z : 480 < aBn σ
  · rw [if_pos z]
    refine ⟨th μ 0, ?_, MS_th h, Fq_m Fm_th, th_0⟩
    refine ev_tri hok (okM_X11_append 0) (Nat.le_of_ble_eq_true rfl) 400 ?_
    rw [at_X11_append_0]
    repeat' (first
      | (with_reducible refine ev_rid ?_; simp (disch := first | omega | assumption) only [ev_run_c, ev_run_n, ev_fj, ev_stp, ev_lk, ev_fv, ev_as, ev_sz, ev_st1, ev_st2, ev_rm, ev_pk, ev_Jof, ev_go, lv_args, List.map_cons, List.map_nil, List.zip_cons_cons, List.zip_nil_left, List.zip_nil_right, List.nil_append, List.cons_append, ↓reduceIte, reduceCtorEq, Int.reduceToNat, Nat.reduceEqDiff, Nat.reduceAdd, Nat.reduceLT, Nat.reduceLeDiff, Nat.reduceMul, Nat.reduceSub, Value.category, false_implies, true_and, and_true, Bool.false_eq_true, Option.some.injEq, exists_eq_left', Option.toList_some, Option.toList_none, ev_km, ev_k2, ev_k3, ev_k4, ev_k5, ev_l0, ev_l1, sh_1, sh_2, sh_3, sh_4, sh_5, at_X11_append_17, ca_X11_58, cd_X11_append_0, cd_X11_append_17, fl_X11_40, fl_X11_55, ev_h_480, no_0, no_1, no_lt, no_le, no_eq, no_lt0, no_ge0, no_gt0, no_le0, no_eq0, no_0eq, no_eqm, no_meq, no_m0, no_mlt, no_mge, no_mgt, no_mm, no_i01, no_i10, no_in, no_or, no_ifm, no_mul, nI_add, no_sub, pk_div, iI_if, nI_clamp, oI_n, oI_s, not_true_eq_false, not_false_eq_true, forall_const, true_implies, false_and, and_false, or_false, false_or, Classical.not_not, true_or, or_true, no_b, no_eq1, eq_self, and_self, sk_301, sk_302, sl_302, sp_301, h7, eth])
      | (with_reducible refine ev_gid ?_; simp (disch := first | omega | assumption) only [ev_run_c, ev_run_n, ev_fj, ev_stp, ev_lk, ev_fv, ev_as, ev_sz, ev_st1, ev_st2, ev_rm, ev_pk, ev_Jof, ev_go, lv_args, List.map_cons, List.map_nil, List.zip_cons_cons, List.zip_nil_left, List.zip_nil_right, List.nil_append, List.cons_append, ↓reduceIte, reduceCtorEq, Int.reduceToNat, Nat.reduceEqDiff, Nat.reduceAdd, Nat.reduceLT, Nat.reduceLeDiff, Nat.reduceMul, Nat.reduceSub, Value.category, false_implies, true_and, and_true, Bool.false_eq_true, Option.some.injEq, exists_eq_left', Option.toList_some, Option.toList_none, ev_km, ev_k2, ev_k3, ev_k4, ev_k5, ev_l0, ev_l1, sh_1, sh_2, sh_3, sh_4, sh_5, at_X11_append_17, ca_X11_58, cd_X11_append_0, cd_X11_append_17, fl_X11_40, fl_X11_55, ev_h_480, no_0, no_1, no_lt, no_le, no_eq, no_lt0, no_ge0, no_gt0, no_le0, no_eq0, no_0eq, no_eqm, no_meq, no_m0, no_mlt, no_mge, no_mgt, no_mm, no_i01, no_i10, no_in, no_or, no_ifm, no_mul, nI_add, no_sub, pk_div, iI_if, nI_clamp, oI_n, oI_s, not_true_eq_false, not_false_eq_true, forall_const, true_implies, false_and, and_false, or_false, false_or, Classical.not_not, true_or, or_true, no_b, no_eq1, eq_self, and_self, sk_301, sk_302, sl_302, sp_301, h7, eth])
      | (with_reducible refine And.intro (fun q => ?_) (fun q => ?_) <;> (try simp (disch := first | omega | assumption) only [no_0, no_1, no_lt, no_le, no_eq, no_lt0, no_ge0, no_gt0, no_le0, no_eq0, no_0eq, no_eqm, no_meq, no_m0, no_mlt, no_mge, no_mgt, no_mm, no_i01, no_i10, no_in, no_or, no_ifm, no_mul, nI_add, no_sub, pk_div, iI_if, nI_clamp, oI_n, oI_s, not_true_eq_false, not_false_eq_true, forall_const, true_implies, false_and, and_false, or_false, false_or, Classical.not_not, true_or, or_true, no_b, no_eq1, eq_self, and_self, sk_301, sk_302, sl_302, sp_301, h7, eth] at q))
      | omega
      | with_reducible assumption
      | with_reducible rfl
      | with_reducible refine lp_nx ?_ ?_ ?_ ?_
      | with_reducible refine lp_st ?_ ?_ ?_
      | with_reducible refine ls_c ?_ ?_
      | with_reducible refine vi_c ?_
      | with_reducible refine re_c ?_
      | with_reducible refine vz_c ?_
      | with_reducible refine rz_c ?_
      | exact trivial
      | with_reducible refine And.intro ?_ ?_
      | simp (disch := first | omega | assumption) only [ev_run_c, ev_run_n, ev_fj, ev_stp, ev_lk, ev_fv, ev_as, ev_sz, ev_st1, ev_st2, ev_rm, ev_pk, ev_Jof, ev_go, lv_args, List.map_cons, List.map_nil, List.zip_cons_cons, List.zip_nil_left, List.zip_nil_right, List.nil_append, List.cons_append, ↓reduceIte, reduceCtorEq, Int.reduceToNat, Nat.reduceEqDiff, Nat.reduceAdd, Nat.reduceLT, Nat.reduceLeDiff, Nat.reduceMul, Nat.reduceSub, Value.category, false_implies, true_and, and_true, Bool.false_eq_true, Option.some.injEq, exists_eq_left', Option.toList_some, Option.toList_none, ev_km, ev_k2, ev_k3, ev_k4, ev_k5, ev_l0, ev_l1, sh_1, sh_2, sh_3, sh_4, sh_5, at_X11_append_17, ca_X11_58, cd_X11_append_0, cd_X11_append_17, fl_X11_40, fl_X11_55, ev_h_480, no_0, no_1, no_lt, no_le, no_eq, no_lt0, no_ge0, no_gt0, no_le0, no_eq0, no_0eq, no_eqm, no_meq, no_m0, no_mlt, no_mge, no_mgt, no_mm, no_i01, no_i10, no_in, no_or, no_ifm, no_mul, nI_add, no_sub, pk_div, iI_if, nI_clamp, oI_n, oI_s, not_true_eq_false, not_false_eq_true, forall_const, true_implies, false_and, and_false, or_false, false_or, Classical.not_not, true_or, or_true, no_b, no_eq1, eq_self, and_self, sk_301, sk_302, sl_302, sp_301, h7, eth]
      | exact rfl
      | (split <;> omega))
  · rw [if_neg z]
    obtain ⟨μ1, a1, p1, q1, r1⟩ := m_X11_four (μ := th μ 0) (n := aBn σ) hok (by omega) h7 h8 a
    obtain ⟨μ2, a2, p2, q2, r2⟩ := m_X11_four (μ := μ1) (n := aBn σ + 4) hok (by omega) p1 q1 b
    obtain ⟨μ3, a3, p3, q3, r3⟩ := m_X11_four (μ := μ2) (n := aBn σ + 8) hok (by omega) p2 q2 c
    obtain ⟨μ4, a4, p4, q4, r4⟩ := m_X11_four (μ := μ3) (n := aBn σ + 12) hok (by omega) p3 q3 d
    obtain ⟨μ5, a5, p5, q5, r5⟩ := m_X11_four (μ := μ4) (n := aBn σ + 16) hok (by omega) p4 q4 e
    have r := FR_tr r1 (FR_tr r2 (FR_tr r3 (FR_tr r4 r5)))
    have p5 : μ5.1 301 9 = nI (aBn σ + 20) := p5
    have ru : ∀ a k, a ≠ 307 → ¬ (a = 301 ∧ k = 9) → μ5.1 a k = (th μ 0).1 a k := r.1
    refine ⟨μ5, ?_, ⟨?_, ?_, ?_, ?_, ?_, ?_, p5, q5, ?_, ?_, ?_, ?_⟩, Fq_tr (Fq_m Fm_th) ⟨fun a k ha => ru a k (by omega) (by omega), r.2⟩, (ru 301 0 (by omega) (by omega)).trans th_0⟩
    · refine ev_tri hok (okM_X11_append 0) (Nat.le_of_ble_eq_true rfl) 400 ?_
      rw [at_X11_append_0]
      repeat' (first
        | (with_reducible refine ev_rid ?_; simp (disch := first | omega | assumption) only [ev_run_c, ev_run_n, ev_fj, ev_stp, ev_lk, ev_fv, ev_as, ev_sz, ev_st1, ev_st2, ev_rm, ev_pk, ev_Jof, ev_go, lv_args, List.map_cons, List.map_nil, List.zip_cons_cons, List.zip_nil_left, List.zip_nil_right, List.nil_append, List.cons_append, ↓reduceIte, reduceCtorEq, Int.reduceToNat, Nat.reduceEqDiff, Nat.reduceAdd, Nat.reduceLT, Nat.reduceLeDiff, Nat.reduceMul, Nat.reduceSub, Value.category, false_implies, true_and, and_true, Bool.false_eq_true, Option.some.injEq, exists_eq_left', Option.toList_some, Option.toList_none, ev_km, ev_k2, ev_k3, ev_k4, ev_k5, ev_l0, ev_l1, sh_1, sh_2, sh_3, sh_4, sh_5, at_X11_append_17, ca_X11_58, cd_X11_append_0, cd_X11_append_17, fl_X11_40, fl_X11_55, ev_h_480, no_0, no_1, no_lt, no_le, no_eq, no_lt0, no_ge0, no_gt0, no_le0, no_eq0, no_0eq, no_eqm, no_meq, no_m0, no_mlt, no_mge, no_mgt, no_mm, no_i01, no_i10, no_in, no_or, no_ifm, no_mul, nI_add, no_sub, pk_div, iI_if, nI_clamp, oI_n, oI_s, not_true_eq_false, not_false_eq_true, forall_const, true_implies, false_and, and_false, or_false, false_or, Classical.not_not, true_or, or_true, no_b, no_eq1, eq_self, and_self, sk_301, sk_302, sl_302, sp_301, h7, eth, p5])
        | (with_reducible refine ev_gid ?_; simp (disch := first | omega | assumption) only [ev_run_c, ev_run_n, ev_fj, ev_stp, ev_lk, ev_fv, ev_as, ev_sz, ev_st1, ev_st2, ev_rm, ev_pk, ev_Jof, ev_go, lv_args, List.map_cons, List.map_nil, List.zip_cons_cons, List.zip_nil_left, List.zip_nil_right, List.nil_append, List.cons_append, ↓reduceIte, reduceCtorEq, Int.reduceToNat, Nat.reduceEqDiff, Nat.reduceAdd, Nat.reduceLT, Nat.reduceLeDiff, Nat.reduceMul, Nat.reduceSub, Value.category, false_implies, true_and, and_true, Bool.false_eq_true, Option.some.injEq, exists_eq_left', Option.toList_some, Option.toList_none, ev_km, ev_k2, ev_k3, ev_k4, ev_k5, ev_l0, ev_l1, sh_1, sh_2, sh_3, sh_4, sh_5, at_X11_append_17, ca_X11_58, cd_X11_append_0, cd_X11_append_17, fl_X11_40, fl_X11_55, ev_h_480, no_0, no_1, no_lt, no_le, no_eq, no_lt0, no_ge0, no_gt0, no_le0, no_eq0, no_0eq, no_eqm, no_meq, no_m0, no_mlt, no_mge, no_mgt, no_mm, no_i01, no_i10, no_in, no_or, no_ifm, no_mul, nI_add, no_sub, pk_div, iI_if, nI_clamp, oI_n, oI_s, not_true_eq_false, not_false_eq_true, forall_const, true_implies, false_and, and_false, or_false, false_or, Classical.not_not, true_or, or_true, no_b, no_eq1, eq_self, and_self, sk_301, sk_302, sl_302, sp_301, h7, eth, p5])
        | (with_reducible refine And.intro (fun q => ?_) (fun q => ?_) <;> (try simp (disch := first | omega | assumption) only [no_0, no_1, no_lt, no_le, no_eq, no_lt0, no_ge0, no_gt0, no_le0, no_eq0, no_0eq, no_eqm, no_meq, no_m0, no_mlt, no_mge, no_mgt, no_mm, no_i01, no_i10, no_in, no_or, no_ifm, no_mul, nI_add, no_sub, pk_div, iI_if, nI_clamp, oI_n, oI_s, not_true_eq_false, not_false_eq_true, forall_const, true_implies, false_and, and_false, or_false, false_or, Classical.not_not, true_or, or_true, no_b, no_eq1, eq_self, and_self, sk_301, sk_302, sl_302, sp_301, h7, eth, p5] at q))
        | (with_reducible refine ev_ci a1 ?_)
        | (with_reducible refine ev_ci a2 ?_)
        | (with_reducible refine ev_ci a3 ?_)
        | (with_reducible refine ev_ci a4 ?_)
        | (with_reducible refine ev_ci a5 ?_)
        | omega
        | with_reducible assumption
        | with_reducible rfl
        | with_reducible refine lp_nx ?_ ?_ ?_ ?_
        | with_reducible refine lp_st ?_ ?_ ?_
        | with_reducible refine ls_c ?_ ?_
        | with_reducible refine vi_c ?_
        | with_reducible refine re_c ?_
        | with_reducible refine vz_c ?_
        | with_reducible refine rz_c ?_
        | exact trivial
        | with_reducible refine And.intro ?_ ?_
        | simp (disch := first | omega | assumption) only [ev_run_c, ev_run_n, ev_fj, ev_stp, ev_lk, ev_fv, ev_as, ev_sz, ev_st1, ev_st2, ev_rm, ev_pk, ev_Jof, ev_go, lv_args, List.map_cons, List.map_nil, List.zip_cons_cons, List.zip_nil_left, List.zip_nil_right, List.nil_append, List.cons_append, ↓reduceIte, reduceCtorEq, Int.reduceToNat, Nat.reduceEqDiff, Nat.reduceAdd, Nat.reduceLT, Nat.reduceLeDiff, Nat.reduceMul, Nat.reduceSub, Value.category, false_implies, true_and, and_true, Bool.false_eq_true, Option.some.injEq, exists_eq_left', Option.toList_some, Option.toList_none, ev_km, ev_k2, ev_k3, ev_k4, ev_k5, ev_l0, ev_l1, sh_1, sh_2, sh_3, sh_4, sh_5, at_X11_append_17, ca_X11_58, cd_X11_append_0, cd_X11_append_17, fl_X11_40, fl_X11_55, ev_h_480, no_0, no_1, no_lt, no_le, no_eq, no_lt0, no_ge0, no_gt0, no_le0, no_eq0, no_0eq, no_eqm, no_meq, no_m0, no_mlt, no_mge, no_mgt, no_mm, no_i01, no_i10, no_in, no_or, no_ifm, no_mul, nI_add, no_sub, pk_div, iI_if, nI_clamp, oI_n, oI_s, not_true_eq_false, not_false_eq_true, forall_const, true_implies, false_and, and_false, or_false, false_or, Classical.not_not, true_or, or_true, no_b, no_eq1, eq_self, and_self, sk_301, sk_302, sl_302, sp_301, h7, eth, p5]
        | exact rfl
        | (split <;> omega))
    · intro k hk; rw [ru _ _ (by omega) (by omega)]; exact h1 k hk
    · rw [ru _ _ (by omega) (by omega)]; exact h2
    · rw [ru _ _ (by omega) (by omega)]; exact h3
    · intro i hi j hj; rw [ru _ _ (by omega) (by omega)]; exact h4 i hi j hj
    · intro s hs; rw [ru _ _ (by omega) (by omega)]; exact h5 s hs
    · intro s hs hv j hj; rw [ru _ _ (by omega) (by omega)]; exact h6 s hs hv j hj
    · rw [ru _ _ (by omega) (by omega)]; exact h9
    · rw [ru _ _ (by omega) (by omega)]; exact h10
    · rw [ru _ _ (by omega) (by omega)]; exact h11
    · intro i hi; rw [ru _ _ (by omega) (by omega)]; exact h12 i hi
end Bytes
