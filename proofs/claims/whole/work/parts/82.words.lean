/-! ===== words as numbers ===== -/
section Words
variable {G : ev_G} {N : Nat → Nat} {μ : ev_M} {p : Nat}
/-- letters as a number -/
def wN (f : Nat → Nat) : Nat → Nat
  | 0 => 0
  | n + 1 => wN f n * 256 + f n
def w64 (a : Nat) : Int64 := Int64.ofNat a
theorem w_sl (a : Nat) : w64 a <<< 8 = w64 (a * 256) := by
  apply Int64.toBitVec_inj.1
  show (BitVec.ofNat 64 a) <<< ((8 : BitVec 64).smod 64) = BitVec.ofNat 64 (a * 256)
  rw [show ((8 : BitVec 64).smod 64) = 8#64 from by decide]
  apply BitVec.eq_of_toNat_eq
  simp only [BitVec.shiftLeft_eq', BitVec.toNat_shiftLeft, BitVec.toNat_ofNat, Nat.shiftLeft_eq]
  show a % 18446744073709551616 * 256 % 18446744073709551616 = a * 256 % 18446744073709551616
  omega
theorem w_or {a b : Nat} (hb : b < 256) : w64 (a * 256) ||| w64 b = w64 (a * 256 + b) := by
  apply Int64.toBitVec_inj.1
  show (BitVec.ofNat 64 (a * 256)) ||| (BitVec.ofNat 64 b) = BitVec.ofNat 64 (a * 256 + b)
  rw [← BitVec.ofNat_or]
  congr 1
  have h := Nat.shiftLeft_add_eq_or_of_lt (b := b) (i := 8) (by omega) a
  rw [Nat.shiftLeft_eq] at h
  exact h.symm
theorem w_8 : (nI 8).toInt64 &&& 63 = 8 := by decide
theorem w_n {b : Nat} (hb : b < 2 ^ 31) : (nI b).toInt64 = w64 b := by
  apply Int64.toInt_inj.1
  rw [Int32.toInt_toInt64, nI_toInt hb]
  unfold w64
  rw [Int64.toInt_ofNat_of_lt (by omega)]
theorem w_eq {a b : Nat} (ha : a < 2 ^ 64) (hb : b < 2 ^ 64) : (w64 a = w64 b) = (a = b) := by
  refine propext ⟨fun h => ?_, fun h => by rw [h]⟩
  have h2 : (BitVec.ofNat 64 a).toNat = (BitVec.ofNat 64 b).toNat := by
    have h3 : (w64 a).toBitVec = (w64 b).toBitVec := by rw [h]
    exact congrArg BitVec.toNat h3
  rw [BitVec.toNat_ofNat, BitVec.toNat_ofNat, Nat.mod_eq_of_lt ha, Nat.mod_eq_of_lt hb] at h2
  exact h2
theorem wN_lt {f : Nat → Nat} {n : Nat} (h : ∀ k, k < n → f k < 256) : wN f n < 256 ^ n := by
  induction n with
  | zero => exact Nat.one_pos
  | succ n ih =>
    have h1 := ih (fun k hk => h k (by omega))
    have h2 := h n (by omega)
    show wN f n * 256 + f n < 256 ^ n * 256
    omega
theorem wN_64 {f : Nat → Nat} {n : Nat} (h : ∀ k, k < n → f k < 256) (hn : n ≤ 8) : wN f n < 2 ^ 64 := by
  have h1 := wN_lt h
  have h2 : 256 ^ n ≤ 256 ^ 8 := Nat.pow_le_pow_right (by omega) hn
  have h3 : (256 : Nat) ^ 8 = 2 ^ 64 := by decide
  omega
theorem wN_ext {f g : Nat → Nat} {n : Nat} (h : ∀ k, k < n → f k = g k) : wN f n = wN g n := by
  induction n with
  | zero => rfl
  | succ n ih => show wN f n * 256 + f n = wN g n * 256 + g n; rw [ih (fun k hk => h k (by omega)), h n (by omega)]
theorem wN_inj {f g : Nat → Nat} {n m : Nat} (hf : ∀ k, k < n → 0 < f k ∧ f k < 256) (hg : ∀ k, k < m → 0 < g k ∧ g k < 256) (h : wN f n = wN g m) : n = m ∧ ∀ k, k < n → f k = g k := by
  induction n generalizing m with
  | zero =>
    cases m with
    | zero => exact ⟨rfl, fun k hk => absurd hk (Nat.not_lt_zero k)⟩
    | succ m =>
      have h1 := hg m (by omega)
      have h2 : 0 = wN g m * 256 + g m := h
      omega
  | succ n ih =>
    have h1 := hf n (by omega)
    cases m with
    | zero =>
      have h2 : wN f n * 256 + f n = 0 := h
      omega
    | succ m =>
      have h3 := hg m (by omega)
      have h2 : wN f n * 256 + f n = wN g m * 256 + g m := h
      have h4 : wN f n = wN g m := by omega
      obtain ⟨e1, e2⟩ := ih (fun k hk => hf k (by omega)) (fun k hk => hg k (by omega)) h4
      refine ⟨by omega, fun k hk => ?_⟩
      by_cases c : k = n
      · subst c
        subst e1
        omega
      · exact e2 k (by omega)
theorem wN_div {f : Nat → Nat} {i j : Nat} (h : ∀ k, k < i + j → f k < 256) : wN f (i + j) / 256 ^ j = wN f i := by
  induction j with
  | zero => simp
  | succ j ih =>
    have h1 := ih (fun k hk => h k (by omega))
    have h2 := h (i + j) (by omega)
    show (wN f (i + j) * 256 + f (i + j)) / 256 ^ (j + 1) = wN f i
    rw [Nat.pow_succ, Nat.mul_comm (256 ^ j) 256, ← Nat.div_div_eq_div_mul, show (wN f (i + j) * 256 + f (i + j)) / 256 = wN f (i + j) by omega]
    exact h1
theorem wN_pos {f : Nat → Nat} {n : Nat} (h : ∀ k, k < n → 0 < f k) (hn : 0 < n) : 0 < wN f n := by
  obtain ⟨m, rfl⟩ : ∃ m, n = m + 1 := ⟨n - 1, by omega⟩
  have := h m (by omega)
  show 0 < wN f m * 256 + f m
  omega
theorem nmL_w {i n : Nat} (h : ∀ k, k < n → N (8 + 59 * i + (7 + k)) < 256) : nmL N i n = w64 (wN (fun k => N (8 + 59 * i + (7 + k))) n) := by
  induction n with
  | zero => rfl
  | succ n ih =>
    show nmL N i n <<< 8 ||| w64 (N (8 + 59 * i + (7 + n))) = w64 (wN (fun k => N (8 + 59 * i + (7 + k))) n * 256 + N (8 + 59 * i + (7 + n)))
    rw [ih (fun k hk => h k (by omega)), w_sl, w_or (h n (by omega))]
/-- a word's shift to the right -/
theorem w_sr {m j : Nat} (hm : m < 2 ^ 64) (hj : j < 8) : ((w64 m).toUInt64 >>> ((nI (8 * j)).toInt64.toUInt64 &&& Int64.toUInt64 63)).toInt64 = w64 (m / 256 ^ j) := by
  have e : ((w64 m).toUInt64 >>> ((nI (8 * j)).toInt64.toUInt64 &&& Int64.toUInt64 63)) = UInt64.ofNat (m / 256 ^ j) := by
    apply UInt64.toNat_inj.1
    rw [UInt64.toNat_shiftRight]
    have e1 : (w64 m).toUInt64.toNat = m := by
      show (BitVec.ofNat 64 m).toNat = m
      rw [BitVec.toNat_ofNat, Nat.mod_eq_of_lt hm]
    have e2 : ((nI (8 * j)).toInt64.toUInt64 &&& Int64.toUInt64 63).toNat % 64 = 8 * j := by
      rcases (show j = 0 ∨ j = 1 ∨ j = 2 ∨ j = 3 ∨ j = 4 ∨ j = 5 ∨ j = 6 ∨ j = 7 by omega) with rfl | rfl | rfl | rfl | rfl | rfl | rfl | rfl <;> decide
    have e3 : (256 : Nat) ^ j = 2 ^ (8 * j) := by rw [Nat.pow_mul]
    have e4 : m / 256 ^ j < 2 ^ 64 := Nat.lt_of_le_of_lt (Nat.div_le_self _ _) hm
    rw [e1, e2, Nat.shiftRight_eq_div_pow, UInt64.toNat_ofNat_of_lt' e4, e3]
  rw [e]
  rfl
theorem w_cz {m : Nat} (hm : m < 2 ^ 64) : (lg_cmp (w64 m) 0 = 0) = (m = 0) := by
  rw [lg_cmp_0, show (0 : Int64) = w64 0 from rfl, w_eq hm (by omega)]
theorem w_cz' {m : Nat} (hm : m < 2 ^ 64) : (lg_cmp (w64 m) (Int64.ofNat 0) = 0) = (m = 0) := w_cz hm
/-- how many letters a word has -/
theorem m_X10_letterCount (hok : ev_ok sh_S G) {f : Nat → Nat} {n : Nat} (hn : n ≤ 8) (hf : ∀ k, k < n → 0 < f k ∧ f k < 256) : ev_T sh_S G mi_X10_letterCount [.long (w64 (wN f n))] μ (.inl (some (.int (nI n)), μ)) := by
  have hb := wN_64 (fun k hk => (hf k hk).2) hn
  refine ev_tri1 hok okM_X10_letterCount (Nat.le_of_ble_eq_true rfl) 2 [0, 2] n 400 (fun k => [.long (w64 (wN f n)), .int (nI k)]) (fun _ => μ) (fun _ => True) ?_ ?_
  · intro k hk _
    rw [at_X10_letterCount_2]
    rcases Nat.lt_or_ge k n with hkn | hkn
    · have e1 := w_sr hb (show k < 8 by omega)
      have e2 : wN f n / 256 ^ k = wN f (n - k) := by
        have := wN_div (f := f) (i := n - k) (j := k) (fun j hj => (hf j (by omega)).2)
        rw [show n - k + k = n by omega] at this
        exact this
      have e3 : (lg_cmp (w64 (wN f (n - k))) 0 = 0) = False := by
        rw [w_cz (Nat.lt_of_le_of_lt (by rw [← e2]; exact Nat.div_le_self _ _) hb)]
        have := wN_pos (f := f) (n := n - k) (fun j hj => (hf j (by omega)).1) (by omega)
        exact eq_false (by omega)
      have e3' : (lg_cmp (w64 (wN f (n - k))) (Int64.ofNat 0) = 0) = False := e3
      repeat' (first
        | (with_reducible refine ev_rid ?_; simp (disch := first | omega | assumption) only [ev_run_c, ev_run_n, ev_fj, ev_stp, ev_lk, ev_fv, ev_as, ev_sz, ev_st1, ev_st2, ev_rm, ev_pk, ev_Jof, ev_go, lv_args, List.map_cons, List.map_nil, List.zip_cons_cons, List.zip_nil_left, List.zip_nil_right, List.nil_append, List.cons_append, ↓reduceIte, reduceCtorEq, Int.reduceToNat, Nat.reduceEqDiff, Nat.reduceAdd, Nat.reduceLT, Nat.reduceLeDiff, Nat.reduceMul, Nat.reduceSub, Value.category, false_implies, true_and, and_true, Bool.false_eq_true, Option.some.injEq, exists_eq_left', Option.toList_some, Option.toList_none, ev_km, ev_k2, ev_k3, ev_k4, ev_k5, ev_l0, ev_l1, sh_1, sh_2, sh_3, sh_4, sh_5, at_X10_letterCount_2, at_X10_letterCount_25, cd_X10_letterCount_0, cd_X10_letterCount_2, cd_X10_letterCount_25, ev_b_8, no_0, no_1, no_lt, no_le, no_eq, no_lt0, no_ge0, no_gt0, no_le0, no_eq0, no_0eq, no_eqm, no_meq, no_m0, no_mlt, no_mge, no_mgt, no_mm, no_i01, no_i10, no_in, no_or, no_ifm, no_mul, nI_add, no_sub, pk_div, iI_if, nI_clamp, oI_n, oI_s, not_true_eq_false, not_false_eq_true, forall_const, true_implies, false_and, and_false, or_false, false_or, Classical.not_not, true_or, or_true, no_b, no_eq1, eq_self, and_self, no_on, e1, e2, e3, e3'])
        | (with_reducible refine ev_gid ?_; simp (disch := first | omega | assumption) only [ev_run_c, ev_run_n, ev_fj, ev_stp, ev_lk, ev_fv, ev_as, ev_sz, ev_st1, ev_st2, ev_rm, ev_pk, ev_Jof, ev_go, lv_args, List.map_cons, List.map_nil, List.zip_cons_cons, List.zip_nil_left, List.zip_nil_right, List.nil_append, List.cons_append, ↓reduceIte, reduceCtorEq, Int.reduceToNat, Nat.reduceEqDiff, Nat.reduceAdd, Nat.reduceLT, Nat.reduceLeDiff, Nat.reduceMul, Nat.reduceSub, Value.category, false_implies, true_and, and_true, Bool.false_eq_true, Option.some.injEq, exists_eq_left', Option.toList_some, Option.toList_none, ev_km, ev_k2, ev_k3, ev_k4, ev_k5, ev_l0, ev_l1, sh_1, sh_2, sh_3, sh_4, sh_5, at_X10_letterCount_2, at_X10_letterCount_25, cd_X10_letterCount_0, cd_X10_letterCount_2, cd_X10_letterCount_25, ev_b_8, no_0, no_1, no_lt, no_le, no_eq, no_lt0, no_ge0, no_gt0, no_le0, no_eq0, no_0eq, no_eqm, no_meq, no_m0, no_mlt, no_mge, no_mgt, no_mm, no_i01, no_i10, no_in, no_or, no_ifm, no_mul, nI_add, no_sub, pk_div, iI_if, nI_clamp, oI_n, oI_s, not_true_eq_false, not_false_eq_true, forall_const, true_implies, false_and, and_false, or_false, false_or, Classical.not_not, true_or, or_true, no_b, no_eq1, eq_self, and_self, no_on, e1, e2, e3, e3'])
        | (with_reducible refine And.intro (fun q => ?_) (fun q => ?_) <;> (try simp (disch := first | omega | assumption) only [no_0, no_1, no_lt, no_le, no_eq, no_lt0, no_ge0, no_gt0, no_le0, no_eq0, no_0eq, no_eqm, no_meq, no_m0, no_mlt, no_mge, no_mgt, no_mm, no_i01, no_i10, no_in, no_or, no_ifm, no_mul, nI_add, no_sub, pk_div, iI_if, nI_clamp, oI_n, oI_s, not_true_eq_false, not_false_eq_true, forall_const, true_implies, false_and, and_false, or_false, false_or, Classical.not_not, true_or, or_true, no_b, no_eq1, eq_self, and_self, no_on, e1, e2, e3, e3'] at q))
        | omega
        | with_reducible assumption
        | with_reducible rfl
        | (refine Nat.lt_of_lt_of_le ?_ (Nat.le_refl 312); omega)
        | with_reducible refine lp_nx ?_ ?_ ?_ ?_
        | with_reducible refine lp_st ?_ ?_ ?_
        | with_reducible refine ls_c ?_ ?_
        | with_reducible refine vi_c ?_
        | with_reducible refine re_c ?_
        | with_reducible refine vz_c ?_
        | with_reducible refine rz_c ?_
        | exact trivial
        | with_reducible refine And.intro ?_ ?_
        | simp (disch := first | omega | assumption) only [ev_run_c, ev_run_n, ev_fj, ev_stp, ev_lk, ev_fv, ev_as, ev_sz, ev_st1, ev_st2, ev_rm, ev_pk, ev_Jof, ev_go, lv_args, List.map_cons, List.map_nil, List.zip_cons_cons, List.zip_nil_left, List.zip_nil_right, List.nil_append, List.cons_append, ↓reduceIte, reduceCtorEq, Int.reduceToNat, Nat.reduceEqDiff, Nat.reduceAdd, Nat.reduceLT, Nat.reduceLeDiff, Nat.reduceMul, Nat.reduceSub, Value.category, false_implies, true_and, and_true, Bool.false_eq_true, Option.some.injEq, exists_eq_left', Option.toList_some, Option.toList_none, ev_km, ev_k2, ev_k3, ev_k4, ev_k5, ev_l0, ev_l1, sh_1, sh_2, sh_3, sh_4, sh_5, at_X10_letterCount_2, at_X10_letterCount_25, cd_X10_letterCount_0, cd_X10_letterCount_2, cd_X10_letterCount_25, ev_b_8, no_0, no_1, no_lt, no_le, no_eq, no_lt0, no_ge0, no_gt0, no_le0, no_eq0, no_0eq, no_eqm, no_meq, no_m0, no_mlt, no_mge, no_mgt, no_mm, no_i01, no_i10, no_in, no_or, no_ifm, no_mul, nI_add, no_sub, pk_div, iI_if, nI_clamp, oI_n, oI_s, not_true_eq_false, not_false_eq_true, forall_const, true_implies, false_and, and_false, or_false, false_or, Classical.not_not, true_or, or_true, no_b, no_eq1, eq_self, and_self, no_on, e1, e2, e3, e3']
        | exact rfl
        | (split <;> omega))
    · have hkn : n = k := by omega
      subst hkn
      by_cases c : n = 8
      · subst c
        repeat' (first
          | (with_reducible refine ev_rid ?_; simp (disch := first | omega | assumption) only [ev_run_c, ev_run_n, ev_fj, ev_stp, ev_lk, ev_fv, ev_as, ev_sz, ev_st1, ev_st2, ev_rm, ev_pk, ev_Jof, ev_go, lv_args, List.map_cons, List.map_nil, List.zip_cons_cons, List.zip_nil_left, List.zip_nil_right, List.nil_append, List.cons_append, ↓reduceIte, reduceCtorEq, Int.reduceToNat, Nat.reduceEqDiff, Nat.reduceAdd, Nat.reduceLT, Nat.reduceLeDiff, Nat.reduceMul, Nat.reduceSub, Value.category, false_implies, true_and, and_true, Bool.false_eq_true, Option.some.injEq, exists_eq_left', Option.toList_some, Option.toList_none, ev_km, ev_k2, ev_k3, ev_k4, ev_k5, ev_l0, ev_l1, sh_1, sh_2, sh_3, sh_4, sh_5, at_X10_letterCount_2, at_X10_letterCount_25, cd_X10_letterCount_0, cd_X10_letterCount_2, cd_X10_letterCount_25, ev_b_8, no_0, no_1, no_lt, no_le, no_eq, no_lt0, no_ge0, no_gt0, no_le0, no_eq0, no_0eq, no_eqm, no_meq, no_m0, no_mlt, no_mge, no_mgt, no_mm, no_i01, no_i10, no_in, no_or, no_ifm, no_mul, nI_add, no_sub, pk_div, iI_if, nI_clamp, oI_n, oI_s, not_true_eq_false, not_false_eq_true, forall_const, true_implies, false_and, and_false, or_false, false_or, Classical.not_not, true_or, or_true, no_b, no_eq1, eq_self, and_self, no_on])
          | (with_reducible refine ev_gid ?_; simp (disch := first | omega | assumption) only [ev_run_c, ev_run_n, ev_fj, ev_stp, ev_lk, ev_fv, ev_as, ev_sz, ev_st1, ev_st2, ev_rm, ev_pk, ev_Jof, ev_go, lv_args, List.map_cons, List.map_nil, List.zip_cons_cons, List.zip_nil_left, List.zip_nil_right, List.nil_append, List.cons_append, ↓reduceIte, reduceCtorEq, Int.reduceToNat, Nat.reduceEqDiff, Nat.reduceAdd, Nat.reduceLT, Nat.reduceLeDiff, Nat.reduceMul, Nat.reduceSub, Value.category, false_implies, true_and, and_true, Bool.false_eq_true, Option.some.injEq, exists_eq_left', Option.toList_some, Option.toList_none, ev_km, ev_k2, ev_k3, ev_k4, ev_k5, ev_l0, ev_l1, sh_1, sh_2, sh_3, sh_4, sh_5, at_X10_letterCount_2, at_X10_letterCount_25, cd_X10_letterCount_0, cd_X10_letterCount_2, cd_X10_letterCount_25, ev_b_8, no_0, no_1, no_lt, no_le, no_eq, no_lt0, no_ge0, no_gt0, no_le0, no_eq0, no_0eq, no_eqm, no_meq, no_m0, no_mlt, no_mge, no_mgt, no_mm, no_i01, no_i10, no_in, no_or, no_ifm, no_mul, nI_add, no_sub, pk_div, iI_if, nI_clamp, oI_n, oI_s, not_true_eq_false, not_false_eq_true, forall_const, true_implies, false_and, and_false, or_false, false_or, Classical.not_not, true_or, or_true, no_b, no_eq1, eq_self, and_self, no_on])
          | (with_reducible refine And.intro (fun q => ?_) (fun q => ?_) <;> (try simp (disch := first | omega | assumption) only [no_0, no_1, no_lt, no_le, no_eq, no_lt0, no_ge0, no_gt0, no_le0, no_eq0, no_0eq, no_eqm, no_meq, no_m0, no_mlt, no_mge, no_mgt, no_mm, no_i01, no_i10, no_in, no_or, no_ifm, no_mul, nI_add, no_sub, pk_div, iI_if, nI_clamp, oI_n, oI_s, not_true_eq_false, not_false_eq_true, forall_const, true_implies, false_and, and_false, or_false, false_or, Classical.not_not, true_or, or_true, no_b, no_eq1, eq_self, and_self, no_on] at q))
          | omega
          | with_reducible assumption
          | with_reducible rfl
          | (refine Nat.lt_of_lt_of_le ?_ (Nat.le_refl 312); omega)
          | with_reducible refine lp_nx ?_ ?_ ?_ ?_
          | with_reducible refine lp_st ?_ ?_ ?_
          | with_reducible refine ls_c ?_ ?_
          | with_reducible refine vi_c ?_
          | with_reducible refine re_c ?_
          | with_reducible refine vz_c ?_
          | with_reducible refine rz_c ?_
          | exact trivial
          | with_reducible refine And.intro ?_ ?_
          | simp (disch := first | omega | assumption) only [ev_run_c, ev_run_n, ev_fj, ev_stp, ev_lk, ev_fv, ev_as, ev_sz, ev_st1, ev_st2, ev_rm, ev_pk, ev_Jof, ev_go, lv_args, List.map_cons, List.map_nil, List.zip_cons_cons, List.zip_nil_left, List.zip_nil_right, List.nil_append, List.cons_append, ↓reduceIte, reduceCtorEq, Int.reduceToNat, Nat.reduceEqDiff, Nat.reduceAdd, Nat.reduceLT, Nat.reduceLeDiff, Nat.reduceMul, Nat.reduceSub, Value.category, false_implies, true_and, and_true, Bool.false_eq_true, Option.some.injEq, exists_eq_left', Option.toList_some, Option.toList_none, ev_km, ev_k2, ev_k3, ev_k4, ev_k5, ev_l0, ev_l1, sh_1, sh_2, sh_3, sh_4, sh_5, at_X10_letterCount_2, at_X10_letterCount_25, cd_X10_letterCount_0, cd_X10_letterCount_2, cd_X10_letterCount_25, ev_b_8, no_0, no_1, no_lt, no_le, no_eq, no_lt0, no_ge0, no_gt0, no_le0, no_eq0, no_0eq, no_eqm, no_meq, no_m0, no_mlt, no_mge, no_mgt, no_mm, no_i01, no_i10, no_in, no_or, no_ifm, no_mul, nI_add, no_sub, pk_div, iI_if, nI_clamp, oI_n, oI_s, not_true_eq_false, not_false_eq_true, forall_const, true_implies, false_and, and_false, or_false, false_or, Classical.not_not, true_or, or_true, no_b, no_eq1, eq_self, and_self, no_on]
          | exact rfl
          | (split <;> omega))
      · have e1 := w_sr hb (show n < 8 by omega)
        have e2 : wN f n / 256 ^ n = 0 := Nat.div_eq_of_lt (wN_lt (fun k hk => (hf k hk).2))
        have e3 : (lg_cmp (w64 0) 0 = 0) = True := by rw [w_cz (by omega)]; exact eq_true rfl
        have e3' : (lg_cmp (w64 0) (Int64.ofNat 0) = 0) = True := e3
        repeat' (first
          | (with_reducible refine ev_rid ?_; simp (disch := first | omega | assumption) only [ev_run_c, ev_run_n, ev_fj, ev_stp, ev_lk, ev_fv, ev_as, ev_sz, ev_st1, ev_st2, ev_rm, ev_pk, ev_Jof, ev_go, lv_args, List.map_cons, List.map_nil, List.zip_cons_cons, List.zip_nil_left, List.zip_nil_right, List.nil_append, List.cons_append, ↓reduceIte, reduceCtorEq, Int.reduceToNat, Nat.reduceEqDiff, Nat.reduceAdd, Nat.reduceLT, Nat.reduceLeDiff, Nat.reduceMul, Nat.reduceSub, Value.category, false_implies, true_and, and_true, Bool.false_eq_true, Option.some.injEq, exists_eq_left', Option.toList_some, Option.toList_none, ev_km, ev_k2, ev_k3, ev_k4, ev_k5, ev_l0, ev_l1, sh_1, sh_2, sh_3, sh_4, sh_5, at_X10_letterCount_2, at_X10_letterCount_25, cd_X10_letterCount_0, cd_X10_letterCount_2, cd_X10_letterCount_25, ev_b_8, no_0, no_1, no_lt, no_le, no_eq, no_lt0, no_ge0, no_gt0, no_le0, no_eq0, no_0eq, no_eqm, no_meq, no_m0, no_mlt, no_mge, no_mgt, no_mm, no_i01, no_i10, no_in, no_or, no_ifm, no_mul, nI_add, no_sub, pk_div, iI_if, nI_clamp, oI_n, oI_s, not_true_eq_false, not_false_eq_true, forall_const, true_implies, false_and, and_false, or_false, false_or, Classical.not_not, true_or, or_true, no_b, no_eq1, eq_self, and_self, no_on, e1, e2, e3, e3'])
          | (with_reducible refine ev_gid ?_; simp (disch := first | omega | assumption) only [ev_run_c, ev_run_n, ev_fj, ev_stp, ev_lk, ev_fv, ev_as, ev_sz, ev_st1, ev_st2, ev_rm, ev_pk, ev_Jof, ev_go, lv_args, List.map_cons, List.map_nil, List.zip_cons_cons, List.zip_nil_left, List.zip_nil_right, List.nil_append, List.cons_append, ↓reduceIte, reduceCtorEq, Int.reduceToNat, Nat.reduceEqDiff, Nat.reduceAdd, Nat.reduceLT, Nat.reduceLeDiff, Nat.reduceMul, Nat.reduceSub, Value.category, false_implies, true_and, and_true, Bool.false_eq_true, Option.some.injEq, exists_eq_left', Option.toList_some, Option.toList_none, ev_km, ev_k2, ev_k3, ev_k4, ev_k5, ev_l0, ev_l1, sh_1, sh_2, sh_3, sh_4, sh_5, at_X10_letterCount_2, at_X10_letterCount_25, cd_X10_letterCount_0, cd_X10_letterCount_2, cd_X10_letterCount_25, ev_b_8, no_0, no_1, no_lt, no_le, no_eq, no_lt0, no_ge0, no_gt0, no_le0, no_eq0, no_0eq, no_eqm, no_meq, no_m0, no_mlt, no_mge, no_mgt, no_mm, no_i01, no_i10, no_in, no_or, no_ifm, no_mul, nI_add, no_sub, pk_div, iI_if, nI_clamp, oI_n, oI_s, not_true_eq_false, not_false_eq_true, forall_const, true_implies, false_and, and_false, or_false, false_or, Classical.not_not, true_or, or_true, no_b, no_eq1, eq_self, and_self, no_on, e1, e2, e3, e3'])
          | (with_reducible refine And.intro (fun q => ?_) (fun q => ?_) <;> (try simp (disch := first | omega | assumption) only [no_0, no_1, no_lt, no_le, no_eq, no_lt0, no_ge0, no_gt0, no_le0, no_eq0, no_0eq, no_eqm, no_meq, no_m0, no_mlt, no_mge, no_mgt, no_mm, no_i01, no_i10, no_in, no_or, no_ifm, no_mul, nI_add, no_sub, pk_div, iI_if, nI_clamp, oI_n, oI_s, not_true_eq_false, not_false_eq_true, forall_const, true_implies, false_and, and_false, or_false, false_or, Classical.not_not, true_or, or_true, no_b, no_eq1, eq_self, and_self, no_on, e1, e2, e3, e3'] at q))
          | omega
          | with_reducible assumption
          | with_reducible rfl
          | (refine Nat.lt_of_lt_of_le ?_ (Nat.le_refl 312); omega)
          | with_reducible refine lp_nx ?_ ?_ ?_ ?_
          | with_reducible refine lp_st ?_ ?_ ?_
          | with_reducible refine ls_c ?_ ?_
          | with_reducible refine vi_c ?_
          | with_reducible refine re_c ?_
          | with_reducible refine vz_c ?_
          | with_reducible refine rz_c ?_
          | exact trivial
          | with_reducible refine And.intro ?_ ?_
          | simp (disch := first | omega | assumption) only [ev_run_c, ev_run_n, ev_fj, ev_stp, ev_lk, ev_fv, ev_as, ev_sz, ev_st1, ev_st2, ev_rm, ev_pk, ev_Jof, ev_go, lv_args, List.map_cons, List.map_nil, List.zip_cons_cons, List.zip_nil_left, List.zip_nil_right, List.nil_append, List.cons_append, ↓reduceIte, reduceCtorEq, Int.reduceToNat, Nat.reduceEqDiff, Nat.reduceAdd, Nat.reduceLT, Nat.reduceLeDiff, Nat.reduceMul, Nat.reduceSub, Value.category, false_implies, true_and, and_true, Bool.false_eq_true, Option.some.injEq, exists_eq_left', Option.toList_some, Option.toList_none, ev_km, ev_k2, ev_k3, ev_k4, ev_k5, ev_l0, ev_l1, sh_1, sh_2, sh_3, sh_4, sh_5, at_X10_letterCount_2, at_X10_letterCount_25, cd_X10_letterCount_0, cd_X10_letterCount_2, cd_X10_letterCount_25, ev_b_8, no_0, no_1, no_lt, no_le, no_eq, no_lt0, no_ge0, no_gt0, no_le0, no_eq0, no_0eq, no_eqm, no_meq, no_m0, no_mlt, no_mge, no_mgt, no_mm, no_i01, no_i10, no_in, no_or, no_ifm, no_mul, nI_add, no_sub, pk_div, iI_if, nI_clamp, oI_n, oI_s, not_true_eq_false, not_false_eq_true, forall_const, true_implies, false_and, and_false, or_false, false_or, Classical.not_not, true_or, or_true, no_b, no_eq1, eq_self, and_self, no_on, e1, e2, e3, e3']
          | exact rfl
          | (split <;> omega))
  · rw [at_X10_letterCount_0]
    repeat' (first
      | (with_reducible refine ev_rid ?_; simp (disch := first | omega | assumption) only [ev_run_c, ev_run_n, ev_fj, ev_stp, ev_lk, ev_fv, ev_as, ev_sz, ev_st1, ev_st2, ev_rm, ev_pk, ev_Jof, ev_go, lv_args, List.map_cons, List.map_nil, List.zip_cons_cons, List.zip_nil_left, List.zip_nil_right, List.nil_append, List.cons_append, ↓reduceIte, reduceCtorEq, Int.reduceToNat, Nat.reduceEqDiff, Nat.reduceAdd, Nat.reduceLT, Nat.reduceLeDiff, Nat.reduceMul, Nat.reduceSub, Value.category, false_implies, true_and, and_true, Bool.false_eq_true, Option.some.injEq, exists_eq_left', Option.toList_some, Option.toList_none, ev_km, ev_k2, ev_k3, ev_k4, ev_k5, ev_l0, ev_l1, sh_1, sh_2, sh_3, sh_4, sh_5, at_X10_letterCount_2, at_X10_letterCount_25, cd_X10_letterCount_0, cd_X10_letterCount_2, cd_X10_letterCount_25, ev_b_8, no_0, no_1, no_lt, no_le, no_eq, no_lt0, no_ge0, no_gt0, no_le0, no_eq0, no_0eq, no_eqm, no_meq, no_m0, no_mlt, no_mge, no_mgt, no_mm, no_i01, no_i10, no_in, no_or, no_ifm, no_mul, nI_add, no_sub, pk_div, iI_if, nI_clamp, oI_n, oI_s, not_true_eq_false, not_false_eq_true, forall_const, true_implies, false_and, and_false, or_false, false_or, Classical.not_not, true_or, or_true, no_b, no_eq1, eq_self, and_self, no_on])
      | (with_reducible refine ev_gid ?_; simp (disch := first | omega | assumption) only [ev_run_c, ev_run_n, ev_fj, ev_stp, ev_lk, ev_fv, ev_as, ev_sz, ev_st1, ev_st2, ev_rm, ev_pk, ev_Jof, ev_go, lv_args, List.map_cons, List.map_nil, List.zip_cons_cons, List.zip_nil_left, List.zip_nil_right, List.nil_append, List.cons_append, ↓reduceIte, reduceCtorEq, Int.reduceToNat, Nat.reduceEqDiff, Nat.reduceAdd, Nat.reduceLT, Nat.reduceLeDiff, Nat.reduceMul, Nat.reduceSub, Value.category, false_implies, true_and, and_true, Bool.false_eq_true, Option.some.injEq, exists_eq_left', Option.toList_some, Option.toList_none, ev_km, ev_k2, ev_k3, ev_k4, ev_k5, ev_l0, ev_l1, sh_1, sh_2, sh_3, sh_4, sh_5, at_X10_letterCount_2, at_X10_letterCount_25, cd_X10_letterCount_0, cd_X10_letterCount_2, cd_X10_letterCount_25, ev_b_8, no_0, no_1, no_lt, no_le, no_eq, no_lt0, no_ge0, no_gt0, no_le0, no_eq0, no_0eq, no_eqm, no_meq, no_m0, no_mlt, no_mge, no_mgt, no_mm, no_i01, no_i10, no_in, no_or, no_ifm, no_mul, nI_add, no_sub, pk_div, iI_if, nI_clamp, oI_n, oI_s, not_true_eq_false, not_false_eq_true, forall_const, true_implies, false_and, and_false, or_false, false_or, Classical.not_not, true_or, or_true, no_b, no_eq1, eq_self, and_self, no_on])
      | (with_reducible refine And.intro (fun q => ?_) (fun q => ?_) <;> (try simp (disch := first | omega | assumption) only [no_0, no_1, no_lt, no_le, no_eq, no_lt0, no_ge0, no_gt0, no_le0, no_eq0, no_0eq, no_eqm, no_meq, no_m0, no_mlt, no_mge, no_mgt, no_mm, no_i01, no_i10, no_in, no_or, no_ifm, no_mul, nI_add, no_sub, pk_div, iI_if, nI_clamp, oI_n, oI_s, not_true_eq_false, not_false_eq_true, forall_const, true_implies, false_and, and_false, or_false, false_or, Classical.not_not, true_or, or_true, no_b, no_eq1, eq_self, and_self, no_on] at q))
      | omega
      | with_reducible assumption
      | with_reducible rfl
      | (refine Nat.lt_of_lt_of_le ?_ (Nat.le_refl 312); omega)
      | with_reducible refine lp_nx ?_ ?_ ?_ ?_
      | with_reducible refine lp_st ?_ ?_ ?_
      | with_reducible refine ls_c ?_ ?_
      | with_reducible refine vi_c ?_
      | with_reducible refine re_c ?_
      | with_reducible refine vz_c ?_
      | with_reducible refine rz_c ?_
      | exact trivial
      | with_reducible refine And.intro ?_ ?_
      | simp (disch := first | omega | assumption) only [ev_run_c, ev_run_n, ev_fj, ev_stp, ev_lk, ev_fv, ev_as, ev_sz, ev_st1, ev_st2, ev_rm, ev_pk, ev_Jof, ev_go, lv_args, List.map_cons, List.map_nil, List.zip_cons_cons, List.zip_nil_left, List.zip_nil_right, List.nil_append, List.cons_append, ↓reduceIte, reduceCtorEq, Int.reduceToNat, Nat.reduceEqDiff, Nat.reduceAdd, Nat.reduceLT, Nat.reduceLeDiff, Nat.reduceMul, Nat.reduceSub, Value.category, false_implies, true_and, and_true, Bool.false_eq_true, Option.some.injEq, exists_eq_left', Option.toList_some, Option.toList_none, ev_km, ev_k2, ev_k3, ev_k4, ev_k5, ev_l0, ev_l1, sh_1, sh_2, sh_3, sh_4, sh_5, at_X10_letterCount_2, at_X10_letterCount_25, cd_X10_letterCount_0, cd_X10_letterCount_2, cd_X10_letterCount_25, ev_b_8, no_0, no_1, no_lt, no_le, no_eq, no_lt0, no_ge0, no_gt0, no_le0, no_eq0, no_0eq, no_eqm, no_meq, no_m0, no_mlt, no_mge, no_mgt, no_mm, no_i01, no_i10, no_in, no_or, no_ifm, no_mul, nI_add, no_sub, pk_div, iI_if, nI_clamp, oI_n, oI_s, not_true_eq_false, not_false_eq_true, forall_const, true_implies, false_and, and_false, or_false, false_or, Classical.not_not, true_or, or_true, no_b, no_eq1, eq_self, and_self, no_on]
      | exact rfl
      | (split <;> omega))
theorem w_and {z : Nat} : (w64 z).toInt32 &&& nI 255 = nI (z % 256) := by
  have e : (w64 z).toInt32 = Int32.ofNat z := Int64.toInt32_ofNat'
  have e2 : z % 256 = z &&& 255 := (Nat.and_two_pow_sub_one_eq_mod z 8).symm
  rw [e, e2]
  apply Int32.toBitVec_inj.1
  show BitVec.ofNat 32 z &&& BitVec.ofNat 32 255 = BitVec.ofNat 32 (z &&& 255)
  exact BitVec.ofNat_and.symm
theorem m_X10_letterOf (hok : ev_ok sh_S G) {f : Nat → Nat} {n i : Nat} (hn : n ≤ 8) (hf : ∀ k, k < n → f k < 256) (hi : i < n) : ev_T sh_S G mi_X10_letterOf [.long (w64 (wN f n)), .int (nI n), .int (nI i)] μ (.inl (some (.int (nI (f i))), μ)) := by
  have hb := wN_64 hf hn
  have e1 := w_sr hb (show n - 1 - i < 8 by omega)
  have e2 : wN f n / 256 ^ (n - 1 - i) = wN f (i + 1) := by
    have := wN_div (f := f) (i := i + 1) (j := n - 1 - i) (fun j hj => hf j (by omega))
    rw [show i + 1 + (n - 1 - i) = n by omega] at this
    exact this
  have e3 : wN f (i + 1) % 256 = f i := by
    have := hf i (by omega)
    show (wN f i * 256 + f i) % 256 = f i
    omega
  refine ev_tri hok okM_X10_letterOf (Nat.le_of_ble_eq_true rfl) 400 ?_
  rw [at_X10_letterOf_0]
  repeat' (first
    | (with_reducible refine ev_rid ?_; simp (disch := first | omega | assumption) only [ev_run_c, ev_run_n, ev_fj, ev_stp, ev_lk, ev_fv, ev_as, ev_sz, ev_st1, ev_st2, ev_rm, ev_pk, ev_Jof, ev_go, lv_args, List.map_cons, List.map_nil, List.zip_cons_cons, List.zip_nil_left, List.zip_nil_right, List.nil_append, List.cons_append, ↓reduceIte, reduceCtorEq, Int.reduceToNat, Nat.reduceEqDiff, Nat.reduceAdd, Nat.reduceLT, Nat.reduceLeDiff, Nat.reduceMul, Nat.reduceSub, Value.category, false_implies, true_and, and_true, Bool.false_eq_true, Option.some.injEq, exists_eq_left', Option.toList_some, Option.toList_none, ev_km, ev_k2, ev_k3, ev_k4, ev_k5, ev_l0, ev_l1, sh_1, sh_2, sh_3, sh_4, sh_5, cd_X10_letterOf_0, ev_b_8, ev_h_255, no_0, no_1, no_lt, no_le, no_eq, no_lt0, no_ge0, no_gt0, no_le0, no_eq0, no_0eq, no_eqm, no_meq, no_m0, no_mlt, no_mge, no_mgt, no_mm, no_i01, no_i10, no_in, no_or, no_ifm, no_mul, nI_add, no_sub, pk_div, iI_if, nI_clamp, oI_n, oI_s, not_true_eq_false, not_false_eq_true, forall_const, true_implies, false_and, and_false, or_false, false_or, Classical.not_not, true_or, or_true, no_b, no_eq1, eq_self, and_self, no_on, e1, e2, w_and, e3])
    | (with_reducible refine ev_gid ?_; simp (disch := first | omega | assumption) only [ev_run_c, ev_run_n, ev_fj, ev_stp, ev_lk, ev_fv, ev_as, ev_sz, ev_st1, ev_st2, ev_rm, ev_pk, ev_Jof, ev_go, lv_args, List.map_cons, List.map_nil, List.zip_cons_cons, List.zip_nil_left, List.zip_nil_right, List.nil_append, List.cons_append, ↓reduceIte, reduceCtorEq, Int.reduceToNat, Nat.reduceEqDiff, Nat.reduceAdd, Nat.reduceLT, Nat.reduceLeDiff, Nat.reduceMul, Nat.reduceSub, Value.category, false_implies, true_and, and_true, Bool.false_eq_true, Option.some.injEq, exists_eq_left', Option.toList_some, Option.toList_none, ev_km, ev_k2, ev_k3, ev_k4, ev_k5, ev_l0, ev_l1, sh_1, sh_2, sh_3, sh_4, sh_5, cd_X10_letterOf_0, ev_b_8, ev_h_255, no_0, no_1, no_lt, no_le, no_eq, no_lt0, no_ge0, no_gt0, no_le0, no_eq0, no_0eq, no_eqm, no_meq, no_m0, no_mlt, no_mge, no_mgt, no_mm, no_i01, no_i10, no_in, no_or, no_ifm, no_mul, nI_add, no_sub, pk_div, iI_if, nI_clamp, oI_n, oI_s, not_true_eq_false, not_false_eq_true, forall_const, true_implies, false_and, and_false, or_false, false_or, Classical.not_not, true_or, or_true, no_b, no_eq1, eq_self, and_self, no_on, e1, e2, w_and, e3])
    | (with_reducible refine And.intro (fun q => ?_) (fun q => ?_) <;> (try simp (disch := first | omega | assumption) only [no_0, no_1, no_lt, no_le, no_eq, no_lt0, no_ge0, no_gt0, no_le0, no_eq0, no_0eq, no_eqm, no_meq, no_m0, no_mlt, no_mge, no_mgt, no_mm, no_i01, no_i10, no_in, no_or, no_ifm, no_mul, nI_add, no_sub, pk_div, iI_if, nI_clamp, oI_n, oI_s, not_true_eq_false, not_false_eq_true, forall_const, true_implies, false_and, and_false, or_false, false_or, Classical.not_not, true_or, or_true, no_b, no_eq1, eq_self, and_self, no_on, e1, e2, w_and, e3] at q))
    | omega
    | with_reducible assumption
    | with_reducible rfl
    | (refine Nat.lt_of_lt_of_le ?_ (Nat.le_refl 312); omega)
    | with_reducible refine lp_nx ?_ ?_ ?_ ?_
    | with_reducible refine lp_st ?_ ?_ ?_
    | with_reducible refine ls_c ?_ ?_
    | with_reducible refine vi_c ?_
    | with_reducible refine re_c ?_
    | with_reducible refine vz_c ?_
    | with_reducible refine rz_c ?_
    | exact trivial
    | with_reducible refine And.intro ?_ ?_
    | simp (disch := first | omega | assumption) only [ev_run_c, ev_run_n, ev_fj, ev_stp, ev_lk, ev_fv, ev_as, ev_sz, ev_st1, ev_st2, ev_rm, ev_pk, ev_Jof, ev_go, lv_args, List.map_cons, List.map_nil, List.zip_cons_cons, List.zip_nil_left, List.zip_nil_right, List.nil_append, List.cons_append, ↓reduceIte, reduceCtorEq, Int.reduceToNat, Nat.reduceEqDiff, Nat.reduceAdd, Nat.reduceLT, Nat.reduceLeDiff, Nat.reduceMul, Nat.reduceSub, Value.category, false_implies, true_and, and_true, Bool.false_eq_true, Option.some.injEq, exists_eq_left', Option.toList_some, Option.toList_none, ev_km, ev_k2, ev_k3, ev_k4, ev_k5, ev_l0, ev_l1, sh_1, sh_2, sh_3, sh_4, sh_5, cd_X10_letterOf_0, ev_b_8, ev_h_255, no_0, no_1, no_lt, no_le, no_eq, no_lt0, no_ge0, no_gt0, no_le0, no_eq0, no_0eq, no_eqm, no_meq, no_m0, no_mlt, no_mge, no_mgt, no_mm, no_i01, no_i10, no_in, no_or, no_ifm, no_mul, nI_add, no_sub, pk_div, iI_if, nI_clamp, oI_n, oI_s, not_true_eq_false, not_false_eq_true, forall_const, true_implies, false_and, and_false, or_false, false_or, Classical.not_not, true_or, or_true, no_b, no_eq1, eq_self, and_self, no_on, e1, e2, w_and, e3]
    | exact rfl
    | (split <;> omega))
end Words
