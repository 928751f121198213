/-! ===== the class: filling, the whole ===== -/
section XFill2
variable {G : ev_G} {N : Nat → Nat} {μ : ev_M} {p : Nat}
def xst (p : Nat) (s : (Nat → Nat) × (Nat → Nat)) (z : ev_M × Nat) : ev_M × Nat := match ned s.1 s.2 (s.1 1) with
  | none => z
  | some q => match best s.1 q (s.1 0) with
    | some i => (x_add (p + 16) q (s.1 (952 + 9 * q + 5)) i z.1, z.2)
    | none => match trs s.1 q with
      | some x => (x_mv p q x.1 x.2.1 x.2.2 s.1 z.1, z.2)
      | none => (z.1, z.2 + 2 ^ q)
def xzs (p : Nat) (N : Nat → Nat) (μ : ev_M) : Nat → ev_M × Nat
  | 0 => (μ, 0)
  | k + 1 => xst p (itf (N, fun _ => 0) k) (xzs p N μ k)
theorem xst_0 {s : (Nat → Nat) × (Nat → Nat)} {z : ev_M × Nat} (h : ned s.1 s.2 (s.1 1) = none) : xst p s z = z := by unfold xst; rw [h]
theorem xst_1 {s : (Nat → Nat) × (Nat → Nat)} {z : ev_M × Nat} {q i : Nat} (h : ned s.1 s.2 (s.1 1) = some q) (h2 : best s.1 q (s.1 0) = some i) : xst p s z = (x_add (p + 16) q (s.1 (952 + 9 * q + 5)) i z.1, z.2) := by unfold xst; rw [h]; dsimp only; rw [h2]
theorem xst_2 {s : (Nat → Nat) × (Nat → Nat)} {z : ev_M × Nat} {q t l u : Nat} (h : ned s.1 s.2 (s.1 1) = some q) (h2 : best s.1 q (s.1 0) = none) (h3 : trs s.1 q = some (t, l, u)) : xst p s z = (x_mv p q t l u s.1 z.1, z.2) := by unfold xst; rw [h]; dsimp only; rw [h2]; dsimp only; rw [h3]
theorem xst_3 {s : (Nat → Nat) × (Nat → Nat)} {z : ev_M × Nat} {q : Nat} (h : ned s.1 s.2 (s.1 1) = some q) (h2 : best s.1 q (s.1 0) = none) (h3 : trs s.1 q = none) : xst p s z = (z.1, z.2 + 2 ^ q) := by unfold xst; rw [h]; dsimp only; rw [h2]; dsimp only; rw [h3]
theorem fs_none {s : (Nat → Nat) × (Nat → Nat)} (h : fs s = none) : ned s.1 s.2 (s.1 1) = none := by
  cases q : ned s.1 s.2 (s.1 1) with
  | none => rfl
  | some p =>
    unfold fs at h
    rw [q] at h
    dsimp only at h
    split at h
    · cases h
    · split at h <;> cases h
theorem xzs_st {n m : Nat} (h : fs (itf (N, fun _ => 0) n) = none) (hm : n ≤ m) : xzs p N μ m = xzs p N μ n := by
  induction m with
  | zero => rw [show n = 0 by omega]
  | succ m ih =>
    rcases Nat.lt_or_ge n (m + 1) with h1 | h1
    · show xst p (itf (N, fun _ => 0) m) (xzs p N μ m) = _
      rw [itf_st h (show n ≤ m by omega), xst_0 (fs_none h), ih (by omega)]
    · rw [show n = m + 1 by omega]
theorem up_up4 {A : Nat → Nat} {k c d : Nat} : up (up A k c) k d = up A k d := by
  funext j
  unfold up
  split <;> rfl
theorem st_u4 {A : Nat → Nat} {c i q : Nat} : up (stN A i q) 4 c = stN (up A 4 c) i q := by
  funext j
  unfold stN
  rw [up_ne (show 952 + 9 * q + 5 ≠ 4 by omega)]
  unfold up
  by_cases h : j = 4
  · rw [if_pos h, if_neg (by omega), if_neg (by omega), if_pos h]
  · rw [if_neg h, if_neg h]
theorem xmv_4 {A : Nat → Nat} {c p0 t q u : Nat} : x_mv p p0 t q u (up A 4 c) μ = x_mv p p0 t q u A μ := by
  unfold x_mv
  rw [ag_sP (ag_4 (N := A) (c := c)), up_ne (show 952 + 9 * p0 + 5 ≠ 4 by omega), up_ne (show 952 + 9 * q + 5 ≠ 4 by omega), up_ne (show 5 ≠ 4 by omega)]
theorem mv_u4 {A : Nat → Nat} {c p0 t q u : Nat} (ht : t < 16) : up (mvN A t p0 q u) 4 c = up (stN (stN (lvN (up A 4 c) t q) u q) t p0) 5 (up A 4 c 5 + 1) := by
  have e : lvN (up A 4 c) t q = up (lvN A t q) 4 c := by
    funext j
    unfold lvN shN
    rw [ag_sP (ag_4 (N := A) (c := c)), up_ne (show 952 + 9 * q + 5 ≠ 4 by omega)]
    unfold up
    dsimp only
    by_cases h : j = 4
    · rw [if_pos h, if_neg (by omega), if_neg (by omega), if_neg (by omega), if_pos h]
    · rw [if_neg h]
      by_cases h1 : j = 8 + 59 * t + (23 + q)
      · rw [if_pos h1, if_pos h1, if_neg h]
      · rw [if_neg h1, if_neg h1]
        by_cases h2 : j = 952 + 9 * q + 5
        · rw [if_pos h2, if_pos h2, if_neg h]
        · rw [if_neg h2, if_neg h2]
          by_cases h3 : 952 + 9 * q + (6 + sP A q t) ≤ j ∧ j < 952 + 9 * q + (6 + (A (952 + 9 * q + 5) - 1))
          · rw [if_pos h3, if_pos h3, if_neg (by omega), if_neg h]
          · rw [if_neg h3, if_neg h3, if_neg h]
  rw [e, ← st_u4, ← st_u4, up_ne (show 5 ≠ 4 by omega)]
  unfold mvN
  funext j
  unfold up
  by_cases h : j = 4
  · rw [if_pos h, if_neg (by omega), if_pos h]
  · rw [if_neg h]
    by_cases h2 : j = 5
    · rw [if_pos h2, if_pos h2]
    · rw [if_neg h2, if_neg h2, if_neg h]; first | rfl | (rw [if_neg h])
/-- the class's side keeps up -/
theorem xzs_ok (hP : PR p N μ) (hI : INV N) (k : Nat) : PR p (up (itf (N, fun _ => 0) k).1 4 (N 4)) (xzs p N μ k).1 ∧ GB (xzs p N μ k).2 (itf (N, fun _ => 0) k).2 := by
  have hg0 : ∀ k, k < 10 → (fun _ => 0 : Nat → Nat) k < 2 := fun _ _ => by (try dsimp only); omega
  induction k with
  | zero =>
    refine ⟨?_, by show 0 < 1024; omega, fun k _ => ?_⟩
    · have e : up (itf (N, fun _ => 0) 0).1 4 (N 4) = N := by
        funext j
        show (if j = 4 then N 4 else N j) = N j
        split
        · rename_i h; rw [h]
        · rfl
      rw [e]
      exact hP
    · show 0 / 2 ^ k % 2 = 0
      rw [Nat.zero_div]
  | succ k ih =>
    obtain ⟨i1, i2, i3, i4, i5, -⟩ := itf_ok (s := (N, fun _ => 0)) hI hg0 k
    show PR p (up (itf (N, fun _ => 0) (k + 1)).1 4 (N 4)) (xst p (itf (N, fun _ => 0) k) (xzs p N μ k)).1 ∧ GB (xst p (itf (N, fun _ => 0) k) (xzs p N μ k)).2 (itf (N, fun _ => 0) (k + 1)).2
    cases hs : fs (itf (N, fun _ => 0) k) with
    | none => rw [itf_n hs, xst_0 (fs_none hs)]; exact ih
    | some s' =>
      rw [itf_s hs]
      obtain ⟨h1, h2⟩ := ih
      generalize itf (N, fun _ => 0) k = s at *
      generalize xzs p N μ k = z at *
      obtain ⟨A, g⟩ := s
      dsimp only at *
      have hB : INV (up A 4 (N 4)) := INV_ag i1 (fun k hk => up_ne (by omega))
      have hag : AG A (up A 4 (N 4)) := ag_4
      cases q1 : ned A g (A 1) with
      | none => rw [fs_0 (s := (A, g)) q1] at hs; cases hs
      | some q =>
        obtain ⟨p1, p2, p3⟩ := ned_is q1
        have hh := iv_h i1
        have hT := iv_q i1 q (by omega)
        cases q2 : best A q (A 0) with
        | some i =>
          rw [fs_1 (s := (A, g)) q1 q2] at hs
          cases hs
          rw [xst_1 (s := (A, g)) q1 q2]
          refine ⟨?_, h2⟩
          dsimp only
          rw [up_up4, st_u4]
          have := PR_add h1 hB (i := i) (q := q) (by omega) (by rw [up_ne (by omega)]; omega)
          rw [up_ne (show 952 + 9 * q + 5 ≠ 4 by omega)] at this
          exact this
        | none =>
          cases q3 : trs A q with
          | some x =>
            obtain ⟨t, l, u⟩ := x
            have q4 : mvs A q = some (mvN A t q l u) := by rw [mvs_trs, q3]; rfl
            rw [fs_2 (s := (A, g)) q1 q2 q4] at hs
            cases hs
            rw [xst_2 (s := (A, g)) q1 q2 q3]
            refine ⟨?_, h2⟩
            obtain ⟨t1, t2, t3, t4, t5, t6, t7⟩ := trs_is q3
            dsimp only
            rw [mv_u4 (by omega), ← xmv_4 (c := N 4)]
            refine PR_mv h1 hB ?_ ?_ ?_ t4 ?_ ?_ ?_ ?_
            · rw [hag.1]; exact t1
            · rw [hag.2.1]; exact p1
            · rw [hag.2.1]; exact t2
            · rw [ag_why hag]; exact t3
            · rw [ag_sP hag, up_ne (by omega)]; exact t5
            · rw [up_ne (by omega)]; exact t6
            · rw [ag_oth hag]; exact t7
          | none =>
            have q4 : mvs A q = none := by rw [mvs_trs, q3]; rfl
            rw [fs_3 (s := (A, g)) q1 q2 q4] at hs
            cases hs
            rw [xst_3 (s := (A, g)) q1 q2 q3]
            exact ⟨h1, GB_up h2 (by omega) p2⟩
/-- the contents after filling -/
def xfl (p : Nat) (N : Nat → Nat) (μ : ev_M) : ev_M := w1 (xzs p N μ 41).1 p 5 (nI (flN N 4))
theorem PR_fl (hP : PR p N μ) (hI : INV N) : PR p (flN N) (xfl p N μ) := by
  have h := PR_hd (v := flN N 4) (xzs_ok hP hI 41).1 (Or.inl ⟨rfl, rfl⟩)
  rw [up_up4] at h
  have e : up (itf (N, fun _ => 0) 41).1 4 (flN N 4) = flN N := by
    funext j
    show (if j = 4 then flN N 4 else flN N j) = flN N j
    split
    · rename_i h; rw [h]
    · rfl
  rw [e] at h
  exact h
theorem k_mil : (1000000 : Int32) = nI 1000000 := by decide
set_option maxHeartbeats 2000000 in
theorem m_X4_fillSeats (hok : ev_ok sh_S G) (hp : p ∈ sh_B) (hP : PR p N μ) (hI : INV N) : ev_T sh_S G mi_X4_fillSeats [.ref p] μ (.inl (some (.int (nI (flN N 4 - N 4))), xfl p N μ)) := by
  have hlt := xp_lt hp
  have hg0 : ∀ k, k < 10 → (fun _ => 0 : Nat → Nat) k < 2 := fun _ _ => by (try dsimp only); omega
  obtain ⟨n, hn, hend, hfin, hgo'⟩ := itf_ex (s := (N, fun _ => 0)) hI hg0
  have hf1 : flN N = (itf (N, fun _ => 0) n).1 := by unfold flN; rw [hfin]
  have hf2 : xzs p N μ 41 = xzs p N μ n := xzs_st hend hn
  unfold xfl
  rw [hf1, hf2]
  have hin : ∀ k, INV (itf (N, fun _ => 0) k).1 ∧ (itf (N, fun _ => 0) k).1 0 = N 0 ∧ (itf (N, fun _ => 0) k).1 1 = N 1 ∧ N 4 ≤ (itf (N, fun _ => 0) k).1 4 := fun k => by
    obtain ⟨a, b, c, d, e, -⟩ := itf_ok (s := (N, fun _ => 0)) hI hg0 k
    exact ⟨a, c, d, e⟩
  have hgo : ∀ k, k < n → fs (itf (N, fun _ => 0) k) = some (itf (N, fun _ => 0) (k + 1)) := fun k hk => by
    obtain ⟨s', h⟩ := hgo' k hk
    rw [itf_s h, h]
  have hz := fun k => xzs_ok hP hI k
  have hzs : ∀ k, xzs p N μ (k + 1) = xst p (itf (N, fun _ => 0) k) (xzs p N μ k) := fun k => rfl
  have hz0 : xzs p N μ 0 = (μ, 0) := rfl
  have h00 : itf (N, fun _ => 0) 0 = (N, fun _ => 0) := rfl
  clear hf1 hf2 hgo' hfin
  generalize itf (N, fun _ => 0) = S at *
  generalize xzs p N μ = Z at *
  refine ev_tri1 hok okM_X4_fillSeats (Nat.le_of_ble_eq_true rfl) 6 [0, 1, 2, 3] n 400 (fun k => [.ref p, .int (nI ((S k).1 4 - N 4)), .int (nI (Z k).2), .int (nI k)]) (fun k => (Z k).1) (fun _ => True) ?_ ?_
  · intro k hk _
    rw [at_X4_fillSeats_6]
    obtain ⟨i1, i3, i4, i5⟩ := hin k
    obtain ⟨z1, z2⟩ := hz k
    have hB : INV (up (S k).1 4 (N 4)) := INV_ag i1 (fun k hk => up_ne (by omega))
    have hag : AG (S k).1 (up (S k).1 4 (N 4)) := ag_4
    have d1 := m_X4_neediest hok hp z1 hB z2
    rw [ag_ned hag, hag.2.1] at d1
    have hfl : (Z k).1.1 p 5 = nI (N 4) := (pr_h z1).2.2.2.2.1.trans (by rw [up_eq rfl])
    rcases Nat.lt_or_ge k n with hkn | hkn
    · have hs' := hgo k hkn
      have hzk := hzs k
      generalize hsb : S (k + 1) = s1 at *
      generalize hzb : Z (k + 1) = z9 at *
      generalize S k = s at *
      generalize Z k = z at *
      obtain ⟨A, g⟩ := s
      obtain ⟨ν, b⟩ := z
      dsimp only at *
      have hh := iv_h i1
      cases q1 : ned A g (A 1) with
      | none => rw [fs_0 (s := (A, g)) q1] at hs'; cases hs'
      | some q =>
        obtain ⟨p1, p2, p3⟩ := ned_is q1
        have hT := iv_q i1 q (by omega)
        have d2 := m_X4_bestFor hok hp z1 hB (q := q) (by omega)
        rw [ag_best hag, hag.1] at d2
        rw [q1] at d1
        cases q2 : best A q (A 0) with
        | some i =>
          have hb := best_lt q2
          rw [q2] at d2
          rw [fs_1 (s := (A, g)) q1 q2] at hs'
          cases hs'
          rw [xst_1 (s := (A, g)) q1 q2] at hzk
          subst hzk
          have d3 := m_X5_add_s (μ := ν) hok hp (q := q) (s := A (952 + 9 * q + 5)) (i := i) (by omega) (by omega) ((pr_sn z1 q (by omega)).trans (by rw [up_ne (by omega)]))
          have e4 : up (stN A i q) 4 (A 4 + 1) 4 - N 4 = A 4 - N 4 + 1 := by rw [up_eq rfl]; omega
          repeat' (first
            | (with_reducible refine ev_rid ?_; simp (disch := first | omega | assumption) only [ev_run_c, ev_run_n, ev_fj, ev_stp, ev_lk, ev_fv, ev_as, ev_sz, ev_st1, ev_st2, ev_rm, ev_pk, ev_Jof, ev_go, lv_args, List.map_cons, List.map_nil, List.zip_cons_cons, List.zip_nil_left, List.zip_nil_right, List.nil_append, List.cons_append, ↓reduceIte, reduceCtorEq, Int.reduceToNat, Nat.reduceEqDiff, Nat.reduceAdd, Nat.reduceLT, Nat.reduceLeDiff, Nat.reduceMul, Nat.reduceSub, Value.category, false_implies, true_and, and_true, Bool.false_eq_true, Option.some.injEq, exists_eq_left', Option.toList_some, Option.toList_none, ev_km, ev_k2, ev_k3, ev_k4, ev_k5, ev_l0, ev_l1, sh_1, sh_2, sh_3, sh_4, sh_5, at_X4_fillSeats_28, at_X4_fillSeats_59, at_X4_fillSeats_6, at_X4_fillSeats_74, at_X4_fillSeats_81, at_X4_fillSeats_87, ca_X4_188, ca_X4_191, ca_X4_194, ca_X4_197, cd_X4_fillSeats_0, cd_X4_fillSeats_28, cd_X4_fillSeats_59, cd_X4_fillSeats_6, cd_X4_fillSeats_74, cd_X4_fillSeats_81, cd_X4_fillSeats_87, fl_X4_50, fl_X4_77, ko_X4_187, ev_i_2, no_0, no_1, no_lt, no_le, no_eq, no_lt0, no_ge0, no_gt0, no_le0, no_eq0, no_0eq, no_eqm, no_meq, no_m0, no_mlt, no_mge, no_mgt, no_mm, no_i01, no_i10, no_in, no_or, no_ifm, no_mul, nI_add, no_sub, pk_div, iI_if, nI_clamp, oI_n, oI_s, not_true_eq_false, not_false_eq_true, forall_const, true_implies, false_and, and_false, or_false, false_or, Classical.not_not, true_or, or_true, no_b, no_eq1, eq_self, and_self, xk_0 hp, xk_1 hp, xk_2 hp, xk_3 hp, xk_4 hp, xk_5 hp, xk_6 hp, xk_7 hp, xk_8 hp, xk_9 hp, xk_10 hp, xk_11 hp, xk_12 hp, xk_13 hp, xk_14 hp, xk_15 hp, xk_16 hp, xk_17 hp, xk_18 hp, xk_19 hp, xk_20 hp, xk_21 hp, xl_1 hp, xl_2 hp, xl_3 hp, xl_4 hp, xl_6 hp, xl_8 hp, xl_10 hp, xl_12 hp, xl_14 hp, xl_15 hp, xl_17 hp, xl_18 hp, xl_21 hp, xp_7 hp, xp_8 hp, xp_9 hp, xp_10 hp, xp_11 hp, xp_12 hp, xp_13 hp, xp_14 hp, xp_15 hp, xp_16 hp, xp_17 hp, xp_t5 hp, xp_t7 hp, xp_t9 hp, xp_t11 hp, xp_t20 hp, xp_s19 hp, xp_a13 hp, xp_b13 hp, xp_a16 hp, xp_b16 hp, xc_r5 hp, xc_c5 hp, xc_r7 hp, xc_c7 hp, xc_r9 hp, xc_c9 hp, xc_r11 hp, xc_c11 hp, xc_r20 hp, xc_c20 hp, no_on, k_mil, hsb, hzb, e4])
            | (with_reducible refine ev_gid ?_; simp (disch := first | omega | assumption) only [ev_run_c, ev_run_n, ev_fj, ev_stp, ev_lk, ev_fv, ev_as, ev_sz, ev_st1, ev_st2, ev_rm, ev_pk, ev_Jof, ev_go, lv_args, List.map_cons, List.map_nil, List.zip_cons_cons, List.zip_nil_left, List.zip_nil_right, List.nil_append, List.cons_append, ↓reduceIte, reduceCtorEq, Int.reduceToNat, Nat.reduceEqDiff, Nat.reduceAdd, Nat.reduceLT, Nat.reduceLeDiff, Nat.reduceMul, Nat.reduceSub, Value.category, false_implies, true_and, and_true, Bool.false_eq_true, Option.some.injEq, exists_eq_left', Option.toList_some, Option.toList_none, ev_km, ev_k2, ev_k3, ev_k4, ev_k5, ev_l0, ev_l1, sh_1, sh_2, sh_3, sh_4, sh_5, at_X4_fillSeats_28, at_X4_fillSeats_59, at_X4_fillSeats_6, at_X4_fillSeats_74, at_X4_fillSeats_81, at_X4_fillSeats_87, ca_X4_188, ca_X4_191, ca_X4_194, ca_X4_197, cd_X4_fillSeats_0, cd_X4_fillSeats_28, cd_X4_fillSeats_59, cd_X4_fillSeats_6, cd_X4_fillSeats_74, cd_X4_fillSeats_81, cd_X4_fillSeats_87, fl_X4_50, fl_X4_77, ko_X4_187, ev_i_2, no_0, no_1, no_lt, no_le, no_eq, no_lt0, no_ge0, no_gt0, no_le0, no_eq0, no_0eq, no_eqm, no_meq, no_m0, no_mlt, no_mge, no_mgt, no_mm, no_i01, no_i10, no_in, no_or, no_ifm, no_mul, nI_add, no_sub, pk_div, iI_if, nI_clamp, oI_n, oI_s, not_true_eq_false, not_false_eq_true, forall_const, true_implies, false_and, and_false, or_false, false_or, Classical.not_not, true_or, or_true, no_b, no_eq1, eq_self, and_self, xk_0 hp, xk_1 hp, xk_2 hp, xk_3 hp, xk_4 hp, xk_5 hp, xk_6 hp, xk_7 hp, xk_8 hp, xk_9 hp, xk_10 hp, xk_11 hp, xk_12 hp, xk_13 hp, xk_14 hp, xk_15 hp, xk_16 hp, xk_17 hp, xk_18 hp, xk_19 hp, xk_20 hp, xk_21 hp, xl_1 hp, xl_2 hp, xl_3 hp, xl_4 hp, xl_6 hp, xl_8 hp, xl_10 hp, xl_12 hp, xl_14 hp, xl_15 hp, xl_17 hp, xl_18 hp, xl_21 hp, xp_7 hp, xp_8 hp, xp_9 hp, xp_10 hp, xp_11 hp, xp_12 hp, xp_13 hp, xp_14 hp, xp_15 hp, xp_16 hp, xp_17 hp, xp_t5 hp, xp_t7 hp, xp_t9 hp, xp_t11 hp, xp_t20 hp, xp_s19 hp, xp_a13 hp, xp_b13 hp, xp_a16 hp, xp_b16 hp, xc_r5 hp, xc_c5 hp, xc_r7 hp, xc_c7 hp, xc_r9 hp, xc_c9 hp, xc_r11 hp, xc_c11 hp, xc_r20 hp, xc_c20 hp, no_on, k_mil, hsb, hzb, e4])
            | (with_reducible refine And.intro (fun q => ?_) (fun q => ?_) <;> (try simp (disch := first | omega | assumption) only [no_0, no_1, no_lt, no_le, no_eq, no_lt0, no_ge0, no_gt0, no_le0, no_eq0, no_0eq, no_eqm, no_meq, no_m0, no_mlt, no_mge, no_mgt, no_mm, no_i01, no_i10, no_in, no_or, no_ifm, no_mul, nI_add, no_sub, pk_div, iI_if, nI_clamp, oI_n, oI_s, not_true_eq_false, not_false_eq_true, forall_const, true_implies, false_and, and_false, or_false, false_or, Classical.not_not, true_or, or_true, no_b, no_eq1, eq_self, and_self, xk_0 hp, xk_1 hp, xk_2 hp, xk_3 hp, xk_4 hp, xk_5 hp, xk_6 hp, xk_7 hp, xk_8 hp, xk_9 hp, xk_10 hp, xk_11 hp, xk_12 hp, xk_13 hp, xk_14 hp, xk_15 hp, xk_16 hp, xk_17 hp, xk_18 hp, xk_19 hp, xk_20 hp, xk_21 hp, xl_1 hp, xl_2 hp, xl_3 hp, xl_4 hp, xl_6 hp, xl_8 hp, xl_10 hp, xl_12 hp, xl_14 hp, xl_15 hp, xl_17 hp, xl_18 hp, xl_21 hp, xp_7 hp, xp_8 hp, xp_9 hp, xp_10 hp, xp_11 hp, xp_12 hp, xp_13 hp, xp_14 hp, xp_15 hp, xp_16 hp, xp_17 hp, xp_t5 hp, xp_t7 hp, xp_t9 hp, xp_t11 hp, xp_t20 hp, xp_s19 hp, xp_a13 hp, xp_b13 hp, xp_a16 hp, xp_b16 hp, xc_r5 hp, xc_c5 hp, xc_r7 hp, xc_c7 hp, xc_r9 hp, xc_c9 hp, xc_r11 hp, xc_c11 hp, xc_r20 hp, xc_c20 hp, no_on, k_mil, hsb, hzb, e4] at q))
            | (with_reducible refine ev_ci d1 ?_)
            | (with_reducible refine ev_ci d2 ?_)
            | (with_reducible refine ev_ci d3 ?_)
            | with_reducible refine ev_ci (m_X4_bestFor hok hp (by with_reducible assumption) (by with_reducible assumption) ?_) ?_
            | omega
            | with_reducible assumption
            | with_reducible rfl
            | (refine Nat.lt_of_lt_of_le ?_ (Nat.le_refl 312); omega)
            | with_reducible refine lp_nx ?_ ?_ ?_ ?_
            | with_reducible refine lp_st ?_ ?_ ?_
            | with_reducible refine ls_c ?_ ?_
            | with_reducible refine vi_c ?_
            | with_reducible refine re_c ?_
            | with_reducible refine vz_c ?_
            | with_reducible refine rz_c ?_
            | exact trivial
            | with_reducible refine And.intro ?_ ?_
            | simp (disch := first | omega | assumption) only [ev_run_c, ev_run_n, ev_fj, ev_stp, ev_lk, ev_fv, ev_as, ev_sz, ev_st1, ev_st2, ev_rm, ev_pk, ev_Jof, ev_go, lv_args, List.map_cons, List.map_nil, List.zip_cons_cons, List.zip_nil_left, List.zip_nil_right, List.nil_append, List.cons_append, ↓reduceIte, reduceCtorEq, Int.reduceToNat, Nat.reduceEqDiff, Nat.reduceAdd, Nat.reduceLT, Nat.reduceLeDiff, Nat.reduceMul, Nat.reduceSub, Value.category, false_implies, true_and, and_true, Bool.false_eq_true, Option.some.injEq, exists_eq_left', Option.toList_some, Option.toList_none, ev_km, ev_k2, ev_k3, ev_k4, ev_k5, ev_l0, ev_l1, sh_1, sh_2, sh_3, sh_4, sh_5, at_X4_fillSeats_28, at_X4_fillSeats_59, at_X4_fillSeats_6, at_X4_fillSeats_74, at_X4_fillSeats_81, at_X4_fillSeats_87, ca_X4_188, ca_X4_191, ca_X4_194, ca_X4_197, cd_X4_fillSeats_0, cd_X4_fillSeats_28, cd_X4_fillSeats_59, cd_X4_fillSeats_6, cd_X4_fillSeats_74, cd_X4_fillSeats_81, cd_X4_fillSeats_87, fl_X4_50, fl_X4_77, ko_X4_187, ev_i_2, no_0, no_1, no_lt, no_le, no_eq, no_lt0, no_ge0, no_gt0, no_le0, no_eq0, no_0eq, no_eqm, no_meq, no_m0, no_mlt, no_mge, no_mgt, no_mm, no_i01, no_i10, no_in, no_or, no_ifm, no_mul, nI_add, no_sub, pk_div, iI_if, nI_clamp, oI_n, oI_s, not_true_eq_false, not_false_eq_true, forall_const, true_implies, false_and, and_false, or_false, false_or, Classical.not_not, true_or, or_true, no_b, no_eq1, eq_self, and_self, xk_0 hp, xk_1 hp, xk_2 hp, xk_3 hp, xk_4 hp, xk_5 hp, xk_6 hp, xk_7 hp, xk_8 hp, xk_9 hp, xk_10 hp, xk_11 hp, xk_12 hp, xk_13 hp, xk_14 hp, xk_15 hp, xk_16 hp, xk_17 hp, xk_18 hp, xk_19 hp, xk_20 hp, xk_21 hp, xl_1 hp, xl_2 hp, xl_3 hp, xl_4 hp, xl_6 hp, xl_8 hp, xl_10 hp, xl_12 hp, xl_14 hp, xl_15 hp, xl_17 hp, xl_18 hp, xl_21 hp, xp_7 hp, xp_8 hp, xp_9 hp, xp_10 hp, xp_11 hp, xp_12 hp, xp_13 hp, xp_14 hp, xp_15 hp, xp_16 hp, xp_17 hp, xp_t5 hp, xp_t7 hp, xp_t9 hp, xp_t11 hp, xp_t20 hp, xp_s19 hp, xp_a13 hp, xp_b13 hp, xp_a16 hp, xp_b16 hp, xc_r5 hp, xc_c5 hp, xc_r7 hp, xc_c7 hp, xc_r9 hp, xc_c9 hp, xc_r11 hp, xc_c11 hp, xc_r20 hp, xc_c20 hp, no_on, k_mil, hsb, hzb, e4]
            | (split <;> omega))
        | none =>
          rw [q2] at d2
          have d4 := m_X4_makeMove hok hp z1 hB (p0 := q) (by rw [hag.2.1]; exact p1)
          rw [ag_trs hag] at d4
          cases q3 : trs A q with
          | some x =>
            obtain ⟨t, l, u⟩ := x
            have q4 : mvs A q = some (mvN A t q l u) := by rw [mvs_trs, q3]; rfl
            rw [xmvR_1 q3, xmv_4] at d4
            rw [fs_2 (s := (A, g)) q1 q2 q4] at hs'
            cases hs'
            rw [xst_2 (s := (A, g)) q1 q2 q3] at hzk
            subst hzk
            have e4 : mvN A t q l u 4 - N 4 = A 4 - N 4 + 2 := by unfold mvN; rw [up_ne (by omega), up_eq rfl]; omega
            repeat' (first
              | (with_reducible refine ev_rid ?_; simp (disch := first | omega | assumption) only [ev_run_c, ev_run_n, ev_fj, ev_stp, ev_lk, ev_fv, ev_as, ev_sz, ev_st1, ev_st2, ev_rm, ev_pk, ev_Jof, ev_go, lv_args, List.map_cons, List.map_nil, List.zip_cons_cons, List.zip_nil_left, List.zip_nil_right, List.nil_append, List.cons_append, ↓reduceIte, reduceCtorEq, Int.reduceToNat, Nat.reduceEqDiff, Nat.reduceAdd, Nat.reduceLT, Nat.reduceLeDiff, Nat.reduceMul, Nat.reduceSub, Value.category, false_implies, true_and, and_true, Bool.false_eq_true, Option.some.injEq, exists_eq_left', Option.toList_some, Option.toList_none, ev_km, ev_k2, ev_k3, ev_k4, ev_k5, ev_l0, ev_l1, sh_1, sh_2, sh_3, sh_4, sh_5, at_X4_fillSeats_28, at_X4_fillSeats_59, at_X4_fillSeats_6, at_X4_fillSeats_74, at_X4_fillSeats_81, at_X4_fillSeats_87, ca_X4_188, ca_X4_191, ca_X4_194, ca_X4_197, cd_X4_fillSeats_0, cd_X4_fillSeats_28, cd_X4_fillSeats_59, cd_X4_fillSeats_6, cd_X4_fillSeats_74, cd_X4_fillSeats_81, cd_X4_fillSeats_87, fl_X4_50, fl_X4_77, ko_X4_187, ev_i_2, no_0, no_1, no_lt, no_le, no_eq, no_lt0, no_ge0, no_gt0, no_le0, no_eq0, no_0eq, no_eqm, no_meq, no_m0, no_mlt, no_mge, no_mgt, no_mm, no_i01, no_i10, no_in, no_or, no_ifm, no_mul, nI_add, no_sub, pk_div, iI_if, nI_clamp, oI_n, oI_s, not_true_eq_false, not_false_eq_true, forall_const, true_implies, false_and, and_false, or_false, false_or, Classical.not_not, true_or, or_true, no_b, no_eq1, eq_self, and_self, xk_0 hp, xk_1 hp, xk_2 hp, xk_3 hp, xk_4 hp, xk_5 hp, xk_6 hp, xk_7 hp, xk_8 hp, xk_9 hp, xk_10 hp, xk_11 hp, xk_12 hp, xk_13 hp, xk_14 hp, xk_15 hp, xk_16 hp, xk_17 hp, xk_18 hp, xk_19 hp, xk_20 hp, xk_21 hp, xl_1 hp, xl_2 hp, xl_3 hp, xl_4 hp, xl_6 hp, xl_8 hp, xl_10 hp, xl_12 hp, xl_14 hp, xl_15 hp, xl_17 hp, xl_18 hp, xl_21 hp, xp_7 hp, xp_8 hp, xp_9 hp, xp_10 hp, xp_11 hp, xp_12 hp, xp_13 hp, xp_14 hp, xp_15 hp, xp_16 hp, xp_17 hp, xp_t5 hp, xp_t7 hp, xp_t9 hp, xp_t11 hp, xp_t20 hp, xp_s19 hp, xp_a13 hp, xp_b13 hp, xp_a16 hp, xp_b16 hp, xc_r5 hp, xc_c5 hp, xc_r7 hp, xc_c7 hp, xc_r9 hp, xc_c9 hp, xc_r11 hp, xc_c11 hp, xc_r20 hp, xc_c20 hp, no_on, k_mil, hsb, hzb, e4])
              | (with_reducible refine ev_gid ?_; simp (disch := first | omega | assumption) only [ev_run_c, ev_run_n, ev_fj, ev_stp, ev_lk, ev_fv, ev_as, ev_sz, ev_st1, ev_st2, ev_rm, ev_pk, ev_Jof, ev_go, lv_args, List.map_cons, List.map_nil, List.zip_cons_cons, List.zip_nil_left, List.zip_nil_right, List.nil_append, List.cons_append, ↓reduceIte, reduceCtorEq, Int.reduceToNat, Nat.reduceEqDiff, Nat.reduceAdd, Nat.reduceLT, Nat.reduceLeDiff, Nat.reduceMul, Nat.reduceSub, Value.category, false_implies, true_and, and_true, Bool.false_eq_true, Option.some.injEq, exists_eq_left', Option.toList_some, Option.toList_none, ev_km, ev_k2, ev_k3, ev_k4, ev_k5, ev_l0, ev_l1, sh_1, sh_2, sh_3, sh_4, sh_5, at_X4_fillSeats_28, at_X4_fillSeats_59, at_X4_fillSeats_6, at_X4_fillSeats_74, at_X4_fillSeats_81, at_X4_fillSeats_87, ca_X4_188, ca_X4_191, ca_X4_194, ca_X4_197, cd_X4_fillSeats_0, cd_X4_fillSeats_28, cd_X4_fillSeats_59, cd_X4_fillSeats_6, cd_X4_fillSeats_74, cd_X4_fillSeats_81, cd_X4_fillSeats_87, fl_X4_50, fl_X4_77, ko_X4_187, ev_i_2, no_0, no_1, no_lt, no_le, no_eq, no_lt0, no_ge0, no_gt0, no_le0, no_eq0, no_0eq, no_eqm, no_meq, no_m0, no_mlt, no_mge, no_mgt, no_mm, no_i01, no_i10, no_in, no_or, no_ifm, no_mul, nI_add, no_sub, pk_div, iI_if, nI_clamp, oI_n, oI_s, not_true_eq_false, not_false_eq_true, forall_const, true_implies, false_and, and_false, or_false, false_or, Classical.not_not, true_or, or_true, no_b, no_eq1, eq_self, and_self, xk_0 hp, xk_1 hp, xk_2 hp, xk_3 hp, xk_4 hp, xk_5 hp, xk_6 hp, xk_7 hp, xk_8 hp, xk_9 hp, xk_10 hp, xk_11 hp, xk_12 hp, xk_13 hp, xk_14 hp, xk_15 hp, xk_16 hp, xk_17 hp, xk_18 hp, xk_19 hp, xk_20 hp, xk_21 hp, xl_1 hp, xl_2 hp, xl_3 hp, xl_4 hp, xl_6 hp, xl_8 hp, xl_10 hp, xl_12 hp, xl_14 hp, xl_15 hp, xl_17 hp, xl_18 hp, xl_21 hp, xp_7 hp, xp_8 hp, xp_9 hp, xp_10 hp, xp_11 hp, xp_12 hp, xp_13 hp, xp_14 hp, xp_15 hp, xp_16 hp, xp_17 hp, xp_t5 hp, xp_t7 hp, xp_t9 hp, xp_t11 hp, xp_t20 hp, xp_s19 hp, xp_a13 hp, xp_b13 hp, xp_a16 hp, xp_b16 hp, xc_r5 hp, xc_c5 hp, xc_r7 hp, xc_c7 hp, xc_r9 hp, xc_c9 hp, xc_r11 hp, xc_c11 hp, xc_r20 hp, xc_c20 hp, no_on, k_mil, hsb, hzb, e4])
              | (with_reducible refine And.intro (fun q => ?_) (fun q => ?_) <;> (try simp (disch := first | omega | assumption) only [no_0, no_1, no_lt, no_le, no_eq, no_lt0, no_ge0, no_gt0, no_le0, no_eq0, no_0eq, no_eqm, no_meq, no_m0, no_mlt, no_mge, no_mgt, no_mm, no_i01, no_i10, no_in, no_or, no_ifm, no_mul, nI_add, no_sub, pk_div, iI_if, nI_clamp, oI_n, oI_s, not_true_eq_false, not_false_eq_true, forall_const, true_implies, false_and, and_false, or_false, false_or, Classical.not_not, true_or, or_true, no_b, no_eq1, eq_self, and_self, xk_0 hp, xk_1 hp, xk_2 hp, xk_3 hp, xk_4 hp, xk_5 hp, xk_6 hp, xk_7 hp, xk_8 hp, xk_9 hp, xk_10 hp, xk_11 hp, xk_12 hp, xk_13 hp, xk_14 hp, xk_15 hp, xk_16 hp, xk_17 hp, xk_18 hp, xk_19 hp, xk_20 hp, xk_21 hp, xl_1 hp, xl_2 hp, xl_3 hp, xl_4 hp, xl_6 hp, xl_8 hp, xl_10 hp, xl_12 hp, xl_14 hp, xl_15 hp, xl_17 hp, xl_18 hp, xl_21 hp, xp_7 hp, xp_8 hp, xp_9 hp, xp_10 hp, xp_11 hp, xp_12 hp, xp_13 hp, xp_14 hp, xp_15 hp, xp_16 hp, xp_17 hp, xp_t5 hp, xp_t7 hp, xp_t9 hp, xp_t11 hp, xp_t20 hp, xp_s19 hp, xp_a13 hp, xp_b13 hp, xp_a16 hp, xp_b16 hp, xc_r5 hp, xc_c5 hp, xc_r7 hp, xc_c7 hp, xc_r9 hp, xc_c9 hp, xc_r11 hp, xc_c11 hp, xc_r20 hp, xc_c20 hp, no_on, k_mil, hsb, hzb, e4] at q))
              | (with_reducible refine ev_ci d1 ?_)
              | (with_reducible refine ev_ci d2 ?_)
              | (with_reducible refine ev_ci d4 ?_)
              | with_reducible refine ev_ci (m_X4_bestFor hok hp (by with_reducible assumption) (by with_reducible assumption) ?_) ?_
              | omega
              | with_reducible assumption
              | with_reducible rfl
              | (refine Nat.lt_of_lt_of_le ?_ (Nat.le_refl 312); omega)
              | with_reducible refine lp_nx ?_ ?_ ?_ ?_
              | with_reducible refine lp_st ?_ ?_ ?_
              | with_reducible refine ls_c ?_ ?_
              | with_reducible refine vi_c ?_
              | with_reducible refine re_c ?_
              | with_reducible refine vz_c ?_
              | with_reducible refine rz_c ?_
              | exact trivial
              | with_reducible refine And.intro ?_ ?_
              | simp (disch := first | omega | assumption) only [ev_run_c, ev_run_n, ev_fj, ev_stp, ev_lk, ev_fv, ev_as, ev_sz, ev_st1, ev_st2, ev_rm, ev_pk, ev_Jof, ev_go, lv_args, List.map_cons, List.map_nil, List.zip_cons_cons, List.zip_nil_left, List.zip_nil_right, List.nil_append, List.cons_append, ↓reduceIte, reduceCtorEq, Int.reduceToNat, Nat.reduceEqDiff, Nat.reduceAdd, Nat.reduceLT, Nat.reduceLeDiff, Nat.reduceMul, Nat.reduceSub, Value.category, false_implies, true_and, and_true, Bool.false_eq_true, Option.some.injEq, exists_eq_left', Option.toList_some, Option.toList_none, ev_km, ev_k2, ev_k3, ev_k4, ev_k5, ev_l0, ev_l1, sh_1, sh_2, sh_3, sh_4, sh_5, at_X4_fillSeats_28, at_X4_fillSeats_59, at_X4_fillSeats_6, at_X4_fillSeats_74, at_X4_fillSeats_81, at_X4_fillSeats_87, ca_X4_188, ca_X4_191, ca_X4_194, ca_X4_197, cd_X4_fillSeats_0, cd_X4_fillSeats_28, cd_X4_fillSeats_59, cd_X4_fillSeats_6, cd_X4_fillSeats_74, cd_X4_fillSeats_81, cd_X4_fillSeats_87, fl_X4_50, fl_X4_77, ko_X4_187, ev_i_2, no_0, no_1, no_lt, no_le, no_eq, no_lt0, no_ge0, no_gt0, no_le0, no_eq0, no_0eq, no_eqm, no_meq, no_m0, no_mlt, no_mge, no_mgt, no_mm, no_i01, no_i10, no_in, no_or, no_ifm, no_mul, nI_add, no_sub, pk_div, iI_if, nI_clamp, oI_n, oI_s, not_true_eq_false, not_false_eq_true, forall_const, true_implies, false_and, and_false, or_false, false_or, Classical.not_not, true_or, or_true, no_b, no_eq1, eq_self, and_self, xk_0 hp, xk_1 hp, xk_2 hp, xk_3 hp, xk_4 hp, xk_5 hp, xk_6 hp, xk_7 hp, xk_8 hp, xk_9 hp, xk_10 hp, xk_11 hp, xk_12 hp, xk_13 hp, xk_14 hp, xk_15 hp, xk_16 hp, xk_17 hp, xk_18 hp, xk_19 hp, xk_20 hp, xk_21 hp, xl_1 hp, xl_2 hp, xl_3 hp, xl_4 hp, xl_6 hp, xl_8 hp, xl_10 hp, xl_12 hp, xl_14 hp, xl_15 hp, xl_17 hp, xl_18 hp, xl_21 hp, xp_7 hp, xp_8 hp, xp_9 hp, xp_10 hp, xp_11 hp, xp_12 hp, xp_13 hp, xp_14 hp, xp_15 hp, xp_16 hp, xp_17 hp, xp_t5 hp, xp_t7 hp, xp_t9 hp, xp_t11 hp, xp_t20 hp, xp_s19 hp, xp_a13 hp, xp_b13 hp, xp_a16 hp, xp_b16 hp, xc_r5 hp, xc_c5 hp, xc_r7 hp, xc_c7 hp, xc_r9 hp, xc_c9 hp, xc_r11 hp, xc_c11 hp, xc_r20 hp, xc_c20 hp, no_on, k_mil, hsb, hzb, e4]
              | (split <;> omega))
          | none =>
            have q4 : mvs A q = none := by rw [mvs_trs, q3]; rfl
            rw [xmvR_0 q3] at d4
            rw [fs_3 (s := (A, g)) q1 q2 q4] at hs'
            cases hs'
            rw [xst_3 (s := (A, g)) q1 q2 q3] at hzk
            subst hzk
            have e5 := or_k b z2.1 q (by omega) ((z2.2 q (by omega)).trans p2)
            repeat' (first
              | (with_reducible refine ev_rid ?_; simp (disch := first | omega | assumption) only [ev_run_c, ev_run_n, ev_fj, ev_stp, ev_lk, ev_fv, ev_as, ev_sz, ev_st1, ev_st2, ev_rm, ev_pk, ev_Jof, ev_go, lv_args, List.map_cons, List.map_nil, List.zip_cons_cons, List.zip_nil_left, List.zip_nil_right, List.nil_append, List.cons_append, ↓reduceIte, reduceCtorEq, Int.reduceToNat, Nat.reduceEqDiff, Nat.reduceAdd, Nat.reduceLT, Nat.reduceLeDiff, Nat.reduceMul, Nat.reduceSub, Value.category, false_implies, true_and, and_true, Bool.false_eq_true, Option.some.injEq, exists_eq_left', Option.toList_some, Option.toList_none, ev_km, ev_k2, ev_k3, ev_k4, ev_k5, ev_l0, ev_l1, sh_1, sh_2, sh_3, sh_4, sh_5, at_X4_fillSeats_28, at_X4_fillSeats_59, at_X4_fillSeats_6, at_X4_fillSeats_74, at_X4_fillSeats_81, at_X4_fillSeats_87, ca_X4_188, ca_X4_191, ca_X4_194, ca_X4_197, cd_X4_fillSeats_0, cd_X4_fillSeats_28, cd_X4_fillSeats_59, cd_X4_fillSeats_6, cd_X4_fillSeats_74, cd_X4_fillSeats_81, cd_X4_fillSeats_87, fl_X4_50, fl_X4_77, ko_X4_187, ev_i_2, no_0, no_1, no_lt, no_le, no_eq, no_lt0, no_ge0, no_gt0, no_le0, no_eq0, no_0eq, no_eqm, no_meq, no_m0, no_mlt, no_mge, no_mgt, no_mm, no_i01, no_i10, no_in, no_ifm, no_mul, nI_add, no_sub, pk_div, iI_if, nI_clamp, oI_n, oI_s, not_true_eq_false, not_false_eq_true, forall_const, true_implies, false_and, and_false, or_false, false_or, Classical.not_not, true_or, or_true, no_b, no_eq1, eq_self, and_self, xk_0 hp, xk_1 hp, xk_2 hp, xk_3 hp, xk_4 hp, xk_5 hp, xk_6 hp, xk_7 hp, xk_8 hp, xk_9 hp, xk_10 hp, xk_11 hp, xk_12 hp, xk_13 hp, xk_14 hp, xk_15 hp, xk_16 hp, xk_17 hp, xk_18 hp, xk_19 hp, xk_20 hp, xk_21 hp, xl_1 hp, xl_2 hp, xl_3 hp, xl_4 hp, xl_6 hp, xl_8 hp, xl_10 hp, xl_12 hp, xl_14 hp, xl_15 hp, xl_17 hp, xl_18 hp, xl_21 hp, xp_7 hp, xp_8 hp, xp_9 hp, xp_10 hp, xp_11 hp, xp_12 hp, xp_13 hp, xp_14 hp, xp_15 hp, xp_16 hp, xp_17 hp, xp_t5 hp, xp_t7 hp, xp_t9 hp, xp_t11 hp, xp_t20 hp, xp_s19 hp, xp_a13 hp, xp_b13 hp, xp_a16 hp, xp_b16 hp, xc_r5 hp, xc_c5 hp, xc_r7 hp, xc_c7 hp, xc_r9 hp, xc_c9 hp, xc_r11 hp, xc_c11 hp, xc_r20 hp, xc_c20 hp, no_on, k_mil, hsb, hzb, e5])
              | (with_reducible refine ev_gid ?_; simp (disch := first | omega | assumption) only [ev_run_c, ev_run_n, ev_fj, ev_stp, ev_lk, ev_fv, ev_as, ev_sz, ev_st1, ev_st2, ev_rm, ev_pk, ev_Jof, ev_go, lv_args, List.map_cons, List.map_nil, List.zip_cons_cons, List.zip_nil_left, List.zip_nil_right, List.nil_append, List.cons_append, ↓reduceIte, reduceCtorEq, Int.reduceToNat, Nat.reduceEqDiff, Nat.reduceAdd, Nat.reduceLT, Nat.reduceLeDiff, Nat.reduceMul, Nat.reduceSub, Value.category, false_implies, true_and, and_true, Bool.false_eq_true, Option.some.injEq, exists_eq_left', Option.toList_some, Option.toList_none, ev_km, ev_k2, ev_k3, ev_k4, ev_k5, ev_l0, ev_l1, sh_1, sh_2, sh_3, sh_4, sh_5, at_X4_fillSeats_28, at_X4_fillSeats_59, at_X4_fillSeats_6, at_X4_fillSeats_74, at_X4_fillSeats_81, at_X4_fillSeats_87, ca_X4_188, ca_X4_191, ca_X4_194, ca_X4_197, cd_X4_fillSeats_0, cd_X4_fillSeats_28, cd_X4_fillSeats_59, cd_X4_fillSeats_6, cd_X4_fillSeats_74, cd_X4_fillSeats_81, cd_X4_fillSeats_87, fl_X4_50, fl_X4_77, ko_X4_187, ev_i_2, no_0, no_1, no_lt, no_le, no_eq, no_lt0, no_ge0, no_gt0, no_le0, no_eq0, no_0eq, no_eqm, no_meq, no_m0, no_mlt, no_mge, no_mgt, no_mm, no_i01, no_i10, no_in, no_ifm, no_mul, nI_add, no_sub, pk_div, iI_if, nI_clamp, oI_n, oI_s, not_true_eq_false, not_false_eq_true, forall_const, true_implies, false_and, and_false, or_false, false_or, Classical.not_not, true_or, or_true, no_b, no_eq1, eq_self, and_self, xk_0 hp, xk_1 hp, xk_2 hp, xk_3 hp, xk_4 hp, xk_5 hp, xk_6 hp, xk_7 hp, xk_8 hp, xk_9 hp, xk_10 hp, xk_11 hp, xk_12 hp, xk_13 hp, xk_14 hp, xk_15 hp, xk_16 hp, xk_17 hp, xk_18 hp, xk_19 hp, xk_20 hp, xk_21 hp, xl_1 hp, xl_2 hp, xl_3 hp, xl_4 hp, xl_6 hp, xl_8 hp, xl_10 hp, xl_12 hp, xl_14 hp, xl_15 hp, xl_17 hp, xl_18 hp, xl_21 hp, xp_7 hp, xp_8 hp, xp_9 hp, xp_10 hp, xp_11 hp, xp_12 hp, xp_13 hp, xp_14 hp, xp_15 hp, xp_16 hp, xp_17 hp, xp_t5 hp, xp_t7 hp, xp_t9 hp, xp_t11 hp, xp_t20 hp, xp_s19 hp, xp_a13 hp, xp_b13 hp, xp_a16 hp, xp_b16 hp, xc_r5 hp, xc_c5 hp, xc_r7 hp, xc_c7 hp, xc_r9 hp, xc_c9 hp, xc_r11 hp, xc_c11 hp, xc_r20 hp, xc_c20 hp, no_on, k_mil, hsb, hzb, e5])
              | (with_reducible refine And.intro (fun q => ?_) (fun q => ?_) <;> (try simp (disch := first | omega | assumption) only [no_0, no_1, no_lt, no_le, no_eq, no_lt0, no_ge0, no_gt0, no_le0, no_eq0, no_0eq, no_eqm, no_meq, no_m0, no_mlt, no_mge, no_mgt, no_mm, no_i01, no_i10, no_in, no_or, no_ifm, no_mul, nI_add, no_sub, pk_div, iI_if, nI_clamp, oI_n, oI_s, not_true_eq_false, not_false_eq_true, forall_const, true_implies, false_and, and_false, or_false, false_or, Classical.not_not, true_or, or_true, no_b, no_eq1, eq_self, and_self, xk_0 hp, xk_1 hp, xk_2 hp, xk_3 hp, xk_4 hp, xk_5 hp, xk_6 hp, xk_7 hp, xk_8 hp, xk_9 hp, xk_10 hp, xk_11 hp, xk_12 hp, xk_13 hp, xk_14 hp, xk_15 hp, xk_16 hp, xk_17 hp, xk_18 hp, xk_19 hp, xk_20 hp, xk_21 hp, xl_1 hp, xl_2 hp, xl_3 hp, xl_4 hp, xl_6 hp, xl_8 hp, xl_10 hp, xl_12 hp, xl_14 hp, xl_15 hp, xl_17 hp, xl_18 hp, xl_21 hp, xp_7 hp, xp_8 hp, xp_9 hp, xp_10 hp, xp_11 hp, xp_12 hp, xp_13 hp, xp_14 hp, xp_15 hp, xp_16 hp, xp_17 hp, xp_t5 hp, xp_t7 hp, xp_t9 hp, xp_t11 hp, xp_t20 hp, xp_s19 hp, xp_a13 hp, xp_b13 hp, xp_a16 hp, xp_b16 hp, xc_r5 hp, xc_c5 hp, xc_r7 hp, xc_c7 hp, xc_r9 hp, xc_c9 hp, xc_r11 hp, xc_c11 hp, xc_r20 hp, xc_c20 hp, no_on, k_mil, hsb, hzb, e5] at q))
              | (with_reducible refine ev_ci d1 ?_)
              | (with_reducible refine ev_ci d2 ?_)
              | (with_reducible refine ev_ci d4 ?_)
              | with_reducible refine ev_ci (m_X4_bestFor hok hp (by with_reducible assumption) (by with_reducible assumption) ?_) ?_
              | omega
              | with_reducible assumption
              | with_reducible rfl
              | (refine Nat.lt_of_lt_of_le ?_ (Nat.le_refl 312); omega)
              | with_reducible refine lp_nx ?_ ?_ ?_ ?_
              | with_reducible refine lp_st ?_ ?_ ?_
              | with_reducible refine ls_c ?_ ?_
              | with_reducible refine vi_c ?_
              | with_reducible refine re_c ?_
              | with_reducible refine vz_c ?_
              | with_reducible refine rz_c ?_
              | exact trivial
              | with_reducible refine And.intro ?_ ?_
              | simp (disch := first | omega | assumption) only [ev_run_c, ev_run_n, ev_fj, ev_stp, ev_lk, ev_fv, ev_as, ev_sz, ev_st1, ev_st2, ev_rm, ev_pk, ev_Jof, ev_go, lv_args, List.map_cons, List.map_nil, List.zip_cons_cons, List.zip_nil_left, List.zip_nil_right, List.nil_append, List.cons_append, ↓reduceIte, reduceCtorEq, Int.reduceToNat, Nat.reduceEqDiff, Nat.reduceAdd, Nat.reduceLT, Nat.reduceLeDiff, Nat.reduceMul, Nat.reduceSub, Value.category, false_implies, true_and, and_true, Bool.false_eq_true, Option.some.injEq, exists_eq_left', Option.toList_some, Option.toList_none, ev_km, ev_k2, ev_k3, ev_k4, ev_k5, ev_l0, ev_l1, sh_1, sh_2, sh_3, sh_4, sh_5, at_X4_fillSeats_28, at_X4_fillSeats_59, at_X4_fillSeats_6, at_X4_fillSeats_74, at_X4_fillSeats_81, at_X4_fillSeats_87, ca_X4_188, ca_X4_191, ca_X4_194, ca_X4_197, cd_X4_fillSeats_0, cd_X4_fillSeats_28, cd_X4_fillSeats_59, cd_X4_fillSeats_6, cd_X4_fillSeats_74, cd_X4_fillSeats_81, cd_X4_fillSeats_87, fl_X4_50, fl_X4_77, ko_X4_187, ev_i_2, no_0, no_1, no_lt, no_le, no_eq, no_lt0, no_ge0, no_gt0, no_le0, no_eq0, no_0eq, no_eqm, no_meq, no_m0, no_mlt, no_mge, no_mgt, no_mm, no_i01, no_i10, no_in, no_ifm, no_mul, nI_add, no_sub, pk_div, iI_if, nI_clamp, oI_n, oI_s, not_true_eq_false, not_false_eq_true, forall_const, true_implies, false_and, and_false, or_false, false_or, Classical.not_not, true_or, or_true, no_b, no_eq1, eq_self, and_self, xk_0 hp, xk_1 hp, xk_2 hp, xk_3 hp, xk_4 hp, xk_5 hp, xk_6 hp, xk_7 hp, xk_8 hp, xk_9 hp, xk_10 hp, xk_11 hp, xk_12 hp, xk_13 hp, xk_14 hp, xk_15 hp, xk_16 hp, xk_17 hp, xk_18 hp, xk_19 hp, xk_20 hp, xk_21 hp, xl_1 hp, xl_2 hp, xl_3 hp, xl_4 hp, xl_6 hp, xl_8 hp, xl_10 hp, xl_12 hp, xl_14 hp, xl_15 hp, xl_17 hp, xl_18 hp, xl_21 hp, xp_7 hp, xp_8 hp, xp_9 hp, xp_10 hp, xp_11 hp, xp_12 hp, xp_13 hp, xp_14 hp, xp_15 hp, xp_16 hp, xp_17 hp, xp_t5 hp, xp_t7 hp, xp_t9 hp, xp_t11 hp, xp_t20 hp, xp_s19 hp, xp_a13 hp, xp_b13 hp, xp_a16 hp, xp_b16 hp, xc_r5 hp, xc_c5 hp, xc_r7 hp, xc_c7 hp, xc_r9 hp, xc_c9 hp, xc_r11 hp, xc_c11 hp, xc_r20 hp, xc_c20 hp, no_on, k_mil, hsb, hzb, e5]
              | (split <;> omega))
    · have e : k = n := by omega
      subst e
      rw [fs_none hend] at d1
      have e6 : N 4 + ((S k).1 4 - N 4) = (S k).1 4 := by omega
      repeat' (first
        | (with_reducible refine ev_rid ?_; simp (disch := first | omega | assumption) only [ev_run_c, ev_run_n, ev_fj, ev_stp, ev_lk, ev_fv, ev_as, ev_sz, ev_st1, ev_st2, ev_rm, ev_pk, ev_Jof, ev_go, lv_args, List.map_cons, List.map_nil, List.zip_cons_cons, List.zip_nil_left, List.zip_nil_right, List.nil_append, List.cons_append, ↓reduceIte, reduceCtorEq, Int.reduceToNat, Nat.reduceEqDiff, Nat.reduceAdd, Nat.reduceLT, Nat.reduceLeDiff, Nat.reduceMul, Nat.reduceSub, Value.category, false_implies, true_and, and_true, Bool.false_eq_true, Option.some.injEq, exists_eq_left', Option.toList_some, Option.toList_none, ev_km, ev_k2, ev_k3, ev_k4, ev_k5, ev_l0, ev_l1, sh_1, sh_2, sh_3, sh_4, sh_5, at_X4_fillSeats_28, at_X4_fillSeats_59, at_X4_fillSeats_6, at_X4_fillSeats_74, at_X4_fillSeats_81, at_X4_fillSeats_87, ca_X4_188, ca_X4_191, ca_X4_194, ca_X4_197, cd_X4_fillSeats_0, cd_X4_fillSeats_28, cd_X4_fillSeats_59, cd_X4_fillSeats_6, cd_X4_fillSeats_74, cd_X4_fillSeats_81, cd_X4_fillSeats_87, fl_X4_50, fl_X4_77, ko_X4_187, ev_i_2, no_0, no_1, no_lt, no_le, no_eq, no_lt0, no_ge0, no_gt0, no_le0, no_eq0, no_0eq, no_eqm, no_meq, no_m0, no_mlt, no_mge, no_mgt, no_mm, no_i01, no_i10, no_in, no_or, no_ifm, no_mul, nI_add, no_sub, pk_div, iI_if, nI_clamp, oI_n, oI_s, not_true_eq_false, not_false_eq_true, forall_const, true_implies, false_and, and_false, or_false, false_or, Classical.not_not, true_or, or_true, no_b, no_eq1, eq_self, and_self, xk_0 hp, xk_1 hp, xk_2 hp, xk_3 hp, xk_4 hp, xk_5 hp, xk_6 hp, xk_7 hp, xk_8 hp, xk_9 hp, xk_10 hp, xk_11 hp, xk_12 hp, xk_13 hp, xk_14 hp, xk_15 hp, xk_16 hp, xk_17 hp, xk_18 hp, xk_19 hp, xk_20 hp, xk_21 hp, xl_1 hp, xl_2 hp, xl_3 hp, xl_4 hp, xl_6 hp, xl_8 hp, xl_10 hp, xl_12 hp, xl_14 hp, xl_15 hp, xl_17 hp, xl_18 hp, xl_21 hp, xp_7 hp, xp_8 hp, xp_9 hp, xp_10 hp, xp_11 hp, xp_12 hp, xp_13 hp, xp_14 hp, xp_15 hp, xp_16 hp, xp_17 hp, xp_t5 hp, xp_t7 hp, xp_t9 hp, xp_t11 hp, xp_t20 hp, xp_s19 hp, xp_a13 hp, xp_b13 hp, xp_a16 hp, xp_b16 hp, xc_r5 hp, xc_c5 hp, xc_r7 hp, xc_c7 hp, xc_r9 hp, xc_c9 hp, xc_r11 hp, xc_c11 hp, xc_r20 hp, xc_c20 hp, no_on, k_mil, hfl, e6, w1_d])
        | (with_reducible refine ev_gid ?_; simp (disch := first | omega | assumption) only [ev_run_c, ev_run_n, ev_fj, ev_stp, ev_lk, ev_fv, ev_as, ev_sz, ev_st1, ev_st2, ev_rm, ev_pk, ev_Jof, ev_go, lv_args, List.map_cons, List.map_nil, List.zip_cons_cons, List.zip_nil_left, List.zip_nil_right, List.nil_append, List.cons_append, ↓reduceIte, reduceCtorEq, Int.reduceToNat, Nat.reduceEqDiff, Nat.reduceAdd, Nat.reduceLT, Nat.reduceLeDiff, Nat.reduceMul, Nat.reduceSub, Value.category, false_implies, true_and, and_true, Bool.false_eq_true, Option.some.injEq, exists_eq_left', Option.toList_some, Option.toList_none, ev_km, ev_k2, ev_k3, ev_k4, ev_k5, ev_l0, ev_l1, sh_1, sh_2, sh_3, sh_4, sh_5, at_X4_fillSeats_28, at_X4_fillSeats_59, at_X4_fillSeats_6, at_X4_fillSeats_74, at_X4_fillSeats_81, at_X4_fillSeats_87, ca_X4_188, ca_X4_191, ca_X4_194, ca_X4_197, cd_X4_fillSeats_0, cd_X4_fillSeats_28, cd_X4_fillSeats_59, cd_X4_fillSeats_6, cd_X4_fillSeats_74, cd_X4_fillSeats_81, cd_X4_fillSeats_87, fl_X4_50, fl_X4_77, ko_X4_187, ev_i_2, no_0, no_1, no_lt, no_le, no_eq, no_lt0, no_ge0, no_gt0, no_le0, no_eq0, no_0eq, no_eqm, no_meq, no_m0, no_mlt, no_mge, no_mgt, no_mm, no_i01, no_i10, no_in, no_or, no_ifm, no_mul, nI_add, no_sub, pk_div, iI_if, nI_clamp, oI_n, oI_s, not_true_eq_false, not_false_eq_true, forall_const, true_implies, false_and, and_false, or_false, false_or, Classical.not_not, true_or, or_true, no_b, no_eq1, eq_self, and_self, xk_0 hp, xk_1 hp, xk_2 hp, xk_3 hp, xk_4 hp, xk_5 hp, xk_6 hp, xk_7 hp, xk_8 hp, xk_9 hp, xk_10 hp, xk_11 hp, xk_12 hp, xk_13 hp, xk_14 hp, xk_15 hp, xk_16 hp, xk_17 hp, xk_18 hp, xk_19 hp, xk_20 hp, xk_21 hp, xl_1 hp, xl_2 hp, xl_3 hp, xl_4 hp, xl_6 hp, xl_8 hp, xl_10 hp, xl_12 hp, xl_14 hp, xl_15 hp, xl_17 hp, xl_18 hp, xl_21 hp, xp_7 hp, xp_8 hp, xp_9 hp, xp_10 hp, xp_11 hp, xp_12 hp, xp_13 hp, xp_14 hp, xp_15 hp, xp_16 hp, xp_17 hp, xp_t5 hp, xp_t7 hp, xp_t9 hp, xp_t11 hp, xp_t20 hp, xp_s19 hp, xp_a13 hp, xp_b13 hp, xp_a16 hp, xp_b16 hp, xc_r5 hp, xc_c5 hp, xc_r7 hp, xc_c7 hp, xc_r9 hp, xc_c9 hp, xc_r11 hp, xc_c11 hp, xc_r20 hp, xc_c20 hp, no_on, k_mil, hfl, e6, w1_d])
        | (with_reducible refine And.intro (fun q => ?_) (fun q => ?_) <;> (try simp (disch := first | omega | assumption) only [no_0, no_1, no_lt, no_le, no_eq, no_lt0, no_ge0, no_gt0, no_le0, no_eq0, no_0eq, no_eqm, no_meq, no_m0, no_mlt, no_mge, no_mgt, no_mm, no_i01, no_i10, no_in, no_or, no_ifm, no_mul, nI_add, no_sub, pk_div, iI_if, nI_clamp, oI_n, oI_s, not_true_eq_false, not_false_eq_true, forall_const, true_implies, false_and, and_false, or_false, false_or, Classical.not_not, true_or, or_true, no_b, no_eq1, eq_self, and_self, xk_0 hp, xk_1 hp, xk_2 hp, xk_3 hp, xk_4 hp, xk_5 hp, xk_6 hp, xk_7 hp, xk_8 hp, xk_9 hp, xk_10 hp, xk_11 hp, xk_12 hp, xk_13 hp, xk_14 hp, xk_15 hp, xk_16 hp, xk_17 hp, xk_18 hp, xk_19 hp, xk_20 hp, xk_21 hp, xl_1 hp, xl_2 hp, xl_3 hp, xl_4 hp, xl_6 hp, xl_8 hp, xl_10 hp, xl_12 hp, xl_14 hp, xl_15 hp, xl_17 hp, xl_18 hp, xl_21 hp, xp_7 hp, xp_8 hp, xp_9 hp, xp_10 hp, xp_11 hp, xp_12 hp, xp_13 hp, xp_14 hp, xp_15 hp, xp_16 hp, xp_17 hp, xp_t5 hp, xp_t7 hp, xp_t9 hp, xp_t11 hp, xp_t20 hp, xp_s19 hp, xp_a13 hp, xp_b13 hp, xp_a16 hp, xp_b16 hp, xc_r5 hp, xc_c5 hp, xc_r7 hp, xc_c7 hp, xc_r9 hp, xc_c9 hp, xc_r11 hp, xc_c11 hp, xc_r20 hp, xc_c20 hp, no_on, k_mil, hfl, e6, w1_d] at q))
        | (with_reducible refine ev_ci d1 ?_)
        | with_reducible refine ev_ci (m_X4_bestFor hok hp (by with_reducible assumption) (by with_reducible assumption) ?_) ?_
        | omega
        | with_reducible assumption
        | with_reducible rfl
        | (refine Nat.lt_of_lt_of_le ?_ (Nat.le_refl 312); omega)
        | with_reducible refine lp_nx ?_ ?_ ?_ ?_
        | with_reducible refine lp_st ?_ ?_ ?_
        | with_reducible refine ls_c ?_ ?_
        | with_reducible refine vi_c ?_
        | with_reducible refine re_c ?_
        | with_reducible refine vz_c ?_
        | with_reducible refine rz_c ?_
        | exact trivial
        | with_reducible refine And.intro ?_ ?_
        | simp (disch := first | omega | assumption) only [ev_run_c, ev_run_n, ev_fj, ev_stp, ev_lk, ev_fv, ev_as, ev_sz, ev_st1, ev_st2, ev_rm, ev_pk, ev_Jof, ev_go, lv_args, List.map_cons, List.map_nil, List.zip_cons_cons, List.zip_nil_left, List.zip_nil_right, List.nil_append, List.cons_append, ↓reduceIte, reduceCtorEq, Int.reduceToNat, Nat.reduceEqDiff, Nat.reduceAdd, Nat.reduceLT, Nat.reduceLeDiff, Nat.reduceMul, Nat.reduceSub, Value.category, false_implies, true_and, and_true, Bool.false_eq_true, Option.some.injEq, exists_eq_left', Option.toList_some, Option.toList_none, ev_km, ev_k2, ev_k3, ev_k4, ev_k5, ev_l0, ev_l1, sh_1, sh_2, sh_3, sh_4, sh_5, at_X4_fillSeats_28, at_X4_fillSeats_59, at_X4_fillSeats_6, at_X4_fillSeats_74, at_X4_fillSeats_81, at_X4_fillSeats_87, ca_X4_188, ca_X4_191, ca_X4_194, ca_X4_197, cd_X4_fillSeats_0, cd_X4_fillSeats_28, cd_X4_fillSeats_59, cd_X4_fillSeats_6, cd_X4_fillSeats_74, cd_X4_fillSeats_81, cd_X4_fillSeats_87, fl_X4_50, fl_X4_77, ko_X4_187, ev_i_2, no_0, no_1, no_lt, no_le, no_eq, no_lt0, no_ge0, no_gt0, no_le0, no_eq0, no_0eq, no_eqm, no_meq, no_m0, no_mlt, no_mge, no_mgt, no_mm, no_i01, no_i10, no_in, no_or, no_ifm, no_mul, nI_add, no_sub, pk_div, iI_if, nI_clamp, oI_n, oI_s, not_true_eq_false, not_false_eq_true, forall_const, true_implies, false_and, and_false, or_false, false_or, Classical.not_not, true_or, or_true, no_b, no_eq1, eq_self, and_self, xk_0 hp, xk_1 hp, xk_2 hp, xk_3 hp, xk_4 hp, xk_5 hp, xk_6 hp, xk_7 hp, xk_8 hp, xk_9 hp, xk_10 hp, xk_11 hp, xk_12 hp, xk_13 hp, xk_14 hp, xk_15 hp, xk_16 hp, xk_17 hp, xk_18 hp, xk_19 hp, xk_20 hp, xk_21 hp, xl_1 hp, xl_2 hp, xl_3 hp, xl_4 hp, xl_6 hp, xl_8 hp, xl_10 hp, xl_12 hp, xl_14 hp, xl_15 hp, xl_17 hp, xl_18 hp, xl_21 hp, xp_7 hp, xp_8 hp, xp_9 hp, xp_10 hp, xp_11 hp, xp_12 hp, xp_13 hp, xp_14 hp, xp_15 hp, xp_16 hp, xp_17 hp, xp_t5 hp, xp_t7 hp, xp_t9 hp, xp_t11 hp, xp_t20 hp, xp_s19 hp, xp_a13 hp, xp_b13 hp, xp_a16 hp, xp_b16 hp, xc_r5 hp, xc_c5 hp, xc_r7 hp, xc_c7 hp, xc_r9 hp, xc_c9 hp, xc_r11 hp, xc_c11 hp, xc_r20 hp, xc_c20 hp, no_on, k_mil, hfl, e6, w1_d]
        | (split <;> omega))
  · rw [at_X4_fillSeats_0]
    have e7 : N 4 - N 4 = 0 := by omega
    repeat' (first
      | (with_reducible refine ev_rid ?_; simp (disch := first | omega | assumption) only [ev_run_c, ev_run_n, ev_fj, ev_stp, ev_lk, ev_fv, ev_as, ev_sz, ev_st1, ev_st2, ev_rm, ev_pk, ev_Jof, ev_go, lv_args, List.map_cons, List.map_nil, List.zip_cons_cons, List.zip_nil_left, List.zip_nil_right, List.nil_append, List.cons_append, ↓reduceIte, reduceCtorEq, Int.reduceToNat, Nat.reduceEqDiff, Nat.reduceAdd, Nat.reduceLT, Nat.reduceLeDiff, Nat.reduceMul, Nat.reduceSub, Value.category, false_implies, true_and, and_true, Bool.false_eq_true, Option.some.injEq, exists_eq_left', Option.toList_some, Option.toList_none, ev_km, ev_k2, ev_k3, ev_k4, ev_k5, ev_l0, ev_l1, sh_1, sh_2, sh_3, sh_4, sh_5, at_X4_fillSeats_28, at_X4_fillSeats_59, at_X4_fillSeats_6, at_X4_fillSeats_74, at_X4_fillSeats_81, at_X4_fillSeats_87, ca_X4_188, ca_X4_191, ca_X4_194, ca_X4_197, cd_X4_fillSeats_0, cd_X4_fillSeats_28, cd_X4_fillSeats_59, cd_X4_fillSeats_6, cd_X4_fillSeats_74, cd_X4_fillSeats_81, cd_X4_fillSeats_87, fl_X4_50, fl_X4_77, ko_X4_187, ev_i_2, no_0, no_1, no_lt, no_le, no_eq, no_lt0, no_ge0, no_gt0, no_le0, no_eq0, no_0eq, no_eqm, no_meq, no_m0, no_mlt, no_mge, no_mgt, no_mm, no_i01, no_i10, no_in, no_or, no_ifm, no_mul, nI_add, no_sub, pk_div, iI_if, nI_clamp, oI_n, oI_s, not_true_eq_false, not_false_eq_true, forall_const, true_implies, false_and, and_false, or_false, false_or, Classical.not_not, true_or, or_true, no_b, no_eq1, eq_self, and_self, xk_0 hp, xk_1 hp, xk_2 hp, xk_3 hp, xk_4 hp, xk_5 hp, xk_6 hp, xk_7 hp, xk_8 hp, xk_9 hp, xk_10 hp, xk_11 hp, xk_12 hp, xk_13 hp, xk_14 hp, xk_15 hp, xk_16 hp, xk_17 hp, xk_18 hp, xk_19 hp, xk_20 hp, xk_21 hp, xl_1 hp, xl_2 hp, xl_3 hp, xl_4 hp, xl_6 hp, xl_8 hp, xl_10 hp, xl_12 hp, xl_14 hp, xl_15 hp, xl_17 hp, xl_18 hp, xl_21 hp, xp_7 hp, xp_8 hp, xp_9 hp, xp_10 hp, xp_11 hp, xp_12 hp, xp_13 hp, xp_14 hp, xp_15 hp, xp_16 hp, xp_17 hp, xp_t5 hp, xp_t7 hp, xp_t9 hp, xp_t11 hp, xp_t20 hp, xp_s19 hp, xp_a13 hp, xp_b13 hp, xp_a16 hp, xp_b16 hp, xc_r5 hp, xc_c5 hp, xc_r7 hp, xc_c7 hp, xc_r9 hp, xc_c9 hp, xc_r11 hp, xc_c11 hp, xc_r20 hp, xc_c20 hp, no_on, hz0, h00, e7])
      | (with_reducible refine ev_gid ?_; simp (disch := first | omega | assumption) only [ev_run_c, ev_run_n, ev_fj, ev_stp, ev_lk, ev_fv, ev_as, ev_sz, ev_st1, ev_st2, ev_rm, ev_pk, ev_Jof, ev_go, lv_args, List.map_cons, List.map_nil, List.zip_cons_cons, List.zip_nil_left, List.zip_nil_right, List.nil_append, List.cons_append, ↓reduceIte, reduceCtorEq, Int.reduceToNat, Nat.reduceEqDiff, Nat.reduceAdd, Nat.reduceLT, Nat.reduceLeDiff, Nat.reduceMul, Nat.reduceSub, Value.category, false_implies, true_and, and_true, Bool.false_eq_true, Option.some.injEq, exists_eq_left', Option.toList_some, Option.toList_none, ev_km, ev_k2, ev_k3, ev_k4, ev_k5, ev_l0, ev_l1, sh_1, sh_2, sh_3, sh_4, sh_5, at_X4_fillSeats_28, at_X4_fillSeats_59, at_X4_fillSeats_6, at_X4_fillSeats_74, at_X4_fillSeats_81, at_X4_fillSeats_87, ca_X4_188, ca_X4_191, ca_X4_194, ca_X4_197, cd_X4_fillSeats_0, cd_X4_fillSeats_28, cd_X4_fillSeats_59, cd_X4_fillSeats_6, cd_X4_fillSeats_74, cd_X4_fillSeats_81, cd_X4_fillSeats_87, fl_X4_50, fl_X4_77, ko_X4_187, ev_i_2, no_0, no_1, no_lt, no_le, no_eq, no_lt0, no_ge0, no_gt0, no_le0, no_eq0, no_0eq, no_eqm, no_meq, no_m0, no_mlt, no_mge, no_mgt, no_mm, no_i01, no_i10, no_in, no_or, no_ifm, no_mul, nI_add, no_sub, pk_div, iI_if, nI_clamp, oI_n, oI_s, not_true_eq_false, not_false_eq_true, forall_const, true_implies, false_and, and_false, or_false, false_or, Classical.not_not, true_or, or_true, no_b, no_eq1, eq_self, and_self, xk_0 hp, xk_1 hp, xk_2 hp, xk_3 hp, xk_4 hp, xk_5 hp, xk_6 hp, xk_7 hp, xk_8 hp, xk_9 hp, xk_10 hp, xk_11 hp, xk_12 hp, xk_13 hp, xk_14 hp, xk_15 hp, xk_16 hp, xk_17 hp, xk_18 hp, xk_19 hp, xk_20 hp, xk_21 hp, xl_1 hp, xl_2 hp, xl_3 hp, xl_4 hp, xl_6 hp, xl_8 hp, xl_10 hp, xl_12 hp, xl_14 hp, xl_15 hp, xl_17 hp, xl_18 hp, xl_21 hp, xp_7 hp, xp_8 hp, xp_9 hp, xp_10 hp, xp_11 hp, xp_12 hp, xp_13 hp, xp_14 hp, xp_15 hp, xp_16 hp, xp_17 hp, xp_t5 hp, xp_t7 hp, xp_t9 hp, xp_t11 hp, xp_t20 hp, xp_s19 hp, xp_a13 hp, xp_b13 hp, xp_a16 hp, xp_b16 hp, xc_r5 hp, xc_c5 hp, xc_r7 hp, xc_c7 hp, xc_r9 hp, xc_c9 hp, xc_r11 hp, xc_c11 hp, xc_r20 hp, xc_c20 hp, no_on, hz0, h00, e7])
      | (with_reducible refine And.intro (fun q => ?_) (fun q => ?_) <;> (try simp (disch := first | omega | assumption) only [no_0, no_1, no_lt, no_le, no_eq, no_lt0, no_ge0, no_gt0, no_le0, no_eq0, no_0eq, no_eqm, no_meq, no_m0, no_mlt, no_mge, no_mgt, no_mm, no_i01, no_i10, no_in, no_or, no_ifm, no_mul, nI_add, no_sub, pk_div, iI_if, nI_clamp, oI_n, oI_s, not_true_eq_false, not_false_eq_true, forall_const, true_implies, false_and, and_false, or_false, false_or, Classical.not_not, true_or, or_true, no_b, no_eq1, eq_self, and_self, xk_0 hp, xk_1 hp, xk_2 hp, xk_3 hp, xk_4 hp, xk_5 hp, xk_6 hp, xk_7 hp, xk_8 hp, xk_9 hp, xk_10 hp, xk_11 hp, xk_12 hp, xk_13 hp, xk_14 hp, xk_15 hp, xk_16 hp, xk_17 hp, xk_18 hp, xk_19 hp, xk_20 hp, xk_21 hp, xl_1 hp, xl_2 hp, xl_3 hp, xl_4 hp, xl_6 hp, xl_8 hp, xl_10 hp, xl_12 hp, xl_14 hp, xl_15 hp, xl_17 hp, xl_18 hp, xl_21 hp, xp_7 hp, xp_8 hp, xp_9 hp, xp_10 hp, xp_11 hp, xp_12 hp, xp_13 hp, xp_14 hp, xp_15 hp, xp_16 hp, xp_17 hp, xp_t5 hp, xp_t7 hp, xp_t9 hp, xp_t11 hp, xp_t20 hp, xp_s19 hp, xp_a13 hp, xp_b13 hp, xp_a16 hp, xp_b16 hp, xc_r5 hp, xc_c5 hp, xc_r7 hp, xc_c7 hp, xc_r9 hp, xc_c9 hp, xc_r11 hp, xc_c11 hp, xc_r20 hp, xc_c20 hp, no_on, hz0, h00, e7] at q))
      | with_reducible refine ev_ci (m_X4_bestFor hok hp (by with_reducible assumption) (by with_reducible assumption) ?_) ?_
      | omega
      | with_reducible assumption
      | with_reducible rfl
      | (refine Nat.lt_of_lt_of_le ?_ (Nat.le_refl 312); omega)
      | with_reducible refine lp_nx ?_ ?_ ?_ ?_
      | with_reducible refine lp_st ?_ ?_ ?_
      | with_reducible refine ls_c ?_ ?_
      | with_reducible refine vi_c ?_
      | with_reducible refine re_c ?_
      | with_reducible refine vz_c ?_
      | with_reducible refine rz_c ?_
      | exact trivial
      | with_reducible refine And.intro ?_ ?_
      | simp (disch := first | omega | assumption) only [ev_run_c, ev_run_n, ev_fj, ev_stp, ev_lk, ev_fv, ev_as, ev_sz, ev_st1, ev_st2, ev_rm, ev_pk, ev_Jof, ev_go, lv_args, List.map_cons, List.map_nil, List.zip_cons_cons, List.zip_nil_left, List.zip_nil_right, List.nil_append, List.cons_append, ↓reduceIte, reduceCtorEq, Int.reduceToNat, Nat.reduceEqDiff, Nat.reduceAdd, Nat.reduceLT, Nat.reduceLeDiff, Nat.reduceMul, Nat.reduceSub, Value.category, false_implies, true_and, and_true, Bool.false_eq_true, Option.some.injEq, exists_eq_left', Option.toList_some, Option.toList_none, ev_km, ev_k2, ev_k3, ev_k4, ev_k5, ev_l0, ev_l1, sh_1, sh_2, sh_3, sh_4, sh_5, at_X4_fillSeats_28, at_X4_fillSeats_59, at_X4_fillSeats_6, at_X4_fillSeats_74, at_X4_fillSeats_81, at_X4_fillSeats_87, ca_X4_188, ca_X4_191, ca_X4_194, ca_X4_197, cd_X4_fillSeats_0, cd_X4_fillSeats_28, cd_X4_fillSeats_59, cd_X4_fillSeats_6, cd_X4_fillSeats_74, cd_X4_fillSeats_81, cd_X4_fillSeats_87, fl_X4_50, fl_X4_77, ko_X4_187, ev_i_2, no_0, no_1, no_lt, no_le, no_eq, no_lt0, no_ge0, no_gt0, no_le0, no_eq0, no_0eq, no_eqm, no_meq, no_m0, no_mlt, no_mge, no_mgt, no_mm, no_i01, no_i10, no_in, no_or, no_ifm, no_mul, nI_add, no_sub, pk_div, iI_if, nI_clamp, oI_n, oI_s, not_true_eq_false, not_false_eq_true, forall_const, true_implies, false_and, and_false, or_false, false_or, Classical.not_not, true_or, or_true, no_b, no_eq1, eq_self, and_self, xk_0 hp, xk_1 hp, xk_2 hp, xk_3 hp, xk_4 hp, xk_5 hp, xk_6 hp, xk_7 hp, xk_8 hp, xk_9 hp, xk_10 hp, xk_11 hp, xk_12 hp, xk_13 hp, xk_14 hp, xk_15 hp, xk_16 hp, xk_17 hp, xk_18 hp, xk_19 hp, xk_20 hp, xk_21 hp, xl_1 hp, xl_2 hp, xl_3 hp, xl_4 hp, xl_6 hp, xl_8 hp, xl_10 hp, xl_12 hp, xl_14 hp, xl_15 hp, xl_17 hp, xl_18 hp, xl_21 hp, xp_7 hp, xp_8 hp, xp_9 hp, xp_10 hp, xp_11 hp, xp_12 hp, xp_13 hp, xp_14 hp, xp_15 hp, xp_16 hp, xp_17 hp, xp_t5 hp, xp_t7 hp, xp_t9 hp, xp_t11 hp, xp_t20 hp, xp_s19 hp, xp_a13 hp, xp_b13 hp, xp_a16 hp, xp_b16 hp, xc_r5 hp, xc_c5 hp, xc_r7 hp, xc_c7 hp, xc_r9 hp, xc_c9 hp, xc_r11 hp, xc_c11 hp, xc_r20 hp, xc_c20 hp, no_on, hz0, h00, e7]
      | exact rfl
      | (split <;> omega))
end XFill2
