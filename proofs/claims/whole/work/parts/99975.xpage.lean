/-! ===== the class: output ===== -/
section XPage
variable {G : ev_G} {N : Nat → Nat} {μ μ' : ev_M} {p : Nat} {σ : ev_A}
/-- a list out of a function -/
def lsf (f : Nat → Nat) : Nat → List Nat
  | 0 => []
  | k + 1 => lsf f k ++ [f k]
theorem lsf_len {f : Nat → Nat} {n : Nat} : (lsf f n).length = n := by
  induction n with
  | zero => rfl
  | succ n ih => show (lsf f n ++ [f n]).length = n + 1; rw [List.length_append, ih]; rfl
/-- plain bytes -/
def lt8 (l : List Nat) : Prop := ∀ x, x ∈ l → x < 128
theorem lt8_0 : lt8 [] := fun x h => absurd h (List.not_mem_nil)
theorem lt8_1 {v : Nat} (h : v < 128) : lt8 [v] := fun x hx => by rw [List.mem_singleton.mp hx]; exact h
theorem lt8_a {l m : List Nat} (h : lt8 l) (h2 : lt8 m) : lt8 (l ++ m) := fun x hx => (List.mem_append.mp hx).elim (h x) (h2 x)
theorem lt8_i {c : Prop} [Decidable c] {l m : List Nat} (h : c → lt8 l) (h2 : ¬ c → lt8 m) : lt8 (if c then l else m) := by
  split
  · exact h (by assumption)
  · exact h2 (by assumption)
theorem lt8_f {f : Nat → Nat} {n : Nat} (h : ∀ k, k < n → f k < 128) : lt8 (lsf f n) := by
  induction n with
  | zero => exact lt8_0
  | succ n ih => exact lt8_a (ih (fun k hk => h k (by omega))) (lt8_1 (h n (by omega)))
theorem lt8_g {l : List Nat} (h : lt8 l) (i : Nat) : l.getD i 0 < 128 := by
  rw [List.getD_eq_getElem?_getD]
  cases e : l[i]? with
  | none => exact (show 0 < 128 by decide)
  | some x => exact h x (List.mem_of_getElem? e)
theorem lt8_dL (n k : Nat) : lt8 (dL n k) := by
  induction k with
  | zero => exact lt8_0
  | succ k ih =>
    have := dgt_le n k
    exact lt8_i (fun _ => ih) (fun _ => lt8_a ih (lt8_1 (by omega)))
theorem lt8_dg (z : Int) : lt8 (dgZ z) := lt8_a (lt8_i (fun _ => lt8_1 (by decide)) (fun _ => lt8_0)) (lt8_dL _ _)
theorem dgZ_1 {n : Nat} (h : n < 10) : dgZ (n : Int) = [48 + n] := by
  have : ∀ n : Fin 10, dgZ ((n.1 : Nat) : Int) = [48 + n.1] := by decide +kernel
  exact this ⟨n, h⟩
/-- one who eats -/
def nmt (N : Nat → Nat) (i : Nat) : List Nat := lsf (fun k => N (8 + 59 * i + (7 + k))) (N (8 + 59 * i + 6))
def ttx (N : Nat → Nat) (i q : Nat) : List Nat := nmt N i ++ [61] ++ (if N (8 + 59 * i + (23 + q)) = 0 then [63] else [48 + N (8 + 59 * i + (23 + q))])
def ptx (N : Nat → Nat) (q : Nat) : Nat → List Nat
  | 0 => []
  | k + 1 => ptx N q k ++ (if 0 < k then [44] else []) ++ ttx N (N (952 + 9 * q + (6 + k))) q
/-- a pancake's text -/
def pkt (N : Nat → Nat) (q : Nat) : List Nat := (if N (952 + 9 * q + 5) = 0 then [45] else []) ++ ptx N q (N (952 + 9 * q + 5)) ++ [47] ++ dgZ (tot N q)
/-- a person's bids -/
def bdt (N : Nat → Nat) (i : Nat) : Nat → List Nat
  | 0 => []
  | k + 1 => bdt N i k ++ [48 + N (8 + 59 * i + (13 + k))] ++ (if sP N k i < N (952 + 9 * k + 5) then [42] else if cf N i k = 0 then [] else [33])
theorem nmt_le (hI : INV N) {i : Nat} (hi : i < 16) : (nmt N i).length ≤ 6 := by
  unfold nmt
  rw [lsf_len]
  exact (iv_p hI i hi).2
theorem ttx_le (hI : INV N) {i q : Nat} (hi : i < 16) : (ttx N i q).length ≤ 8 := by
  have h := nmt_le hI hi
  unfold ttx
  rw [List.length_append, List.length_append, List.length_singleton]
  have e : (if N (8 + 59 * i + (23 + q)) = 0 then [63] else [48 + N (8 + 59 * i + (23 + q))]).length = 1 := by split <;> rfl
  omega
theorem ptx_le (hI : INV N) {q k : Nat} (hq : q < 10) (hk : k ≤ N (952 + 9 * q + 5)) : (ptx N q k).length ≤ 9 * k := by
  induction k with
  | zero => exact Nat.le_refl 0
  | succ k ih =>
    have h := ih (by omega)
    have h2 := iv_st hI q k hq (by omega)
    have h3 := ttx_le (q := q) hI (i := N (952 + 9 * q + (6 + k))) (by have := iv_h hI; omega)
    show (ptx N q k ++ (if 0 < k then [44] else []) ++ ttx N (N (952 + 9 * q + (6 + k))) q).length ≤ 9 * (k + 1)
    rw [List.length_append, List.length_append]
    have e : (if 0 < k then [44] else ([] : List Nat)).length ≤ 1 := by split <;> simp
    omega
theorem pkt_le (hI : INV N) {q : Nat} (hq : q < 10) : (pkt N q).length ≤ 64 := by
  have h := ptx_le hI hq (Nat.le_refl _)
  have h2 := (iv_q hI q hq).2.2
  have h3 := dgZ_len (tot N q)
  unfold pkt
  rw [List.length_append, List.length_append, List.length_append, List.length_singleton]
  have e : (if N (952 + 9 * q + 5) = 0 then [45] else ([] : List Nat)).length ≤ 1 := by split <;> simp
  omega
theorem bdt_le {i k : Nat} : (bdt N i k).length ≤ 2 * k := by
  induction k with
  | zero => exact Nat.le_refl 0
  | succ k ih =>
    show (bdt N i k ++ [48 + N (8 + 59 * i + (13 + k))] ++ (if sP N k i < N (952 + 9 * k + 5) then [42] else if cf N i k = 0 then [] else [33])).length ≤ 2 * (k + 1)
    rw [List.length_append, List.length_append, List.length_singleton]
    have e : (if sP N k i < N (952 + 9 * k + 5) then [42] else if cf N i k = 0 then ([] : List Nat) else [33]).length ≤ 1 := by (repeat' split) <;> simp
    omega
theorem nmt_8 (hI : INV N) {i : Nat} (hi : i < N 0) : lt8 (nmt N i) := lt8_f (fun k hk => by have := (iv_nm hI i k hi).2 hk; omega)
theorem ttx_8 (hI : INV N) {i q : Nat} (hi : i < N 0) (hq : q < 10) : lt8 (ttx N i q) := by
  have h := (iv_pq hI i q (by have := iv_h hI; omega) hq).2.1
  exact lt8_a (lt8_a (nmt_8 hI hi) (lt8_1 (by decide))) (lt8_i (fun _ => lt8_1 (by decide)) (fun _ => lt8_1 (by omega)))
theorem ptx_8 (hI : INV N) {q k : Nat} (hq : q < 10) (hk : k ≤ N (952 + 9 * q + 5)) : lt8 (ptx N q k) := by
  induction k with
  | zero => exact lt8_0
  | succ k ih => exact lt8_a (lt8_a (ih (by omega)) (lt8_i (fun _ => lt8_1 (by decide)) (fun _ => lt8_0))) (ttx_8 hI (iv_st hI q k hq (by omega)) hq)
theorem pkt_8 (hI : INV N) {q : Nat} (hq : q < 10) : lt8 (pkt N q) := lt8_a (lt8_a (lt8_a (lt8_i (fun _ => lt8_1 (by decide)) (fun _ => lt8_0)) (ptx_8 hI hq (Nat.le_refl _))) (lt8_1 (by decide))) (lt8_dg _)
theorem bdt_8 (hI : INV N) {i k : Nat} (hi : i < 16) (hk : k ≤ 10) : lt8 (bdt N i k) := by
  induction k with
  | zero => exact lt8_0
  | succ k ih =>
    have h := (iv_pq hI i k hi (by omega)).1
    exact lt8_a (lt8_a (ih (by omega)) (lt8_1 (by omega))) (lt8_i (fun _ => lt8_1 (by decide)) (fun _ => lt8_i (fun _ => lt8_0) (fun _ => lt8_1 (by decide))))
/-- what the three output methods do -/
def gS (σ : ev_A) (l : List Nat) : ev_A := (aN σ, aE σ, aH σ, aK σ, aV σ, aS σ, aB σ, aBn σ, aPc σ, aPa σ, (fun i => l.getD i 0), l.length)
def s_writePancake (σ : ev_A) (x : Int32) : Nat × Int32 × ev_A := (c1 (aE σ) (aN σ 1) x, v1 (aE σ) (aN σ 1) x (fun q => nI (pkt (aN σ) q).length), if aE σ = 0 then σ else match rx (aN σ 1) x with
  | none => σ
  | some q => gS σ (pkt (aN σ) q))
def s_writeBids (σ : ev_A) (x : Int32) : Nat × Int32 × ev_A := (c1 (aE σ) (aN σ 0) x, v1 (aE σ) (aN σ 0) x (fun i => nI (bdt (aN σ) i (aN σ 1)).length), if aE σ = 0 then σ else match rx (aN σ 0) x with
  | none => σ
  | some i => gS σ (bdt (aN σ) i (aN σ 1)))
theorem OKA_g {l : List Nat} (hA : OKA σ) (h : l.length ≤ 64) (h2 : lt8 l) : OKA (gS σ l) := by
  obtain ⟨h1, h2, h3, h4, h5, h6, h7, h8, h9, h10, h11⟩ := hA
  exact ⟨h1, h2, h3, h4, h5, h6, h7, h8, h9, h, fun i => lt8_g (by assumption) i⟩
theorem OKA_writePancake (hA : OKA σ) (x : Int32) : OKA (s_writePancake σ x).2.2 := by
  have hh := iv_h hA.1
  show OKA (if aE σ = 0 then σ else match rx (aN σ 1) x with
    | none => σ
    | some q => gS σ (pkt (aN σ) q))
  split
  · exact hA
  · cases h : rx (aN σ 1) x with
    | none => exact hA
    | some q =>
      have hq := (rx_s (by omega) h).1
      exact OKA_g hA (pkt_le hA.1 (by omega)) (pkt_8 hA.1 (by omega))
theorem OKA_writeBids (hA : OKA σ) (x : Int32) : OKA (s_writeBids σ x).2.2 := by
  have hh := iv_h hA.1
  show OKA (if aE σ = 0 then σ else match rx (aN σ 0) x with
    | none => σ
    | some i => gS σ (bdt (aN σ) i (aN σ 1)))
  split
  · exact hA
  · cases h : rx (aN σ 0) x with
    | none => exact hA
    | some q =>
      have hq := (rx_s (by omega) h).1
      exact OKA_g hA (by have := bdt_le (N := aN σ) (i := q) (k := aN σ 1); omega) (bdt_8 hA.1 (by omega) (by omega))
theorem PR_owr {l : List Nat} (h : PR p N μ) (hp : 4 < p) : PR p N (owr 3 l μ) := PR_fr h (fun a k ha _ => owr_n (by omega) (by omega)) (fun _ => rfl)
theorem XS_out {l : List Nat} (h : XS σ μ) (hk : aK σ ≤ 8) : XS (gS σ l) (owr 3 l μ) := by
  obtain ⟨⟨x1, x2⟩, ⟨x3, x4, x5, x6, x7⟩, x8, x9⟩ := id h
  have za : ∀ a k, a ≠ 3 → a ≠ 4 → (owr 3 l μ).1 a k = μ.1 a k := fun a k ha hb => owr_n ha hb
  have zr : (owr 3 l μ).2.2 = μ.2.2 := rfl
  have z3 : ∀ x, hx (owr 3 l μ) x = hx μ x := hx_c (za 78 1 (by omega) (by omega)) (fun x => by rw [zr])
  refine ⟨⟨PR_owr x1 (by omega), (za 34 0 (by omega) (by omega)).trans x2⟩, ⟨⟨fun i hi => ?_, fun i j hi hj hij => ?_, hl_c x3.2.2 (za 78 1 (by omega) (by omega))⟩, (za 78 2 (by omega) (by omega)).trans x4, fun i hi => ?_, fun i hi => ?_, x7⟩, fun s hs => ⟨?_, (za _ 0 (by omega) (by omega)).trans (x8 s hs).2.1, fun hv => PR_owr ((x8 s hs).2.2 hv) (by omega)⟩, ⟨(za 1 1 (by omega) (by omega)).trans x9.1.1, fun i hi => (za 2 i (by omega) (by omega)).trans (x9.1.2 i hi)⟩, ⟨(za 5 1 (by omega) (by omega)).trans x9.2.1.1, (za 5 2 (by omega) (by omega)).trans x9.2.1.2⟩, ⟨owr_s, fun i hi => if_pos ⟨rfl, hi⟩⟩, ?_⟩
  · rw [z3]; exact x3.1 i hi
  · rw [z3, z3]; exact x3.2.1 i j hi hj hij
  · have g := x3.1 i hi
    rw [z3, za _ _ (by omega) (by omega)]; exact x5 i hi
  · have hi8 : i < 8 := Nat.lt_of_lt_of_le hi hk
    have g := x3.1 i hi8
    rw [z3, za _ _ (by omega) (by omega)]
    exact ⟨PR_owr (x6 i hi).1 (by omega), (x6 i hi).2⟩
  · rw [zr]; exact (x8 s hs).1
  · rw [za 6 0 (by omega) (by omega)]; exact x9.2.2.2
theorem Fc_out {l : List Nat} : Fc μ (owr 3 l μ) := fun a k ha => ⟨owr_n (by omega) (by omega), rfl, rfl⟩
set_option maxHeartbeats 1000000 in
theorem m_addZ (hok : ev_ok sh_S G) {a L : Nat} (ha : OW a L) {l : List Nat} {z : Int} (hl : l.length + 11 < L) (hz : -3200000 ≤ z ∧ z ≤ 3200000) : ev_T sh_S G mi_X1_addNumber [.ref a, .int (iI z)] (owr a l μ) (.inl (none, owr a (l ++ dgZ z) μ)) := by
  obtain ⟨o1, o2, o3, o4, o5, o6⟩ := id ha
  have hn : z.natAbs ≤ 3200000 := by omega
  have hs : (if z < 0 then [45] else ([] : List Nat)).length ≤ 1 := by split <;> simp
  have hs2 : (l ++ (if z < 0 then [45] else ([] : List Nat))).length ≤ l.length + 1 := by rw [List.length_append]; omega
  refine ev_tri1 hok okM_X1_addNumber (Nat.le_of_ble_eq_true rfl) 21 [0, 1, 2, 3, 4] 10 400 (fun k => [.ref a, .int (iI z), .int (nI z.natAbs), .int (nI (hst z.natAbs k)), .int (nI (dvs k))]) (fun k => owr a (l ++ (if z < 0 then [45] else []) ++ dL z.natAbs k) μ) (fun _ => True) ?_ ?_
  · intro k hk _
    rw [at_X1_addNumber_21]
    have hh := hst_le z.natAbs k
    have hd := dgt_le z.natAbs k
    have hlen := dL_len z.natAbs k
    have hlen2 : (l ++ (if z < 0 then [45] else []) ++ dL z.natAbs k).length < L := by rw [List.length_append]; omega
    have hlen3 : (l ++ ((if z < 0 then [45] else []) ++ dL z.natAbs k)).length < L := by rw [← List.append_assoc]; exact hlen2
    rcases Nat.lt_or_ge k 10 with hkn | hkn
    · obtain ⟨e1, e2, e3⟩ := dvs_s hkn
      have ed : z.natAbs / dvs k - z.natAbs / dvs k / 10 * 10 = dgt z.natAbs k := rfl
      have eq1 : z.natAbs / dvs k ≤ z.natAbs := Nat.div_le_self _ _
      by_cases c : hst z.natAbs k = 0 ∧ dgt z.natAbs k = 0 ∧ ¬ dvs k = 1
      · obtain ⟨f1, f2⟩ := dL_0 c
        rw [← f2] at hlen2
        repeat' (first
          | (with_reducible refine ev_rid ?_; simp (disch := first | omega | assumption) only [ev_run_c, ev_run_n, ev_fj, ev_stp, ev_lk, ev_fv, ev_as, ev_sz, ev_st1, ev_st2, ev_rm, ev_pk, ev_Jof, ev_go, lv_args, List.map_cons, List.map_nil, List.zip_cons_cons, List.zip_nil_left, List.zip_nil_right, List.nil_append, List.cons_append, ↓reduceIte, reduceCtorEq, Int.reduceToNat, Nat.reduceEqDiff, Nat.reduceAdd, Nat.reduceLT, Nat.reduceLeDiff, Nat.reduceMul, Nat.reduceSub, Value.category, false_implies, true_and, and_true, Bool.false_eq_true, Option.some.injEq, exists_eq_left', Option.toList_some, Option.toList_none, ev_km, ev_k2, ev_k3, ev_k4, ev_k5, ev_l0, ev_l1, sh_1, sh_2, sh_3, sh_4, sh_5, at_X1_addNumber_10, at_X1_addNumber_21, at_X1_addNumber_50, at_X1_addNumber_54, at_X1_addNumber_55, at_X1_addNumber_69, at_X1_addNumber_79, ca_X1_33, ca_X1_45, cd_X1_addNumber_0, cd_X1_addNumber_10, cd_X1_addNumber_21, cd_X1_addNumber_50, cd_X1_addNumber_54, cd_X1_addNumber_55, cd_X1_addNumber_69, cd_X1_addNumber_79, ko_X1_49, ev_b_10, ev_b_45, ev_b_48, no_0, no_1, no_lt, no_le, no_eq, no_lt0, no_ge0, no_gt0, no_le0, no_eq0, no_0eq, no_eqm, no_meq, no_m0, no_mlt, no_mge, no_mgt, no_mm, no_i01, no_i10, no_in, no_or, no_ifm, no_mul, nI_add, no_sub, pk_div, iI_if, nI_clamp, oI_n, oI_s, not_true_eq_false, not_false_eq_true, forall_const, true_implies, false_and, and_false, or_false, false_or, Classical.not_not, true_or, or_true, no_b, no_eq1, eq_self, and_self, no_on, o1, ed, e1, f1, f2, c.1, c.2.1])
          | (with_reducible refine ev_gid ?_; simp (disch := first | omega | assumption) only [ev_run_c, ev_run_n, ev_fj, ev_stp, ev_lk, ev_fv, ev_as, ev_sz, ev_st1, ev_st2, ev_rm, ev_pk, ev_Jof, ev_go, lv_args, List.map_cons, List.map_nil, List.zip_cons_cons, List.zip_nil_left, List.zip_nil_right, List.nil_append, List.cons_append, ↓reduceIte, reduceCtorEq, Int.reduceToNat, Nat.reduceEqDiff, Nat.reduceAdd, Nat.reduceLT, Nat.reduceLeDiff, Nat.reduceMul, Nat.reduceSub, Value.category, false_implies, true_and, and_true, Bool.false_eq_true, Option.some.injEq, exists_eq_left', Option.toList_some, Option.toList_none, ev_km, ev_k2, ev_k3, ev_k4, ev_k5, ev_l0, ev_l1, sh_1, sh_2, sh_3, sh_4, sh_5, at_X1_addNumber_10, at_X1_addNumber_21, at_X1_addNumber_50, at_X1_addNumber_54, at_X1_addNumber_55, at_X1_addNumber_69, at_X1_addNumber_79, ca_X1_33, ca_X1_45, cd_X1_addNumber_0, cd_X1_addNumber_10, cd_X1_addNumber_21, cd_X1_addNumber_50, cd_X1_addNumber_54, cd_X1_addNumber_55, cd_X1_addNumber_69, cd_X1_addNumber_79, ko_X1_49, ev_b_10, ev_b_45, ev_b_48, no_0, no_1, no_lt, no_le, no_eq, no_lt0, no_ge0, no_gt0, no_le0, no_eq0, no_0eq, no_eqm, no_meq, no_m0, no_mlt, no_mge, no_mgt, no_mm, no_i01, no_i10, no_in, no_or, no_ifm, no_mul, nI_add, no_sub, pk_div, iI_if, nI_clamp, oI_n, oI_s, not_true_eq_false, not_false_eq_true, forall_const, true_implies, false_and, and_false, or_false, false_or, Classical.not_not, true_or, or_true, no_b, no_eq1, eq_self, and_self, no_on, o1, ed, e1, f1, f2, c.1, c.2.1])
          | (with_reducible refine And.intro (fun q => ?_) (fun q => ?_) <;> (try simp (disch := first | omega | assumption) only [no_0, no_1, no_lt, no_le, no_eq, no_lt0, no_ge0, no_gt0, no_le0, no_eq0, no_0eq, no_eqm, no_meq, no_m0, no_mlt, no_mge, no_mgt, no_mm, no_i01, no_i10, no_in, no_or, no_ifm, no_mul, nI_add, no_sub, pk_div, iI_if, nI_clamp, oI_n, oI_s, not_true_eq_false, not_false_eq_true, forall_const, true_implies, false_and, and_false, or_false, false_or, Classical.not_not, true_or, or_true, no_b, no_eq1, eq_self, and_self, no_on, o1, ed, e1, f1, f2, c.1, c.2.1] at q))
          | with_reducible refine ev_ci (m_X1_add hok ha ?_) ?_
          | omega
          | with_reducible assumption
          | with_reducible rfl
          | (refine Nat.lt_of_lt_of_le ?_ (Nat.le_refl 312); omega)
          | with_reducible refine lp_nx ?_ ?_ ?_ ?_
          | with_reducible refine lp_st ?_ ?_ ?_
          | with_reducible refine ls_c ?_ ?_
          | with_reducible refine vi_c ?_
          | with_reducible refine re_c ?_
          | with_reducible refine vz_c ?_
          | with_reducible refine rz_c ?_
          | exact trivial
          | with_reducible refine And.intro ?_ ?_
          | simp (disch := first | omega | assumption) only [ev_run_c, ev_run_n, ev_fj, ev_stp, ev_lk, ev_fv, ev_as, ev_sz, ev_st1, ev_st2, ev_rm, ev_pk, ev_Jof, ev_go, lv_args, List.map_cons, List.map_nil, List.zip_cons_cons, List.zip_nil_left, List.zip_nil_right, List.nil_append, List.cons_append, ↓reduceIte, reduceCtorEq, Int.reduceToNat, Nat.reduceEqDiff, Nat.reduceAdd, Nat.reduceLT, Nat.reduceLeDiff, Nat.reduceMul, Nat.reduceSub, Value.category, false_implies, true_and, and_true, Bool.false_eq_true, Option.some.injEq, exists_eq_left', Option.toList_some, Option.toList_none, ev_km, ev_k2, ev_k3, ev_k4, ev_k5, ev_l0, ev_l1, sh_1, sh_2, sh_3, sh_4, sh_5, at_X1_addNumber_10, at_X1_addNumber_21, at_X1_addNumber_50, at_X1_addNumber_54, at_X1_addNumber_55, at_X1_addNumber_69, at_X1_addNumber_79, ca_X1_33, ca_X1_45, cd_X1_addNumber_0, cd_X1_addNumber_10, cd_X1_addNumber_21, cd_X1_addNumber_50, cd_X1_addNumber_54, cd_X1_addNumber_55, cd_X1_addNumber_69, cd_X1_addNumber_79, ko_X1_49, ev_b_10, ev_b_45, ev_b_48, no_0, no_1, no_lt, no_le, no_eq, no_lt0, no_ge0, no_gt0, no_le0, no_eq0, no_0eq, no_eqm, no_meq, no_m0, no_mlt, no_mge, no_mgt, no_mm, no_i01, no_i10, no_in, no_or, no_ifm, no_mul, nI_add, no_sub, pk_div, iI_if, nI_clamp, oI_n, oI_s, not_true_eq_false, not_false_eq_true, forall_const, true_implies, false_and, and_false, or_false, false_or, Classical.not_not, true_or, or_true, no_b, no_eq1, eq_self, and_self, no_on, o1, ed, e1, f1, f2, c.1, c.2.1]
          | exact rfl
          | (split <;> omega))
      · obtain ⟨f1, f2⟩ := dL_1 c
        by_cases c1 : hst z.natAbs k = 0
        · by_cases c2 : dgt z.natAbs k = 0
          · have c3 : dvs k = 1 := by omega
            repeat' (first
              | (with_reducible refine ev_rid ?_; simp (disch := first | omega | assumption) only [ev_run_c, ev_run_n, ev_fj, ev_stp, ev_lk, ev_fv, ev_as, ev_sz, ev_st1, ev_st2, ev_rm, ev_pk, ev_Jof, ev_go, lv_args, List.map_cons, List.map_nil, List.zip_cons_cons, List.zip_nil_left, List.zip_nil_right, List.nil_append, List.cons_append, ↓reduceIte, reduceCtorEq, Int.reduceToNat, Nat.reduceEqDiff, Nat.reduceAdd, Nat.reduceLT, Nat.reduceLeDiff, Nat.reduceMul, Nat.reduceSub, Value.category, false_implies, true_and, and_true, Bool.false_eq_true, Option.some.injEq, exists_eq_left', Option.toList_some, Option.toList_none, ev_km, ev_k2, ev_k3, ev_k4, ev_k5, ev_l0, ev_l1, sh_1, sh_2, sh_3, sh_4, sh_5, at_X1_addNumber_10, at_X1_addNumber_21, at_X1_addNumber_50, at_X1_addNumber_54, at_X1_addNumber_55, at_X1_addNumber_69, at_X1_addNumber_79, ca_X1_33, ca_X1_45, cd_X1_addNumber_0, cd_X1_addNumber_10, cd_X1_addNumber_21, cd_X1_addNumber_50, cd_X1_addNumber_54, cd_X1_addNumber_55, cd_X1_addNumber_69, cd_X1_addNumber_79, ko_X1_49, ev_b_10, ev_b_45, ev_b_48, no_0, no_1, no_lt, no_le, no_eq, no_lt0, no_ge0, no_gt0, no_le0, no_eq0, no_0eq, no_eqm, no_meq, no_m0, no_mlt, no_mge, no_mgt, no_mm, no_i01, no_i10, no_in, no_or, no_ifm, no_mul, nI_add, no_sub, pk_div, iI_if, nI_clamp, oI_n, oI_s, not_true_eq_false, not_false_eq_true, forall_const, true_implies, false_and, and_false, or_false, false_or, Classical.not_not, true_or, or_true, no_b, no_eq1, eq_self, and_self, no_on, o1, ed, e1, f1, f2, c1, c2, List.append_assoc])
              | (with_reducible refine ev_gid ?_; simp (disch := first | omega | assumption) only [ev_run_c, ev_run_n, ev_fj, ev_stp, ev_lk, ev_fv, ev_as, ev_sz, ev_st1, ev_st2, ev_rm, ev_pk, ev_Jof, ev_go, lv_args, List.map_cons, List.map_nil, List.zip_cons_cons, List.zip_nil_left, List.zip_nil_right, List.nil_append, List.cons_append, ↓reduceIte, reduceCtorEq, Int.reduceToNat, Nat.reduceEqDiff, Nat.reduceAdd, Nat.reduceLT, Nat.reduceLeDiff, Nat.reduceMul, Nat.reduceSub, Value.category, false_implies, true_and, and_true, Bool.false_eq_true, Option.some.injEq, exists_eq_left', Option.toList_some, Option.toList_none, ev_km, ev_k2, ev_k3, ev_k4, ev_k5, ev_l0, ev_l1, sh_1, sh_2, sh_3, sh_4, sh_5, at_X1_addNumber_10, at_X1_addNumber_21, at_X1_addNumber_50, at_X1_addNumber_54, at_X1_addNumber_55, at_X1_addNumber_69, at_X1_addNumber_79, ca_X1_33, ca_X1_45, cd_X1_addNumber_0, cd_X1_addNumber_10, cd_X1_addNumber_21, cd_X1_addNumber_50, cd_X1_addNumber_54, cd_X1_addNumber_55, cd_X1_addNumber_69, cd_X1_addNumber_79, ko_X1_49, ev_b_10, ev_b_45, ev_b_48, no_0, no_1, no_lt, no_le, no_eq, no_lt0, no_ge0, no_gt0, no_le0, no_eq0, no_0eq, no_eqm, no_meq, no_m0, no_mlt, no_mge, no_mgt, no_mm, no_i01, no_i10, no_in, no_or, no_ifm, no_mul, nI_add, no_sub, pk_div, iI_if, nI_clamp, oI_n, oI_s, not_true_eq_false, not_false_eq_true, forall_const, true_implies, false_and, and_false, or_false, false_or, Classical.not_not, true_or, or_true, no_b, no_eq1, eq_self, and_self, no_on, o1, ed, e1, f1, f2, c1, c2, List.append_assoc])
              | (with_reducible refine And.intro (fun q => ?_) (fun q => ?_) <;> (try simp (disch := first | omega | assumption) only [no_0, no_1, no_lt, no_le, no_eq, no_lt0, no_ge0, no_gt0, no_le0, no_eq0, no_0eq, no_eqm, no_meq, no_m0, no_mlt, no_mge, no_mgt, no_mm, no_i01, no_i10, no_in, no_or, no_ifm, no_mul, nI_add, no_sub, pk_div, iI_if, nI_clamp, oI_n, oI_s, not_true_eq_false, not_false_eq_true, forall_const, true_implies, false_and, and_false, or_false, false_or, Classical.not_not, true_or, or_true, no_b, no_eq1, eq_self, and_self, no_on, o1, ed, e1, f1, f2, c1, c2, List.append_assoc] at q))
              | with_reducible refine ev_ci (m_X1_add hok ha ?_) ?_
              | omega
              | with_reducible assumption
              | with_reducible rfl
              | (refine Nat.lt_of_lt_of_le ?_ (Nat.le_refl 312); omega)
              | with_reducible refine lp_nx ?_ ?_ ?_ ?_
              | with_reducible refine lp_st ?_ ?_ ?_
              | with_reducible refine ls_c ?_ ?_
              | with_reducible refine vi_c ?_
              | with_reducible refine re_c ?_
              | with_reducible refine vz_c ?_
              | with_reducible refine rz_c ?_
              | exact trivial
              | with_reducible refine And.intro ?_ ?_
              | simp (disch := first | omega | assumption) only [ev_run_c, ev_run_n, ev_fj, ev_stp, ev_lk, ev_fv, ev_as, ev_sz, ev_st1, ev_st2, ev_rm, ev_pk, ev_Jof, ev_go, lv_args, List.map_cons, List.map_nil, List.zip_cons_cons, List.zip_nil_left, List.zip_nil_right, List.nil_append, List.cons_append, ↓reduceIte, reduceCtorEq, Int.reduceToNat, Nat.reduceEqDiff, Nat.reduceAdd, Nat.reduceLT, Nat.reduceLeDiff, Nat.reduceMul, Nat.reduceSub, Value.category, false_implies, true_and, and_true, Bool.false_eq_true, Option.some.injEq, exists_eq_left', Option.toList_some, Option.toList_none, ev_km, ev_k2, ev_k3, ev_k4, ev_k5, ev_l0, ev_l1, sh_1, sh_2, sh_3, sh_4, sh_5, at_X1_addNumber_10, at_X1_addNumber_21, at_X1_addNumber_50, at_X1_addNumber_54, at_X1_addNumber_55, at_X1_addNumber_69, at_X1_addNumber_79, ca_X1_33, ca_X1_45, cd_X1_addNumber_0, cd_X1_addNumber_10, cd_X1_addNumber_21, cd_X1_addNumber_50, cd_X1_addNumber_54, cd_X1_addNumber_55, cd_X1_addNumber_69, cd_X1_addNumber_79, ko_X1_49, ev_b_10, ev_b_45, ev_b_48, no_0, no_1, no_lt, no_le, no_eq, no_lt0, no_ge0, no_gt0, no_le0, no_eq0, no_0eq, no_eqm, no_meq, no_m0, no_mlt, no_mge, no_mgt, no_mm, no_i01, no_i10, no_in, no_or, no_ifm, no_mul, nI_add, no_sub, pk_div, iI_if, nI_clamp, oI_n, oI_s, not_true_eq_false, not_false_eq_true, forall_const, true_implies, false_and, and_false, or_false, false_or, Classical.not_not, true_or, or_true, no_b, no_eq1, eq_self, and_self, no_on, o1, ed, e1, f1, f2, c1, c2, List.append_assoc]
              | exact rfl
              | (split <;> omega))
          · repeat' (first
              | (with_reducible refine ev_rid ?_; simp (disch := first | omega | assumption) only [ev_run_c, ev_run_n, ev_fj, ev_stp, ev_lk, ev_fv, ev_as, ev_sz, ev_st1, ev_st2, ev_rm, ev_pk, ev_Jof, ev_go, lv_args, List.map_cons, List.map_nil, List.zip_cons_cons, List.zip_nil_left, List.zip_nil_right, List.nil_append, List.cons_append, ↓reduceIte, reduceCtorEq, Int.reduceToNat, Nat.reduceEqDiff, Nat.reduceAdd, Nat.reduceLT, Nat.reduceLeDiff, Nat.reduceMul, Nat.reduceSub, Value.category, false_implies, true_and, and_true, Bool.false_eq_true, Option.some.injEq, exists_eq_left', Option.toList_some, Option.toList_none, ev_km, ev_k2, ev_k3, ev_k4, ev_k5, ev_l0, ev_l1, sh_1, sh_2, sh_3, sh_4, sh_5, at_X1_addNumber_10, at_X1_addNumber_21, at_X1_addNumber_50, at_X1_addNumber_54, at_X1_addNumber_55, at_X1_addNumber_69, at_X1_addNumber_79, ca_X1_33, ca_X1_45, cd_X1_addNumber_0, cd_X1_addNumber_10, cd_X1_addNumber_21, cd_X1_addNumber_50, cd_X1_addNumber_54, cd_X1_addNumber_55, cd_X1_addNumber_69, cd_X1_addNumber_79, ko_X1_49, ev_b_10, ev_b_45, ev_b_48, no_0, no_1, no_lt, no_le, no_eq, no_lt0, no_ge0, no_gt0, no_le0, no_eq0, no_0eq, no_eqm, no_meq, no_m0, no_mlt, no_mge, no_mgt, no_mm, no_i01, no_i10, no_in, no_or, no_ifm, no_mul, nI_add, no_sub, pk_div, iI_if, nI_clamp, oI_n, oI_s, not_true_eq_false, not_false_eq_true, forall_const, true_implies, false_and, and_false, or_false, false_or, Classical.not_not, true_or, or_true, no_b, no_eq1, eq_self, and_self, no_on, o1, ed, e1, f1, f2, c1, c2, List.append_assoc])
              | (with_reducible refine ev_gid ?_; simp (disch := first | omega | assumption) only [ev_run_c, ev_run_n, ev_fj, ev_stp, ev_lk, ev_fv, ev_as, ev_sz, ev_st1, ev_st2, ev_rm, ev_pk, ev_Jof, ev_go, lv_args, List.map_cons, List.map_nil, List.zip_cons_cons, List.zip_nil_left, List.zip_nil_right, List.nil_append, List.cons_append, ↓reduceIte, reduceCtorEq, Int.reduceToNat, Nat.reduceEqDiff, Nat.reduceAdd, Nat.reduceLT, Nat.reduceLeDiff, Nat.reduceMul, Nat.reduceSub, Value.category, false_implies, true_and, and_true, Bool.false_eq_true, Option.some.injEq, exists_eq_left', Option.toList_some, Option.toList_none, ev_km, ev_k2, ev_k3, ev_k4, ev_k5, ev_l0, ev_l1, sh_1, sh_2, sh_3, sh_4, sh_5, at_X1_addNumber_10, at_X1_addNumber_21, at_X1_addNumber_50, at_X1_addNumber_54, at_X1_addNumber_55, at_X1_addNumber_69, at_X1_addNumber_79, ca_X1_33, ca_X1_45, cd_X1_addNumber_0, cd_X1_addNumber_10, cd_X1_addNumber_21, cd_X1_addNumber_50, cd_X1_addNumber_54, cd_X1_addNumber_55, cd_X1_addNumber_69, cd_X1_addNumber_79, ko_X1_49, ev_b_10, ev_b_45, ev_b_48, no_0, no_1, no_lt, no_le, no_eq, no_lt0, no_ge0, no_gt0, no_le0, no_eq0, no_0eq, no_eqm, no_meq, no_m0, no_mlt, no_mge, no_mgt, no_mm, no_i01, no_i10, no_in, no_or, no_ifm, no_mul, nI_add, no_sub, pk_div, iI_if, nI_clamp, oI_n, oI_s, not_true_eq_false, not_false_eq_true, forall_const, true_implies, false_and, and_false, or_false, false_or, Classical.not_not, true_or, or_true, no_b, no_eq1, eq_self, and_self, no_on, o1, ed, e1, f1, f2, c1, c2, List.append_assoc])
              | (with_reducible refine And.intro (fun q => ?_) (fun q => ?_) <;> (try simp (disch := first | omega | assumption) only [no_0, no_1, no_lt, no_le, no_eq, no_lt0, no_ge0, no_gt0, no_le0, no_eq0, no_0eq, no_eqm, no_meq, no_m0, no_mlt, no_mge, no_mgt, no_mm, no_i01, no_i10, no_in, no_or, no_ifm, no_mul, nI_add, no_sub, pk_div, iI_if, nI_clamp, oI_n, oI_s, not_true_eq_false, not_false_eq_true, forall_const, true_implies, false_and, and_false, or_false, false_or, Classical.not_not, true_or, or_true, no_b, no_eq1, eq_self, and_self, no_on, o1, ed, e1, f1, f2, c1, c2, List.append_assoc] at q))
              | with_reducible refine ev_ci (m_X1_add hok ha ?_) ?_
              | omega
              | with_reducible assumption
              | with_reducible rfl
              | (refine Nat.lt_of_lt_of_le ?_ (Nat.le_refl 312); omega)
              | with_reducible refine lp_nx ?_ ?_ ?_ ?_
              | with_reducible refine lp_st ?_ ?_ ?_
              | with_reducible refine ls_c ?_ ?_
              | with_reducible refine vi_c ?_
              | with_reducible refine re_c ?_
              | with_reducible refine vz_c ?_
              | with_reducible refine rz_c ?_
              | exact trivial
              | with_reducible refine And.intro ?_ ?_
              | simp (disch := first | omega | assumption) only [ev_run_c, ev_run_n, ev_fj, ev_stp, ev_lk, ev_fv, ev_as, ev_sz, ev_st1, ev_st2, ev_rm, ev_pk, ev_Jof, ev_go, lv_args, List.map_cons, List.map_nil, List.zip_cons_cons, List.zip_nil_left, List.zip_nil_right, List.nil_append, List.cons_append, ↓reduceIte, reduceCtorEq, Int.reduceToNat, Nat.reduceEqDiff, Nat.reduceAdd, Nat.reduceLT, Nat.reduceLeDiff, Nat.reduceMul, Nat.reduceSub, Value.category, false_implies, true_and, and_true, Bool.false_eq_true, Option.some.injEq, exists_eq_left', Option.toList_some, Option.toList_none, ev_km, ev_k2, ev_k3, ev_k4, ev_k5, ev_l0, ev_l1, sh_1, sh_2, sh_3, sh_4, sh_5, at_X1_addNumber_10, at_X1_addNumber_21, at_X1_addNumber_50, at_X1_addNumber_54, at_X1_addNumber_55, at_X1_addNumber_69, at_X1_addNumber_79, ca_X1_33, ca_X1_45, cd_X1_addNumber_0, cd_X1_addNumber_10, cd_X1_addNumber_21, cd_X1_addNumber_50, cd_X1_addNumber_54, cd_X1_addNumber_55, cd_X1_addNumber_69, cd_X1_addNumber_79, ko_X1_49, ev_b_10, ev_b_45, ev_b_48, no_0, no_1, no_lt, no_le, no_eq, no_lt0, no_ge0, no_gt0, no_le0, no_eq0, no_0eq, no_eqm, no_meq, no_m0, no_mlt, no_mge, no_mgt, no_mm, no_i01, no_i10, no_in, no_or, no_ifm, no_mul, nI_add, no_sub, pk_div, iI_if, nI_clamp, oI_n, oI_s, not_true_eq_false, not_false_eq_true, forall_const, true_implies, false_and, and_false, or_false, false_or, Classical.not_not, true_or, or_true, no_b, no_eq1, eq_self, and_self, no_on, o1, ed, e1, f1, f2, c1, c2, List.append_assoc]
              | exact rfl
              | (split <;> omega))
        · repeat' (first
            | (with_reducible refine ev_rid ?_; simp (disch := first | omega | assumption) only [ev_run_c, ev_run_n, ev_fj, ev_stp, ev_lk, ev_fv, ev_as, ev_sz, ev_st1, ev_st2, ev_rm, ev_pk, ev_Jof, ev_go, lv_args, List.map_cons, List.map_nil, List.zip_cons_cons, List.zip_nil_left, List.zip_nil_right, List.nil_append, List.cons_append, ↓reduceIte, reduceCtorEq, Int.reduceToNat, Nat.reduceEqDiff, Nat.reduceAdd, Nat.reduceLT, Nat.reduceLeDiff, Nat.reduceMul, Nat.reduceSub, Value.category, false_implies, true_and, and_true, Bool.false_eq_true, Option.some.injEq, exists_eq_left', Option.toList_some, Option.toList_none, ev_km, ev_k2, ev_k3, ev_k4, ev_k5, ev_l0, ev_l1, sh_1, sh_2, sh_3, sh_4, sh_5, at_X1_addNumber_10, at_X1_addNumber_21, at_X1_addNumber_50, at_X1_addNumber_54, at_X1_addNumber_55, at_X1_addNumber_69, at_X1_addNumber_79, ca_X1_33, ca_X1_45, cd_X1_addNumber_0, cd_X1_addNumber_10, cd_X1_addNumber_21, cd_X1_addNumber_50, cd_X1_addNumber_54, cd_X1_addNumber_55, cd_X1_addNumber_69, cd_X1_addNumber_79, ko_X1_49, ev_b_10, ev_b_45, ev_b_48, no_0, no_1, no_lt, no_le, no_eq, no_lt0, no_ge0, no_gt0, no_le0, no_eq0, no_0eq, no_eqm, no_meq, no_m0, no_mlt, no_mge, no_mgt, no_mm, no_i01, no_i10, no_in, no_or, no_ifm, no_mul, nI_add, no_sub, pk_div, iI_if, nI_clamp, oI_n, oI_s, not_true_eq_false, not_false_eq_true, forall_const, true_implies, false_and, and_false, or_false, false_or, Classical.not_not, true_or, or_true, no_b, no_eq1, eq_self, and_self, no_on, o1, ed, e1, f1, f2, c1, List.append_assoc])
            | (with_reducible refine ev_gid ?_; simp (disch := first | omega | assumption) only [ev_run_c, ev_run_n, ev_fj, ev_stp, ev_lk, ev_fv, ev_as, ev_sz, ev_st1, ev_st2, ev_rm, ev_pk, ev_Jof, ev_go, lv_args, List.map_cons, List.map_nil, List.zip_cons_cons, List.zip_nil_left, List.zip_nil_right, List.nil_append, List.cons_append, ↓reduceIte, reduceCtorEq, Int.reduceToNat, Nat.reduceEqDiff, Nat.reduceAdd, Nat.reduceLT, Nat.reduceLeDiff, Nat.reduceMul, Nat.reduceSub, Value.category, false_implies, true_and, and_true, Bool.false_eq_true, Option.some.injEq, exists_eq_left', Option.toList_some, Option.toList_none, ev_km, ev_k2, ev_k3, ev_k4, ev_k5, ev_l0, ev_l1, sh_1, sh_2, sh_3, sh_4, sh_5, at_X1_addNumber_10, at_X1_addNumber_21, at_X1_addNumber_50, at_X1_addNumber_54, at_X1_addNumber_55, at_X1_addNumber_69, at_X1_addNumber_79, ca_X1_33, ca_X1_45, cd_X1_addNumber_0, cd_X1_addNumber_10, cd_X1_addNumber_21, cd_X1_addNumber_50, cd_X1_addNumber_54, cd_X1_addNumber_55, cd_X1_addNumber_69, cd_X1_addNumber_79, ko_X1_49, ev_b_10, ev_b_45, ev_b_48, no_0, no_1, no_lt, no_le, no_eq, no_lt0, no_ge0, no_gt0, no_le0, no_eq0, no_0eq, no_eqm, no_meq, no_m0, no_mlt, no_mge, no_mgt, no_mm, no_i01, no_i10, no_in, no_or, no_ifm, no_mul, nI_add, no_sub, pk_div, iI_if, nI_clamp, oI_n, oI_s, not_true_eq_false, not_false_eq_true, forall_const, true_implies, false_and, and_false, or_false, false_or, Classical.not_not, true_or, or_true, no_b, no_eq1, eq_self, and_self, no_on, o1, ed, e1, f1, f2, c1, List.append_assoc])
            | (with_reducible refine And.intro (fun q => ?_) (fun q => ?_) <;> (try simp (disch := first | omega | assumption) only [no_0, no_1, no_lt, no_le, no_eq, no_lt0, no_ge0, no_gt0, no_le0, no_eq0, no_0eq, no_eqm, no_meq, no_m0, no_mlt, no_mge, no_mgt, no_mm, no_i01, no_i10, no_in, no_or, no_ifm, no_mul, nI_add, no_sub, pk_div, iI_if, nI_clamp, oI_n, oI_s, not_true_eq_false, not_false_eq_true, forall_const, true_implies, false_and, and_false, or_false, false_or, Classical.not_not, true_or, or_true, no_b, no_eq1, eq_self, and_self, no_on, o1, ed, e1, f1, f2, c1, List.append_assoc] at q))
            | with_reducible refine ev_ci (m_X1_add hok ha ?_) ?_
            | omega
            | with_reducible assumption
            | with_reducible rfl
            | (refine Nat.lt_of_lt_of_le ?_ (Nat.le_refl 312); omega)
            | with_reducible refine lp_nx ?_ ?_ ?_ ?_
            | with_reducible refine lp_st ?_ ?_ ?_
            | with_reducible refine ls_c ?_ ?_
            | with_reducible refine vi_c ?_
            | with_reducible refine re_c ?_
            | with_reducible refine vz_c ?_
            | with_reducible refine rz_c ?_
            | exact trivial
            | with_reducible refine And.intro ?_ ?_
            | simp (disch := first | omega | assumption) only [ev_run_c, ev_run_n, ev_fj, ev_stp, ev_lk, ev_fv, ev_as, ev_sz, ev_st1, ev_st2, ev_rm, ev_pk, ev_Jof, ev_go, lv_args, List.map_cons, List.map_nil, List.zip_cons_cons, List.zip_nil_left, List.zip_nil_right, List.nil_append, List.cons_append, ↓reduceIte, reduceCtorEq, Int.reduceToNat, Nat.reduceEqDiff, Nat.reduceAdd, Nat.reduceLT, Nat.reduceLeDiff, Nat.reduceMul, Nat.reduceSub, Value.category, false_implies, true_and, and_true, Bool.false_eq_true, Option.some.injEq, exists_eq_left', Option.toList_some, Option.toList_none, ev_km, ev_k2, ev_k3, ev_k4, ev_k5, ev_l0, ev_l1, sh_1, sh_2, sh_3, sh_4, sh_5, at_X1_addNumber_10, at_X1_addNumber_21, at_X1_addNumber_50, at_X1_addNumber_54, at_X1_addNumber_55, at_X1_addNumber_69, at_X1_addNumber_79, ca_X1_33, ca_X1_45, cd_X1_addNumber_0, cd_X1_addNumber_10, cd_X1_addNumber_21, cd_X1_addNumber_50, cd_X1_addNumber_54, cd_X1_addNumber_55, cd_X1_addNumber_69, cd_X1_addNumber_79, ko_X1_49, ev_b_10, ev_b_45, ev_b_48, no_0, no_1, no_lt, no_le, no_eq, no_lt0, no_ge0, no_gt0, no_le0, no_eq0, no_0eq, no_eqm, no_meq, no_m0, no_mlt, no_mge, no_mgt, no_mm, no_i01, no_i10, no_in, no_or, no_ifm, no_mul, nI_add, no_sub, pk_div, iI_if, nI_clamp, oI_n, oI_s, not_true_eq_false, not_false_eq_true, forall_const, true_implies, false_and, and_false, or_false, false_or, Classical.not_not, true_or, or_true, no_b, no_eq1, eq_self, and_self, no_on, o1, ed, e1, f1, f2, c1, List.append_assoc]
            | exact rfl
            | (split <;> omega))
    · have hkn : k = 10 := by omega
      subst hkn
      have e : l ++ dgZ z = l ++ (if z < 0 then [45] else []) ++ dL z.natAbs 10 := by unfold dgZ; rw [List.append_assoc]
      rw [e]
      repeat' (first
        | (with_reducible refine ev_rid ?_; simp (disch := first | omega | assumption) only [ev_run_c, ev_run_n, ev_fj, ev_stp, ev_lk, ev_fv, ev_as, ev_sz, ev_st1, ev_st2, ev_rm, ev_pk, ev_Jof, ev_go, lv_args, List.map_cons, List.map_nil, List.zip_cons_cons, List.zip_nil_left, List.zip_nil_right, List.nil_append, List.cons_append, ↓reduceIte, reduceCtorEq, Int.reduceToNat, Nat.reduceEqDiff, Nat.reduceAdd, Nat.reduceLT, Nat.reduceLeDiff, Nat.reduceMul, Nat.reduceSub, Value.category, false_implies, true_and, and_true, Bool.false_eq_true, Option.some.injEq, exists_eq_left', Option.toList_some, Option.toList_none, ev_km, ev_k2, ev_k3, ev_k4, ev_k5, ev_l0, ev_l1, sh_1, sh_2, sh_3, sh_4, sh_5, at_X1_addNumber_10, at_X1_addNumber_21, at_X1_addNumber_50, at_X1_addNumber_54, at_X1_addNumber_55, at_X1_addNumber_69, at_X1_addNumber_79, ca_X1_33, ca_X1_45, cd_X1_addNumber_0, cd_X1_addNumber_10, cd_X1_addNumber_21, cd_X1_addNumber_50, cd_X1_addNumber_54, cd_X1_addNumber_55, cd_X1_addNumber_69, cd_X1_addNumber_79, ko_X1_49, ev_b_10, ev_b_45, ev_b_48, no_0, no_1, no_lt, no_le, no_eq, no_lt0, no_ge0, no_gt0, no_le0, no_eq0, no_0eq, no_eqm, no_meq, no_m0, no_mlt, no_mge, no_mgt, no_mm, no_i01, no_i10, no_in, no_or, no_ifm, no_mul, nI_add, no_sub, pk_div, iI_if, nI_clamp, oI_n, oI_s, not_true_eq_false, not_false_eq_true, forall_const, true_implies, false_and, and_false, or_false, false_or, Classical.not_not, true_or, or_true, no_b, no_eq1, eq_self, and_self, no_on, o1, dvs_10])
        | (with_reducible refine ev_gid ?_; simp (disch := first | omega | assumption) only [ev_run_c, ev_run_n, ev_fj, ev_stp, ev_lk, ev_fv, ev_as, ev_sz, ev_st1, ev_st2, ev_rm, ev_pk, ev_Jof, ev_go, lv_args, List.map_cons, List.map_nil, List.zip_cons_cons, List.zip_nil_left, List.zip_nil_right, List.nil_append, List.cons_append, ↓reduceIte, reduceCtorEq, Int.reduceToNat, Nat.reduceEqDiff, Nat.reduceAdd, Nat.reduceLT, Nat.reduceLeDiff, Nat.reduceMul, Nat.reduceSub, Value.category, false_implies, true_and, and_true, Bool.false_eq_true, Option.some.injEq, exists_eq_left', Option.toList_some, Option.toList_none, ev_km, ev_k2, ev_k3, ev_k4, ev_k5, ev_l0, ev_l1, sh_1, sh_2, sh_3, sh_4, sh_5, at_X1_addNumber_10, at_X1_addNumber_21, at_X1_addNumber_50, at_X1_addNumber_54, at_X1_addNumber_55, at_X1_addNumber_69, at_X1_addNumber_79, ca_X1_33, ca_X1_45, cd_X1_addNumber_0, cd_X1_addNumber_10, cd_X1_addNumber_21, cd_X1_addNumber_50, cd_X1_addNumber_54, cd_X1_addNumber_55, cd_X1_addNumber_69, cd_X1_addNumber_79, ko_X1_49, ev_b_10, ev_b_45, ev_b_48, no_0, no_1, no_lt, no_le, no_eq, no_lt0, no_ge0, no_gt0, no_le0, no_eq0, no_0eq, no_eqm, no_meq, no_m0, no_mlt, no_mge, no_mgt, no_mm, no_i01, no_i10, no_in, no_or, no_ifm, no_mul, nI_add, no_sub, pk_div, iI_if, nI_clamp, oI_n, oI_s, not_true_eq_false, not_false_eq_true, forall_const, true_implies, false_and, and_false, or_false, false_or, Classical.not_not, true_or, or_true, no_b, no_eq1, eq_self, and_self, no_on, o1, dvs_10])
        | (with_reducible refine And.intro (fun q => ?_) (fun q => ?_) <;> (try simp (disch := first | omega | assumption) only [no_0, no_1, no_lt, no_le, no_eq, no_lt0, no_ge0, no_gt0, no_le0, no_eq0, no_0eq, no_eqm, no_meq, no_m0, no_mlt, no_mge, no_mgt, no_mm, no_i01, no_i10, no_in, no_or, no_ifm, no_mul, nI_add, no_sub, pk_div, iI_if, nI_clamp, oI_n, oI_s, not_true_eq_false, not_false_eq_true, forall_const, true_implies, false_and, and_false, or_false, false_or, Classical.not_not, true_or, or_true, no_b, no_eq1, eq_self, and_self, no_on, o1, dvs_10] at q))
        | with_reducible refine ev_ci (m_X1_add hok ha ?_) ?_
        | omega
        | with_reducible assumption
        | with_reducible rfl
        | (refine Nat.lt_of_lt_of_le ?_ (Nat.le_refl 312); omega)
        | with_reducible refine lp_nx ?_ ?_ ?_ ?_
        | with_reducible refine lp_st ?_ ?_ ?_
        | with_reducible refine ls_c ?_ ?_
        | with_reducible refine vi_c ?_
        | with_reducible refine re_c ?_
        | with_reducible refine vz_c ?_
        | with_reducible refine rz_c ?_
        | exact trivial
        | with_reducible refine And.intro ?_ ?_
        | simp (disch := first | omega | assumption) only [ev_run_c, ev_run_n, ev_fj, ev_stp, ev_lk, ev_fv, ev_as, ev_sz, ev_st1, ev_st2, ev_rm, ev_pk, ev_Jof, ev_go, lv_args, List.map_cons, List.map_nil, List.zip_cons_cons, List.zip_nil_left, List.zip_nil_right, List.nil_append, List.cons_append, ↓reduceIte, reduceCtorEq, Int.reduceToNat, Nat.reduceEqDiff, Nat.reduceAdd, Nat.reduceLT, Nat.reduceLeDiff, Nat.reduceMul, Nat.reduceSub, Value.category, false_implies, true_and, and_true, Bool.false_eq_true, Option.some.injEq, exists_eq_left', Option.toList_some, Option.toList_none, ev_km, ev_k2, ev_k3, ev_k4, ev_k5, ev_l0, ev_l1, sh_1, sh_2, sh_3, sh_4, sh_5, at_X1_addNumber_10, at_X1_addNumber_21, at_X1_addNumber_50, at_X1_addNumber_54, at_X1_addNumber_55, at_X1_addNumber_69, at_X1_addNumber_79, ca_X1_33, ca_X1_45, cd_X1_addNumber_0, cd_X1_addNumber_10, cd_X1_addNumber_21, cd_X1_addNumber_50, cd_X1_addNumber_54, cd_X1_addNumber_55, cd_X1_addNumber_69, cd_X1_addNumber_79, ko_X1_49, ev_b_10, ev_b_45, ev_b_48, no_0, no_1, no_lt, no_le, no_eq, no_lt0, no_ge0, no_gt0, no_le0, no_eq0, no_0eq, no_eqm, no_meq, no_m0, no_mlt, no_mge, no_mgt, no_mm, no_i01, no_i10, no_in, no_or, no_ifm, no_mul, nI_add, no_sub, pk_div, iI_if, nI_clamp, oI_n, oI_s, not_true_eq_false, not_false_eq_true, forall_const, true_implies, false_and, and_false, or_false, false_or, Classical.not_not, true_or, or_true, no_b, no_eq1, eq_self, and_self, no_on, o1, dvs_10]
        | exact rfl
        | (split <;> omega))
  · rw [at_X1_addNumber_0]
    by_cases c : z < 0
    · have e : iI (-z) = nI z.natAbs := by rw [← iI_n]; exact congrArg iI (by omega)
      have ea : l ++ [45] ++ dL z.natAbs 0 = l ++ [45] := List.append_nil _
      rw [if_pos c]
      repeat' (first
        | (with_reducible refine ev_rid ?_; simp (disch := first | omega | assumption) only [ev_run_c, ev_run_n, ev_fj, ev_stp, ev_lk, ev_fv, ev_as, ev_sz, ev_st1, ev_st2, ev_rm, ev_pk, ev_Jof, ev_go, lv_args, List.map_cons, List.map_nil, List.zip_cons_cons, List.zip_nil_left, List.zip_nil_right, List.nil_append, List.cons_append, ↓reduceIte, reduceCtorEq, Int.reduceToNat, Nat.reduceEqDiff, Nat.reduceAdd, Nat.reduceLT, Nat.reduceLeDiff, Nat.reduceMul, Nat.reduceSub, Value.category, false_implies, true_and, and_true, Bool.false_eq_true, Option.some.injEq, exists_eq_left', Option.toList_some, Option.toList_none, ev_km, ev_k2, ev_k3, ev_k4, ev_k5, ev_l0, ev_l1, sh_1, sh_2, sh_3, sh_4, sh_5, at_X1_addNumber_10, at_X1_addNumber_21, at_X1_addNumber_50, at_X1_addNumber_54, at_X1_addNumber_55, at_X1_addNumber_69, at_X1_addNumber_79, ca_X1_33, ca_X1_45, cd_X1_addNumber_0, cd_X1_addNumber_10, cd_X1_addNumber_21, cd_X1_addNumber_50, cd_X1_addNumber_54, cd_X1_addNumber_55, cd_X1_addNumber_69, cd_X1_addNumber_79, ko_X1_49, ev_b_10, ev_b_45, ev_b_48, no_0, no_1, no_lt, no_le, no_eq, no_lt0, no_ge0, no_gt0, no_le0, no_eq0, no_0eq, no_eqm, no_meq, no_m0, no_mlt, no_mge, no_mgt, no_mm, no_i01, no_i10, no_in, no_or, no_ifm, no_mul, nI_add, no_sub, pk_div, iI_if, nI_clamp, oI_n, oI_s, not_true_eq_false, not_false_eq_true, forall_const, true_implies, false_and, and_false, or_false, false_or, Classical.not_not, true_or, or_true, no_b, no_eq1, eq_self, and_self, no_on, o1, iI_ge0, iI_0s, e, ea])
        | (with_reducible refine ev_gid ?_; simp (disch := first | omega | assumption) only [ev_run_c, ev_run_n, ev_fj, ev_stp, ev_lk, ev_fv, ev_as, ev_sz, ev_st1, ev_st2, ev_rm, ev_pk, ev_Jof, ev_go, lv_args, List.map_cons, List.map_nil, List.zip_cons_cons, List.zip_nil_left, List.zip_nil_right, List.nil_append, List.cons_append, ↓reduceIte, reduceCtorEq, Int.reduceToNat, Nat.reduceEqDiff, Nat.reduceAdd, Nat.reduceLT, Nat.reduceLeDiff, Nat.reduceMul, Nat.reduceSub, Value.category, false_implies, true_and, and_true, Bool.false_eq_true, Option.some.injEq, exists_eq_left', Option.toList_some, Option.toList_none, ev_km, ev_k2, ev_k3, ev_k4, ev_k5, ev_l0, ev_l1, sh_1, sh_2, sh_3, sh_4, sh_5, at_X1_addNumber_10, at_X1_addNumber_21, at_X1_addNumber_50, at_X1_addNumber_54, at_X1_addNumber_55, at_X1_addNumber_69, at_X1_addNumber_79, ca_X1_33, ca_X1_45, cd_X1_addNumber_0, cd_X1_addNumber_10, cd_X1_addNumber_21, cd_X1_addNumber_50, cd_X1_addNumber_54, cd_X1_addNumber_55, cd_X1_addNumber_69, cd_X1_addNumber_79, ko_X1_49, ev_b_10, ev_b_45, ev_b_48, no_0, no_1, no_lt, no_le, no_eq, no_lt0, no_ge0, no_gt0, no_le0, no_eq0, no_0eq, no_eqm, no_meq, no_m0, no_mlt, no_mge, no_mgt, no_mm, no_i01, no_i10, no_in, no_or, no_ifm, no_mul, nI_add, no_sub, pk_div, iI_if, nI_clamp, oI_n, oI_s, not_true_eq_false, not_false_eq_true, forall_const, true_implies, false_and, and_false, or_false, false_or, Classical.not_not, true_or, or_true, no_b, no_eq1, eq_self, and_self, no_on, o1, iI_ge0, iI_0s, e, ea])
        | (with_reducible refine And.intro (fun q => ?_) (fun q => ?_) <;> (try simp (disch := first | omega | assumption) only [no_0, no_1, no_lt, no_le, no_eq, no_lt0, no_ge0, no_gt0, no_le0, no_eq0, no_0eq, no_eqm, no_meq, no_m0, no_mlt, no_mge, no_mgt, no_mm, no_i01, no_i10, no_in, no_or, no_ifm, no_mul, nI_add, no_sub, pk_div, iI_if, nI_clamp, oI_n, oI_s, not_true_eq_false, not_false_eq_true, forall_const, true_implies, false_and, and_false, or_false, false_or, Classical.not_not, true_or, or_true, no_b, no_eq1, eq_self, and_self, no_on, o1, iI_ge0, iI_0s, e, ea] at q))
        | with_reducible refine ev_ci (m_X1_add hok ha ?_) ?_
        | omega
        | with_reducible assumption
        | with_reducible rfl
        | (refine Nat.lt_of_lt_of_le ?_ (Nat.le_refl 312); omega)
        | (rw [if_neg (show ¬ 0 ≤ z by omega)])
        | with_reducible refine lp_nx ?_ ?_ ?_ ?_
        | with_reducible refine lp_st ?_ ?_ ?_
        | with_reducible refine ls_c ?_ ?_
        | with_reducible refine vi_c ?_
        | with_reducible refine re_c ?_
        | with_reducible refine vz_c ?_
        | with_reducible refine rz_c ?_
        | exact trivial
        | with_reducible refine And.intro ?_ ?_
        | simp (disch := first | omega | assumption) only [ev_run_c, ev_run_n, ev_fj, ev_stp, ev_lk, ev_fv, ev_as, ev_sz, ev_st1, ev_st2, ev_rm, ev_pk, ev_Jof, ev_go, lv_args, List.map_cons, List.map_nil, List.zip_cons_cons, List.zip_nil_left, List.zip_nil_right, List.nil_append, List.cons_append, ↓reduceIte, reduceCtorEq, Int.reduceToNat, Nat.reduceEqDiff, Nat.reduceAdd, Nat.reduceLT, Nat.reduceLeDiff, Nat.reduceMul, Nat.reduceSub, Value.category, false_implies, true_and, and_true, Bool.false_eq_true, Option.some.injEq, exists_eq_left', Option.toList_some, Option.toList_none, ev_km, ev_k2, ev_k3, ev_k4, ev_k5, ev_l0, ev_l1, sh_1, sh_2, sh_3, sh_4, sh_5, at_X1_addNumber_10, at_X1_addNumber_21, at_X1_addNumber_50, at_X1_addNumber_54, at_X1_addNumber_55, at_X1_addNumber_69, at_X1_addNumber_79, ca_X1_33, ca_X1_45, cd_X1_addNumber_0, cd_X1_addNumber_10, cd_X1_addNumber_21, cd_X1_addNumber_50, cd_X1_addNumber_54, cd_X1_addNumber_55, cd_X1_addNumber_69, cd_X1_addNumber_79, ko_X1_49, ev_b_10, ev_b_45, ev_b_48, no_0, no_1, no_lt, no_le, no_eq, no_lt0, no_ge0, no_gt0, no_le0, no_eq0, no_0eq, no_eqm, no_meq, no_m0, no_mlt, no_mge, no_mgt, no_mm, no_i01, no_i10, no_in, no_or, no_ifm, no_mul, nI_add, no_sub, pk_div, iI_if, nI_clamp, oI_n, oI_s, not_true_eq_false, not_false_eq_true, forall_const, true_implies, false_and, and_false, or_false, false_or, Classical.not_not, true_or, or_true, no_b, no_eq1, eq_self, and_self, no_on, o1, iI_ge0, iI_0s, e, ea]
        | exact rfl
        | (split <;> omega))
    · have e : iI z = nI z.natAbs := by rw [← iI_n]; exact congrArg iI (by omega)
      have ea : l ++ [] ++ dL z.natAbs 0 = l := by rw [List.append_nil]; exact List.append_nil _
      rw [if_neg c]
      repeat' (first
        | (with_reducible refine ev_rid ?_; simp (disch := first | omega | assumption) only [ev_run_c, ev_run_n, ev_fj, ev_stp, ev_lk, ev_fv, ev_as, ev_sz, ev_st1, ev_st2, ev_rm, ev_pk, ev_Jof, ev_go, lv_args, List.map_cons, List.map_nil, List.zip_cons_cons, List.zip_nil_left, List.zip_nil_right, List.nil_append, List.cons_append, ↓reduceIte, reduceCtorEq, Int.reduceToNat, Nat.reduceEqDiff, Nat.reduceAdd, Nat.reduceLT, Nat.reduceLeDiff, Nat.reduceMul, Nat.reduceSub, Value.category, false_implies, true_and, and_true, Bool.false_eq_true, Option.some.injEq, exists_eq_left', Option.toList_some, Option.toList_none, ev_km, ev_k2, ev_k3, ev_k4, ev_k5, ev_l0, ev_l1, sh_1, sh_2, sh_3, sh_4, sh_5, at_X1_addNumber_10, at_X1_addNumber_21, at_X1_addNumber_50, at_X1_addNumber_54, at_X1_addNumber_55, at_X1_addNumber_69, at_X1_addNumber_79, ca_X1_33, ca_X1_45, cd_X1_addNumber_0, cd_X1_addNumber_10, cd_X1_addNumber_21, cd_X1_addNumber_50, cd_X1_addNumber_54, cd_X1_addNumber_55, cd_X1_addNumber_69, cd_X1_addNumber_79, ko_X1_49, ev_b_10, ev_b_45, ev_b_48, no_0, no_1, no_lt, no_le, no_eq, no_lt0, no_ge0, no_gt0, no_le0, no_eq0, no_0eq, no_eqm, no_meq, no_m0, no_mlt, no_mge, no_mgt, no_mm, no_i01, no_i10, no_in, no_or, no_ifm, no_mul, nI_add, no_sub, pk_div, iI_if, nI_clamp, oI_n, oI_s, not_true_eq_false, not_false_eq_true, forall_const, true_implies, false_and, and_false, or_false, false_or, Classical.not_not, true_or, or_true, no_b, no_eq1, eq_self, and_self, no_on, o1, iI_ge0, iI_0s, e, ea])
        | (with_reducible refine ev_gid ?_; simp (disch := first | omega | assumption) only [ev_run_c, ev_run_n, ev_fj, ev_stp, ev_lk, ev_fv, ev_as, ev_sz, ev_st1, ev_st2, ev_rm, ev_pk, ev_Jof, ev_go, lv_args, List.map_cons, List.map_nil, List.zip_cons_cons, List.zip_nil_left, List.zip_nil_right, List.nil_append, List.cons_append, ↓reduceIte, reduceCtorEq, Int.reduceToNat, Nat.reduceEqDiff, Nat.reduceAdd, Nat.reduceLT, Nat.reduceLeDiff, Nat.reduceMul, Nat.reduceSub, Value.category, false_implies, true_and, and_true, Bool.false_eq_true, Option.some.injEq, exists_eq_left', Option.toList_some, Option.toList_none, ev_km, ev_k2, ev_k3, ev_k4, ev_k5, ev_l0, ev_l1, sh_1, sh_2, sh_3, sh_4, sh_5, at_X1_addNumber_10, at_X1_addNumber_21, at_X1_addNumber_50, at_X1_addNumber_54, at_X1_addNumber_55, at_X1_addNumber_69, at_X1_addNumber_79, ca_X1_33, ca_X1_45, cd_X1_addNumber_0, cd_X1_addNumber_10, cd_X1_addNumber_21, cd_X1_addNumber_50, cd_X1_addNumber_54, cd_X1_addNumber_55, cd_X1_addNumber_69, cd_X1_addNumber_79, ko_X1_49, ev_b_10, ev_b_45, ev_b_48, no_0, no_1, no_lt, no_le, no_eq, no_lt0, no_ge0, no_gt0, no_le0, no_eq0, no_0eq, no_eqm, no_meq, no_m0, no_mlt, no_mge, no_mgt, no_mm, no_i01, no_i10, no_in, no_or, no_ifm, no_mul, nI_add, no_sub, pk_div, iI_if, nI_clamp, oI_n, oI_s, not_true_eq_false, not_false_eq_true, forall_const, true_implies, false_and, and_false, or_false, false_or, Classical.not_not, true_or, or_true, no_b, no_eq1, eq_self, and_self, no_on, o1, iI_ge0, iI_0s, e, ea])
        | (with_reducible refine And.intro (fun q => ?_) (fun q => ?_) <;> (try simp (disch := first | omega | assumption) only [no_0, no_1, no_lt, no_le, no_eq, no_lt0, no_ge0, no_gt0, no_le0, no_eq0, no_0eq, no_eqm, no_meq, no_m0, no_mlt, no_mge, no_mgt, no_mm, no_i01, no_i10, no_in, no_or, no_ifm, no_mul, nI_add, no_sub, pk_div, iI_if, nI_clamp, oI_n, oI_s, not_true_eq_false, not_false_eq_true, forall_const, true_implies, false_and, and_false, or_false, false_or, Classical.not_not, true_or, or_true, no_b, no_eq1, eq_self, and_self, no_on, o1, iI_ge0, iI_0s, e, ea] at q))
        | with_reducible refine ev_ci (m_X1_add hok ha ?_) ?_
        | omega
        | with_reducible assumption
        | with_reducible rfl
        | (refine Nat.lt_of_lt_of_le ?_ (Nat.le_refl 312); omega)
        | with_reducible refine lp_nx ?_ ?_ ?_ ?_
        | with_reducible refine lp_st ?_ ?_ ?_
        | with_reducible refine ls_c ?_ ?_
        | with_reducible refine vi_c ?_
        | with_reducible refine re_c ?_
        | with_reducible refine vz_c ?_
        | with_reducible refine rz_c ?_
        | exact trivial
        | with_reducible refine And.intro ?_ ?_
        | simp (disch := first | omega | assumption) only [ev_run_c, ev_run_n, ev_fj, ev_stp, ev_lk, ev_fv, ev_as, ev_sz, ev_st1, ev_st2, ev_rm, ev_pk, ev_Jof, ev_go, lv_args, List.map_cons, List.map_nil, List.zip_cons_cons, List.zip_nil_left, List.zip_nil_right, List.nil_append, List.cons_append, ↓reduceIte, reduceCtorEq, Int.reduceToNat, Nat.reduceEqDiff, Nat.reduceAdd, Nat.reduceLT, Nat.reduceLeDiff, Nat.reduceMul, Nat.reduceSub, Value.category, false_implies, true_and, and_true, Bool.false_eq_true, Option.some.injEq, exists_eq_left', Option.toList_some, Option.toList_none, ev_km, ev_k2, ev_k3, ev_k4, ev_k5, ev_l0, ev_l1, sh_1, sh_2, sh_3, sh_4, sh_5, at_X1_addNumber_10, at_X1_addNumber_21, at_X1_addNumber_50, at_X1_addNumber_54, at_X1_addNumber_55, at_X1_addNumber_69, at_X1_addNumber_79, ca_X1_33, ca_X1_45, cd_X1_addNumber_0, cd_X1_addNumber_10, cd_X1_addNumber_21, cd_X1_addNumber_50, cd_X1_addNumber_54, cd_X1_addNumber_55, cd_X1_addNumber_69, cd_X1_addNumber_79, ko_X1_49, ev_b_10, ev_b_45, ev_b_48, no_0, no_1, no_lt, no_le, no_eq, no_lt0, no_ge0, no_gt0, no_le0, no_eq0, no_0eq, no_eqm, no_meq, no_m0, no_mlt, no_mge, no_mgt, no_mm, no_i01, no_i10, no_in, no_or, no_ifm, no_mul, nI_add, no_sub, pk_div, iI_if, nI_clamp, oI_n, oI_s, not_true_eq_false, not_false_eq_true, forall_const, true_implies, false_and, and_false, or_false, false_or, Classical.not_not, true_or, or_true, no_b, no_eq1, eq_self, and_self, no_on, o1, iI_ge0, iI_0s, e, ea]
        | exact rfl
        | (split <;> omega))
theorem m_X1_addWord (hok : ev_ok sh_S G) {a L : Nat} (ha : OW a L) {l : List Nat} {f : Nat → Nat} {n : Nat} (hn : n ≤ 8) (hf : ∀ k, k < n → 0 < f k ∧ f k < 256) (hl : l.length + n < L) : ev_T sh_S G mi_X1_addWord [.ref a, .long (w64 (wN f n))] (owr a l μ) (.inl (none, owr a (l ++ lsf f n) μ)) := by
  obtain ⟨o1, o2, o3, o4, o5, o6⟩ := id ha
  refine ev_tri1 hok okM_X1_addWord (Nat.le_of_ble_eq_true rfl) 8 [0, 1, 3, 4] n 400 (fun k => [.ref a, .long (w64 (wN f n)), .int (nI n), .int (nI k)]) (fun k => owr a (l ++ lsf f k) μ) (fun _ => True) ?_ ?_
  · intro k hk _
    rw [at_X1_addWord_8]
    rcases Nat.lt_or_ge k n with hkn | hkn
    · have hlo := m_X10_letterOf (μ := owr a (l ++ lsf f k) μ) hok hn (fun j hj => (hf j hj).2) hkn
      have had := m_X1_add (μ := μ) (v := f k) hok ha (l := l ++ lsf f k) (by rw [List.length_append, lsf_len]; omega)
      have e : l ++ lsf f k ++ [f k] = l ++ lsf f (k + 1) := List.append_assoc _ _ _
      rw [e] at had
      repeat' (first
        | (with_reducible refine ev_rid ?_; simp (disch := first | omega | assumption) only [ev_run_c, ev_run_n, ev_fj, ev_stp, ev_lk, ev_fv, ev_as, ev_sz, ev_st1, ev_st2, ev_rm, ev_pk, ev_Jof, ev_go, lv_args, List.map_cons, List.map_nil, List.zip_cons_cons, List.zip_nil_left, List.zip_nil_right, List.nil_append, List.cons_append, ↓reduceIte, reduceCtorEq, Int.reduceToNat, Nat.reduceEqDiff, Nat.reduceAdd, Nat.reduceLT, Nat.reduceLeDiff, Nat.reduceMul, Nat.reduceSub, Value.category, false_implies, true_and, and_true, Bool.false_eq_true, Option.some.injEq, exists_eq_left', Option.toList_some, Option.toList_none, ev_km, ev_k2, ev_k3, ev_k4, ev_k5, ev_l0, ev_l1, sh_1, sh_2, sh_3, sh_4, sh_5, at_X1_addWord_31, at_X1_addWord_8, ca_X1_33, ca_X1_37, ca_X1_41, cd_X1_addWord_0, cd_X1_addWord_31, cd_X1_addWord_8, no_0, no_1, no_lt, no_le, no_eq, no_lt0, no_ge0, no_gt0, no_le0, no_eq0, no_0eq, no_eqm, no_meq, no_m0, no_mlt, no_mge, no_mgt, no_mm, no_i01, no_i10, no_in, no_or, no_ifm, no_mul, nI_add, no_sub, pk_div, iI_if, nI_clamp, oI_n, oI_s, not_true_eq_false, not_false_eq_true, forall_const, true_implies, false_and, and_false, or_false, false_or, Classical.not_not, true_or, or_true, no_b, no_eq1, eq_self, and_self, no_on, o1])
        | (with_reducible refine ev_gid ?_; simp (disch := first | omega | assumption) only [ev_run_c, ev_run_n, ev_fj, ev_stp, ev_lk, ev_fv, ev_as, ev_sz, ev_st1, ev_st2, ev_rm, ev_pk, ev_Jof, ev_go, lv_args, List.map_cons, List.map_nil, List.zip_cons_cons, List.zip_nil_left, List.zip_nil_right, List.nil_append, List.cons_append, ↓reduceIte, reduceCtorEq, Int.reduceToNat, Nat.reduceEqDiff, Nat.reduceAdd, Nat.reduceLT, Nat.reduceLeDiff, Nat.reduceMul, Nat.reduceSub, Value.category, false_implies, true_and, and_true, Bool.false_eq_true, Option.some.injEq, exists_eq_left', Option.toList_some, Option.toList_none, ev_km, ev_k2, ev_k3, ev_k4, ev_k5, ev_l0, ev_l1, sh_1, sh_2, sh_3, sh_4, sh_5, at_X1_addWord_31, at_X1_addWord_8, ca_X1_33, ca_X1_37, ca_X1_41, cd_X1_addWord_0, cd_X1_addWord_31, cd_X1_addWord_8, no_0, no_1, no_lt, no_le, no_eq, no_lt0, no_ge0, no_gt0, no_le0, no_eq0, no_0eq, no_eqm, no_meq, no_m0, no_mlt, no_mge, no_mgt, no_mm, no_i01, no_i10, no_in, no_or, no_ifm, no_mul, nI_add, no_sub, pk_div, iI_if, nI_clamp, oI_n, oI_s, not_true_eq_false, not_false_eq_true, forall_const, true_implies, false_and, and_false, or_false, false_or, Classical.not_not, true_or, or_true, no_b, no_eq1, eq_self, and_self, no_on, o1])
        | (with_reducible refine And.intro (fun q => ?_) (fun q => ?_) <;> (try simp (disch := first | omega | assumption) only [no_0, no_1, no_lt, no_le, no_eq, no_lt0, no_ge0, no_gt0, no_le0, no_eq0, no_0eq, no_eqm, no_meq, no_m0, no_mlt, no_mge, no_mgt, no_mm, no_i01, no_i10, no_in, no_or, no_ifm, no_mul, nI_add, no_sub, pk_div, iI_if, nI_clamp, oI_n, oI_s, not_true_eq_false, not_false_eq_true, forall_const, true_implies, false_and, and_false, or_false, false_or, Classical.not_not, true_or, or_true, no_b, no_eq1, eq_self, and_self, no_on, o1] at q))
        | (with_reducible refine ev_ci hlo ?_)
        | (with_reducible refine ev_ci had ?_)
        | with_reducible refine ev_ci (m_X1_add hok ha ?_) ?_
        | omega
        | with_reducible assumption
        | with_reducible rfl
        | (refine Nat.lt_of_lt_of_le ?_ (Nat.le_refl 312); omega)
        | with_reducible refine lp_nx ?_ ?_ ?_ ?_
        | with_reducible refine lp_st ?_ ?_ ?_
        | with_reducible refine ls_c ?_ ?_
        | with_reducible refine vi_c ?_
        | with_reducible refine re_c ?_
        | with_reducible refine vz_c ?_
        | with_reducible refine rz_c ?_
        | exact trivial
        | with_reducible refine And.intro ?_ ?_
        | simp (disch := first | omega | assumption) only [ev_run_c, ev_run_n, ev_fj, ev_stp, ev_lk, ev_fv, ev_as, ev_sz, ev_st1, ev_st2, ev_rm, ev_pk, ev_Jof, ev_go, lv_args, List.map_cons, List.map_nil, List.zip_cons_cons, List.zip_nil_left, List.zip_nil_right, List.nil_append, List.cons_append, ↓reduceIte, reduceCtorEq, Int.reduceToNat, Nat.reduceEqDiff, Nat.reduceAdd, Nat.reduceLT, Nat.reduceLeDiff, Nat.reduceMul, Nat.reduceSub, Value.category, false_implies, true_and, and_true, Bool.false_eq_true, Option.some.injEq, exists_eq_left', Option.toList_some, Option.toList_none, ev_km, ev_k2, ev_k3, ev_k4, ev_k5, ev_l0, ev_l1, sh_1, sh_2, sh_3, sh_4, sh_5, at_X1_addWord_31, at_X1_addWord_8, ca_X1_33, ca_X1_37, ca_X1_41, cd_X1_addWord_0, cd_X1_addWord_31, cd_X1_addWord_8, no_0, no_1, no_lt, no_le, no_eq, no_lt0, no_ge0, no_gt0, no_le0, no_eq0, no_0eq, no_eqm, no_meq, no_m0, no_mlt, no_mge, no_mgt, no_mm, no_i01, no_i10, no_in, no_or, no_ifm, no_mul, nI_add, no_sub, pk_div, iI_if, nI_clamp, oI_n, oI_s, not_true_eq_false, not_false_eq_true, forall_const, true_implies, false_and, and_false, or_false, false_or, Classical.not_not, true_or, or_true, no_b, no_eq1, eq_self, and_self, no_on, o1]
        | exact rfl
        | (split <;> omega))
    · have hkn : k = n := by omega
      subst hkn
      repeat' (first
        | (with_reducible refine ev_rid ?_; simp (disch := first | omega | assumption) only [ev_run_c, ev_run_n, ev_fj, ev_stp, ev_lk, ev_fv, ev_as, ev_sz, ev_st1, ev_st2, ev_rm, ev_pk, ev_Jof, ev_go, lv_args, List.map_cons, List.map_nil, List.zip_cons_cons, List.zip_nil_left, List.zip_nil_right, List.nil_append, List.cons_append, ↓reduceIte, reduceCtorEq, Int.reduceToNat, Nat.reduceEqDiff, Nat.reduceAdd, Nat.reduceLT, Nat.reduceLeDiff, Nat.reduceMul, Nat.reduceSub, Value.category, false_implies, true_and, and_true, Bool.false_eq_true, Option.some.injEq, exists_eq_left', Option.toList_some, Option.toList_none, ev_km, ev_k2, ev_k3, ev_k4, ev_k5, ev_l0, ev_l1, sh_1, sh_2, sh_3, sh_4, sh_5, at_X1_addWord_31, at_X1_addWord_8, ca_X1_33, ca_X1_37, ca_X1_41, cd_X1_addWord_0, cd_X1_addWord_31, cd_X1_addWord_8, no_0, no_1, no_lt, no_le, no_eq, no_lt0, no_ge0, no_gt0, no_le0, no_eq0, no_0eq, no_eqm, no_meq, no_m0, no_mlt, no_mge, no_mgt, no_mm, no_i01, no_i10, no_in, no_or, no_ifm, no_mul, nI_add, no_sub, pk_div, iI_if, nI_clamp, oI_n, oI_s, not_true_eq_false, not_false_eq_true, forall_const, true_implies, false_and, and_false, or_false, false_or, Classical.not_not, true_or, or_true, no_b, no_eq1, eq_self, and_self, no_on, o1])
        | (with_reducible refine ev_gid ?_; simp (disch := first | omega | assumption) only [ev_run_c, ev_run_n, ev_fj, ev_stp, ev_lk, ev_fv, ev_as, ev_sz, ev_st1, ev_st2, ev_rm, ev_pk, ev_Jof, ev_go, lv_args, List.map_cons, List.map_nil, List.zip_cons_cons, List.zip_nil_left, List.zip_nil_right, List.nil_append, List.cons_append, ↓reduceIte, reduceCtorEq, Int.reduceToNat, Nat.reduceEqDiff, Nat.reduceAdd, Nat.reduceLT, Nat.reduceLeDiff, Nat.reduceMul, Nat.reduceSub, Value.category, false_implies, true_and, and_true, Bool.false_eq_true, Option.some.injEq, exists_eq_left', Option.toList_some, Option.toList_none, ev_km, ev_k2, ev_k3, ev_k4, ev_k5, ev_l0, ev_l1, sh_1, sh_2, sh_3, sh_4, sh_5, at_X1_addWord_31, at_X1_addWord_8, ca_X1_33, ca_X1_37, ca_X1_41, cd_X1_addWord_0, cd_X1_addWord_31, cd_X1_addWord_8, no_0, no_1, no_lt, no_le, no_eq, no_lt0, no_ge0, no_gt0, no_le0, no_eq0, no_0eq, no_eqm, no_meq, no_m0, no_mlt, no_mge, no_mgt, no_mm, no_i01, no_i10, no_in, no_or, no_ifm, no_mul, nI_add, no_sub, pk_div, iI_if, nI_clamp, oI_n, oI_s, not_true_eq_false, not_false_eq_true, forall_const, true_implies, false_and, and_false, or_false, false_or, Classical.not_not, true_or, or_true, no_b, no_eq1, eq_self, and_self, no_on, o1])
        | (with_reducible refine And.intro (fun q => ?_) (fun q => ?_) <;> (try simp (disch := first | omega | assumption) only [no_0, no_1, no_lt, no_le, no_eq, no_lt0, no_ge0, no_gt0, no_le0, no_eq0, no_0eq, no_eqm, no_meq, no_m0, no_mlt, no_mge, no_mgt, no_mm, no_i01, no_i10, no_in, no_or, no_ifm, no_mul, nI_add, no_sub, pk_div, iI_if, nI_clamp, oI_n, oI_s, not_true_eq_false, not_false_eq_true, forall_const, true_implies, false_and, and_false, or_false, false_or, Classical.not_not, true_or, or_true, no_b, no_eq1, eq_self, and_self, no_on, o1] at q))
        | with_reducible refine ev_ci (m_X1_add hok ha ?_) ?_
        | omega
        | with_reducible assumption
        | with_reducible rfl
        | (refine Nat.lt_of_lt_of_le ?_ (Nat.le_refl 312); omega)
        | with_reducible refine lp_nx ?_ ?_ ?_ ?_
        | with_reducible refine lp_st ?_ ?_ ?_
        | with_reducible refine ls_c ?_ ?_
        | with_reducible refine vi_c ?_
        | with_reducible refine re_c ?_
        | with_reducible refine vz_c ?_
        | with_reducible refine rz_c ?_
        | exact trivial
        | with_reducible refine And.intro ?_ ?_
        | simp (disch := first | omega | assumption) only [ev_run_c, ev_run_n, ev_fj, ev_stp, ev_lk, ev_fv, ev_as, ev_sz, ev_st1, ev_st2, ev_rm, ev_pk, ev_Jof, ev_go, lv_args, List.map_cons, List.map_nil, List.zip_cons_cons, List.zip_nil_left, List.zip_nil_right, List.nil_append, List.cons_append, ↓reduceIte, reduceCtorEq, Int.reduceToNat, Nat.reduceEqDiff, Nat.reduceAdd, Nat.reduceLT, Nat.reduceLeDiff, Nat.reduceMul, Nat.reduceSub, Value.category, false_implies, true_and, and_true, Bool.false_eq_true, Option.some.injEq, exists_eq_left', Option.toList_some, Option.toList_none, ev_km, ev_k2, ev_k3, ev_k4, ev_k5, ev_l0, ev_l1, sh_1, sh_2, sh_3, sh_4, sh_5, at_X1_addWord_31, at_X1_addWord_8, ca_X1_33, ca_X1_37, ca_X1_41, cd_X1_addWord_0, cd_X1_addWord_31, cd_X1_addWord_8, no_0, no_1, no_lt, no_le, no_eq, no_lt0, no_ge0, no_gt0, no_le0, no_eq0, no_0eq, no_eqm, no_meq, no_m0, no_mlt, no_mge, no_mgt, no_mm, no_i01, no_i10, no_in, no_or, no_ifm, no_mul, nI_add, no_sub, pk_div, iI_if, nI_clamp, oI_n, oI_s, not_true_eq_false, not_false_eq_true, forall_const, true_implies, false_and, and_false, or_false, false_or, Classical.not_not, true_or, or_true, no_b, no_eq1, eq_self, and_self, no_on, o1]
        | exact rfl
        | (split <;> omega))
  · rw [at_X1_addWord_0]
    have hlc := m_X10_letterCount (μ := owr a l μ) hok hn hf
    have e : l ++ lsf f 0 = l := List.append_nil _
    repeat' (first
      | (with_reducible refine ev_rid ?_; simp (disch := first | omega | assumption) only [ev_run_c, ev_run_n, ev_fj, ev_stp, ev_lk, ev_fv, ev_as, ev_sz, ev_st1, ev_st2, ev_rm, ev_pk, ev_Jof, ev_go, lv_args, List.map_cons, List.map_nil, List.zip_cons_cons, List.zip_nil_left, List.zip_nil_right, List.nil_append, List.cons_append, ↓reduceIte, reduceCtorEq, Int.reduceToNat, Nat.reduceEqDiff, Nat.reduceAdd, Nat.reduceLT, Nat.reduceLeDiff, Nat.reduceMul, Nat.reduceSub, Value.category, false_implies, true_and, and_true, Bool.false_eq_true, Option.some.injEq, exists_eq_left', Option.toList_some, Option.toList_none, ev_km, ev_k2, ev_k3, ev_k4, ev_k5, ev_l0, ev_l1, sh_1, sh_2, sh_3, sh_4, sh_5, at_X1_addWord_31, at_X1_addWord_8, ca_X1_33, ca_X1_37, ca_X1_41, cd_X1_addWord_0, cd_X1_addWord_31, cd_X1_addWord_8, no_0, no_1, no_lt, no_le, no_eq, no_lt0, no_ge0, no_gt0, no_le0, no_eq0, no_0eq, no_eqm, no_meq, no_m0, no_mlt, no_mge, no_mgt, no_mm, no_i01, no_i10, no_in, no_or, no_ifm, no_mul, nI_add, no_sub, pk_div, iI_if, nI_clamp, oI_n, oI_s, not_true_eq_false, not_false_eq_true, forall_const, true_implies, false_and, and_false, or_false, false_or, Classical.not_not, true_or, or_true, no_b, no_eq1, eq_self, and_self, no_on, o1, e])
      | (with_reducible refine ev_gid ?_; simp (disch := first | omega | assumption) only [ev_run_c, ev_run_n, ev_fj, ev_stp, ev_lk, ev_fv, ev_as, ev_sz, ev_st1, ev_st2, ev_rm, ev_pk, ev_Jof, ev_go, lv_args, List.map_cons, List.map_nil, List.zip_cons_cons, List.zip_nil_left, List.zip_nil_right, List.nil_append, List.cons_append, ↓reduceIte, reduceCtorEq, Int.reduceToNat, Nat.reduceEqDiff, Nat.reduceAdd, Nat.reduceLT, Nat.reduceLeDiff, Nat.reduceMul, Nat.reduceSub, Value.category, false_implies, true_and, and_true, Bool.false_eq_true, Option.some.injEq, exists_eq_left', Option.toList_some, Option.toList_none, ev_km, ev_k2, ev_k3, ev_k4, ev_k5, ev_l0, ev_l1, sh_1, sh_2, sh_3, sh_4, sh_5, at_X1_addWord_31, at_X1_addWord_8, ca_X1_33, ca_X1_37, ca_X1_41, cd_X1_addWord_0, cd_X1_addWord_31, cd_X1_addWord_8, no_0, no_1, no_lt, no_le, no_eq, no_lt0, no_ge0, no_gt0, no_le0, no_eq0, no_0eq, no_eqm, no_meq, no_m0, no_mlt, no_mge, no_mgt, no_mm, no_i01, no_i10, no_in, no_or, no_ifm, no_mul, nI_add, no_sub, pk_div, iI_if, nI_clamp, oI_n, oI_s, not_true_eq_false, not_false_eq_true, forall_const, true_implies, false_and, and_false, or_false, false_or, Classical.not_not, true_or, or_true, no_b, no_eq1, eq_self, and_self, no_on, o1, e])
      | (with_reducible refine And.intro (fun q => ?_) (fun q => ?_) <;> (try simp (disch := first | omega | assumption) only [no_0, no_1, no_lt, no_le, no_eq, no_lt0, no_ge0, no_gt0, no_le0, no_eq0, no_0eq, no_eqm, no_meq, no_m0, no_mlt, no_mge, no_mgt, no_mm, no_i01, no_i10, no_in, no_or, no_ifm, no_mul, nI_add, no_sub, pk_div, iI_if, nI_clamp, oI_n, oI_s, not_true_eq_false, not_false_eq_true, forall_const, true_implies, false_and, and_false, or_false, false_or, Classical.not_not, true_or, or_true, no_b, no_eq1, eq_self, and_self, no_on, o1, e] at q))
      | (with_reducible refine ev_ci hlc ?_)
      | with_reducible refine ev_ci (m_X1_add hok ha ?_) ?_
      | omega
      | with_reducible assumption
      | with_reducible rfl
      | (refine Nat.lt_of_lt_of_le ?_ (Nat.le_refl 312); omega)
      | with_reducible refine lp_nx ?_ ?_ ?_ ?_
      | with_reducible refine lp_st ?_ ?_ ?_
      | with_reducible refine ls_c ?_ ?_
      | with_reducible refine vi_c ?_
      | with_reducible refine re_c ?_
      | with_reducible refine vz_c ?_
      | with_reducible refine rz_c ?_
      | exact trivial
      | with_reducible refine And.intro ?_ ?_
      | simp (disch := first | omega | assumption) only [ev_run_c, ev_run_n, ev_fj, ev_stp, ev_lk, ev_fv, ev_as, ev_sz, ev_st1, ev_st2, ev_rm, ev_pk, ev_Jof, ev_go, lv_args, List.map_cons, List.map_nil, List.zip_cons_cons, List.zip_nil_left, List.zip_nil_right, List.nil_append, List.cons_append, ↓reduceIte, reduceCtorEq, Int.reduceToNat, Nat.reduceEqDiff, Nat.reduceAdd, Nat.reduceLT, Nat.reduceLeDiff, Nat.reduceMul, Nat.reduceSub, Value.category, false_implies, true_and, and_true, Bool.false_eq_true, Option.some.injEq, exists_eq_left', Option.toList_some, Option.toList_none, ev_km, ev_k2, ev_k3, ev_k4, ev_k5, ev_l0, ev_l1, sh_1, sh_2, sh_3, sh_4, sh_5, at_X1_addWord_31, at_X1_addWord_8, ca_X1_33, ca_X1_37, ca_X1_41, cd_X1_addWord_0, cd_X1_addWord_31, cd_X1_addWord_8, no_0, no_1, no_lt, no_le, no_eq, no_lt0, no_ge0, no_gt0, no_le0, no_eq0, no_0eq, no_eqm, no_meq, no_m0, no_mlt, no_mge, no_mgt, no_mm, no_i01, no_i10, no_in, no_or, no_ifm, no_mul, nI_add, no_sub, pk_div, iI_if, nI_clamp, oI_n, oI_s, not_true_eq_false, not_false_eq_true, forall_const, true_implies, false_and, and_false, or_false, false_or, Classical.not_not, true_or, or_true, no_b, no_eq1, eq_self, and_self, no_on, o1, e]
      | exact rfl
      | (split <;> omega))
theorem hq_1 : sh_pt 0 1 = 3 := by decide +kernel
theorem m_writeTaster (hok : ev_ok sh_S G) (hp : p ∈ sh_B) (hpp : sh_pt 0 3 = p) (h4 : 4 < p) (hP : PR p N μ) (hI : INV N) {i q : Nat} (hi : i < N 0) (hq : q < 10) {l : List Nat} (hl : l.length + 30 < 64) : ev_T sh_S G mi_X10_writeTaster [.ref 0, .int (nI i), .int (nI q)] (owr 3 l μ) (.inl (none, owr 3 (l ++ ttx N i q) μ)) := by
  obtain ⟨o1, o2, o3, o4, o5, o6⟩ := OW_3
  have hlt := xp_lt hp
  have hh := iv_h hI
  have hnm := iv_nm hI i 0 hi
  have h6 := (iv_p hI i (by omega)).2
  have h9 := (iv_pq hI i q (by omega) hq).2.1
  have hS := pr_sh (PR_owr (l := l) hP h4)
  have k1 := m_X4_name hok hp (PR_owr (l := l) hP h4) (j := i) (by omega)
  rw [nmL_w (fun k hk => by have := (iv_nm hI i k hi).2 hk; omega)] at k1
  have k2 := m_X1_addWord (μ := μ) (l := l) (f := fun k => N (8 + 59 * i + (7 + k))) (n := N (8 + 59 * i + 6)) hok OW_3 (by omega) (fun k hk => by have := (iv_nm hI i k hi).2 hk; (try dsimp only); omega) (by omega)
  have en : lsf (fun k => N (8 + 59 * i + (7 + k))) (N (8 + 59 * i + 6)) = nmt N i := rfl
  rw [en] at k2
  have hn := nmt_le hI (i := i) (by omega)
  have k3 := m_X1_add (μ := μ) (v := 61) hok OW_3 (l := l ++ nmt N i) (by rw [List.length_append]; omega)
  have k4 := m_X6_given (i := i) (q := q) hok hp (PR_owr (l := l ++ nmt N i ++ [61]) hP h4) (by omega) hq
  have hlen : (l ++ nmt N i ++ [61]).length + 11 < 64 := by rw [List.length_append, List.length_append, List.length_singleton]; omega
  have e : l ++ ttx N i q = l ++ nmt N i ++ [61] ++ (if N (8 + 59 * i + (23 + q)) = 0 then [63] else [48 + N (8 + 59 * i + (23 + q))]) := by unfold ttx; simp only [List.append_assoc]
  rw [e]
  by_cases c : N (8 + 59 * i + (23 + q)) = 0
  · rw [if_pos c]
    have k5 := m_X1_add (μ := μ) (v := 63) hok OW_3 (l := l ++ nmt N i ++ [61]) (by omega)
    refine ev_tri hok okM_X10_writeTaster (Nat.le_of_ble_eq_true rfl) 400 ?_
    rw [at_X10_writeTaster_0]
    repeat' (first
      | (with_reducible refine ev_rid ?_; simp (disch := first | omega | assumption) only [ev_run_c, ev_run_n, ev_fj, ev_stp, ev_lk, ev_fv, ev_as, ev_sz, ev_st1, ev_st2, ev_rm, ev_pk, ev_Jof, ev_go, lv_args, List.map_cons, List.map_nil, List.zip_cons_cons, List.zip_nil_left, List.zip_nil_right, List.nil_append, List.cons_append, ↓reduceIte, reduceCtorEq, Int.reduceToNat, Nat.reduceEqDiff, Nat.reduceAdd, Nat.reduceLT, Nat.reduceLeDiff, Nat.reduceMul, Nat.reduceSub, Value.category, false_implies, true_and, and_true, Bool.false_eq_true, Option.some.injEq, exists_eq_left', Option.toList_some, Option.toList_none, ev_km, ev_k2, ev_k3, ev_k4, ev_k5, ev_l0, ev_l1, sh_1, sh_2, sh_3, sh_4, sh_5, at_X10_writeTaster_53, at_X10_writeTaster_61, ca_X10_131, ca_X10_209, ca_X10_293, ca_X10_299, ca_X10_360, cd_X10_writeTaster_0, cd_X10_writeTaster_53, cd_X10_writeTaster_61, fl_X10_18, fl_X10_205, fl_X10_31, ev_b_61, ev_b_63, no_0, no_1, no_lt, no_le, no_eq, no_lt0, no_ge0, no_gt0, no_le0, no_eq0, no_0eq, no_eqm, no_meq, no_m0, no_mlt, no_mge, no_mgt, no_mm, no_i01, no_i10, no_in, no_or, no_ifm, no_mul, nI_add, no_sub, pk_div, iI_if, nI_clamp, oI_n, oI_s, not_true_eq_false, not_false_eq_true, forall_const, true_implies, false_and, and_false, or_false, false_or, Classical.not_not, true_or, or_true, no_b, no_eq1, eq_self, and_self, xk_0 hp, xk_1 hp, xk_2 hp, xk_3 hp, xk_4 hp, xk_5 hp, xk_6 hp, xk_7 hp, xk_8 hp, xk_9 hp, xk_10 hp, xk_11 hp, xk_12 hp, xk_13 hp, xk_14 hp, xk_15 hp, xk_16 hp, xk_17 hp, xk_18 hp, xk_19 hp, xk_20 hp, xk_21 hp, xl_1 hp, xl_2 hp, xl_3 hp, xl_4 hp, xl_6 hp, xl_8 hp, xl_10 hp, xl_12 hp, xl_14 hp, xl_15 hp, xl_17 hp, xl_18 hp, xl_21 hp, xp_7 hp, xp_8 hp, xp_9 hp, xp_10 hp, xp_11 hp, xp_12 hp, xp_13 hp, xp_14 hp, xp_15 hp, xp_16 hp, xp_17 hp, xp_t5 hp, xp_t7 hp, xp_t9 hp, xp_t11 hp, xp_t20 hp, xp_s19 hp, xp_a13 hp, xp_b13 hp, xp_a16 hp, xp_b16 hp, xc_r5 hp, xc_c5 hp, xc_r7 hp, xc_c7 hp, xc_r9 hp, xc_c9 hp, xc_r11 hp, xc_c11 hp, xc_r20 hp, xc_c20 hp, no_on, sk_0, hpp, hq_1, o1, c])
      | (with_reducible refine ev_gid ?_; simp (disch := first | omega | assumption) only [ev_run_c, ev_run_n, ev_fj, ev_stp, ev_lk, ev_fv, ev_as, ev_sz, ev_st1, ev_st2, ev_rm, ev_pk, ev_Jof, ev_go, lv_args, List.map_cons, List.map_nil, List.zip_cons_cons, List.zip_nil_left, List.zip_nil_right, List.nil_append, List.cons_append, ↓reduceIte, reduceCtorEq, Int.reduceToNat, Nat.reduceEqDiff, Nat.reduceAdd, Nat.reduceLT, Nat.reduceLeDiff, Nat.reduceMul, Nat.reduceSub, Value.category, false_implies, true_and, and_true, Bool.false_eq_true, Option.some.injEq, exists_eq_left', Option.toList_some, Option.toList_none, ev_km, ev_k2, ev_k3, ev_k4, ev_k5, ev_l0, ev_l1, sh_1, sh_2, sh_3, sh_4, sh_5, at_X10_writeTaster_53, at_X10_writeTaster_61, ca_X10_131, ca_X10_209, ca_X10_293, ca_X10_299, ca_X10_360, cd_X10_writeTaster_0, cd_X10_writeTaster_53, cd_X10_writeTaster_61, fl_X10_18, fl_X10_205, fl_X10_31, ev_b_61, ev_b_63, no_0, no_1, no_lt, no_le, no_eq, no_lt0, no_ge0, no_gt0, no_le0, no_eq0, no_0eq, no_eqm, no_meq, no_m0, no_mlt, no_mge, no_mgt, no_mm, no_i01, no_i10, no_in, no_or, no_ifm, no_mul, nI_add, no_sub, pk_div, iI_if, nI_clamp, oI_n, oI_s, not_true_eq_false, not_false_eq_true, forall_const, true_implies, false_and, and_false, or_false, false_or, Classical.not_not, true_or, or_true, no_b, no_eq1, eq_self, and_self, xk_0 hp, xk_1 hp, xk_2 hp, xk_3 hp, xk_4 hp, xk_5 hp, xk_6 hp, xk_7 hp, xk_8 hp, xk_9 hp, xk_10 hp, xk_11 hp, xk_12 hp, xk_13 hp, xk_14 hp, xk_15 hp, xk_16 hp, xk_17 hp, xk_18 hp, xk_19 hp, xk_20 hp, xk_21 hp, xl_1 hp, xl_2 hp, xl_3 hp, xl_4 hp, xl_6 hp, xl_8 hp, xl_10 hp, xl_12 hp, xl_14 hp, xl_15 hp, xl_17 hp, xl_18 hp, xl_21 hp, xp_7 hp, xp_8 hp, xp_9 hp, xp_10 hp, xp_11 hp, xp_12 hp, xp_13 hp, xp_14 hp, xp_15 hp, xp_16 hp, xp_17 hp, xp_t5 hp, xp_t7 hp, xp_t9 hp, xp_t11 hp, xp_t20 hp, xp_s19 hp, xp_a13 hp, xp_b13 hp, xp_a16 hp, xp_b16 hp, xc_r5 hp, xc_c5 hp, xc_r7 hp, xc_c7 hp, xc_r9 hp, xc_c9 hp, xc_r11 hp, xc_c11 hp, xc_r20 hp, xc_c20 hp, no_on, sk_0, hpp, hq_1, o1, c])
      | (with_reducible refine And.intro (fun q => ?_) (fun q => ?_) <;> (try simp (disch := first | omega | assumption) only [no_0, no_1, no_lt, no_le, no_eq, no_lt0, no_ge0, no_gt0, no_le0, no_eq0, no_0eq, no_eqm, no_meq, no_m0, no_mlt, no_mge, no_mgt, no_mm, no_i01, no_i10, no_in, no_or, no_ifm, no_mul, nI_add, no_sub, pk_div, iI_if, nI_clamp, oI_n, oI_s, not_true_eq_false, not_false_eq_true, forall_const, true_implies, false_and, and_false, or_false, false_or, Classical.not_not, true_or, or_true, no_b, no_eq1, eq_self, and_self, xk_0 hp, xk_1 hp, xk_2 hp, xk_3 hp, xk_4 hp, xk_5 hp, xk_6 hp, xk_7 hp, xk_8 hp, xk_9 hp, xk_10 hp, xk_11 hp, xk_12 hp, xk_13 hp, xk_14 hp, xk_15 hp, xk_16 hp, xk_17 hp, xk_18 hp, xk_19 hp, xk_20 hp, xk_21 hp, xl_1 hp, xl_2 hp, xl_3 hp, xl_4 hp, xl_6 hp, xl_8 hp, xl_10 hp, xl_12 hp, xl_14 hp, xl_15 hp, xl_17 hp, xl_18 hp, xl_21 hp, xp_7 hp, xp_8 hp, xp_9 hp, xp_10 hp, xp_11 hp, xp_12 hp, xp_13 hp, xp_14 hp, xp_15 hp, xp_16 hp, xp_17 hp, xp_t5 hp, xp_t7 hp, xp_t9 hp, xp_t11 hp, xp_t20 hp, xp_s19 hp, xp_a13 hp, xp_b13 hp, xp_a16 hp, xp_b16 hp, xc_r5 hp, xc_c5 hp, xc_r7 hp, xc_c7 hp, xc_r9 hp, xc_c9 hp, xc_r11 hp, xc_c11 hp, xc_r20 hp, xc_c20 hp, no_on, sk_0, hpp, hq_1, o1, c] at q))
      | (with_reducible refine ev_ci k1 ?_)
      | (with_reducible refine ev_ci k2 ?_)
      | (with_reducible refine ev_ci k3 ?_)
      | (with_reducible refine ev_ci k4 ?_)
      | (with_reducible refine ev_ci k5 ?_)
      | with_reducible refine ev_ci (m_X1_add hok ha ?_) ?_
      | with_reducible refine ev_ci (m_X6_given hok hp (by with_reducible assumption) ?_ ?_) ?_
      | omega
      | with_reducible assumption
      | with_reducible rfl
      | (refine Nat.lt_of_lt_of_le ?_ (Nat.le_refl 312); omega)
      | with_reducible refine lp_nx ?_ ?_ ?_ ?_
      | with_reducible refine lp_st ?_ ?_ ?_
      | with_reducible refine ls_c ?_ ?_
      | with_reducible refine vi_c ?_
      | with_reducible refine re_c ?_
      | with_reducible refine vz_c ?_
      | with_reducible refine rz_c ?_
      | exact trivial
      | with_reducible refine And.intro ?_ ?_
      | simp (disch := first | omega | assumption) only [ev_run_c, ev_run_n, ev_fj, ev_stp, ev_lk, ev_fv, ev_as, ev_sz, ev_st1, ev_st2, ev_rm, ev_pk, ev_Jof, ev_go, lv_args, List.map_cons, List.map_nil, List.zip_cons_cons, List.zip_nil_left, List.zip_nil_right, List.nil_append, List.cons_append, ↓reduceIte, reduceCtorEq, Int.reduceToNat, Nat.reduceEqDiff, Nat.reduceAdd, Nat.reduceLT, Nat.reduceLeDiff, Nat.reduceMul, Nat.reduceSub, Value.category, false_implies, true_and, and_true, Bool.false_eq_true, Option.some.injEq, exists_eq_left', Option.toList_some, Option.toList_none, ev_km, ev_k2, ev_k3, ev_k4, ev_k5, ev_l0, ev_l1, sh_1, sh_2, sh_3, sh_4, sh_5, at_X10_writeTaster_53, at_X10_writeTaster_61, ca_X10_131, ca_X10_209, ca_X10_293, ca_X10_299, ca_X10_360, cd_X10_writeTaster_0, cd_X10_writeTaster_53, cd_X10_writeTaster_61, fl_X10_18, fl_X10_205, fl_X10_31, ev_b_61, ev_b_63, no_0, no_1, no_lt, no_le, no_eq, no_lt0, no_ge0, no_gt0, no_le0, no_eq0, no_0eq, no_eqm, no_meq, no_m0, no_mlt, no_mge, no_mgt, no_mm, no_i01, no_i10, no_in, no_or, no_ifm, no_mul, nI_add, no_sub, pk_div, iI_if, nI_clamp, oI_n, oI_s, not_true_eq_false, not_false_eq_true, forall_const, true_implies, false_and, and_false, or_false, false_or, Classical.not_not, true_or, or_true, no_b, no_eq1, eq_self, and_self, xk_0 hp, xk_1 hp, xk_2 hp, xk_3 hp, xk_4 hp, xk_5 hp, xk_6 hp, xk_7 hp, xk_8 hp, xk_9 hp, xk_10 hp, xk_11 hp, xk_12 hp, xk_13 hp, xk_14 hp, xk_15 hp, xk_16 hp, xk_17 hp, xk_18 hp, xk_19 hp, xk_20 hp, xk_21 hp, xl_1 hp, xl_2 hp, xl_3 hp, xl_4 hp, xl_6 hp, xl_8 hp, xl_10 hp, xl_12 hp, xl_14 hp, xl_15 hp, xl_17 hp, xl_18 hp, xl_21 hp, xp_7 hp, xp_8 hp, xp_9 hp, xp_10 hp, xp_11 hp, xp_12 hp, xp_13 hp, xp_14 hp, xp_15 hp, xp_16 hp, xp_17 hp, xp_t5 hp, xp_t7 hp, xp_t9 hp, xp_t11 hp, xp_t20 hp, xp_s19 hp, xp_a13 hp, xp_b13 hp, xp_a16 hp, xp_b16 hp, xc_r5 hp, xc_c5 hp, xc_r7 hp, xc_c7 hp, xc_r9 hp, xc_c9 hp, xc_r11 hp, xc_c11 hp, xc_r20 hp, xc_c20 hp, no_on, sk_0, hpp, hq_1, o1, c]
      | exact rfl
      | (split <;> omega))
  · rw [if_neg c]
    have k5 := m_addZ (μ := μ) (z := (N (8 + 59 * i + (23 + q)) : Nat)) hok OW_3 (l := l ++ nmt N i ++ [61]) hlen (by omega)
    rw [dgZ_1 (by omega), iI_n] at k5
    refine ev_tri hok okM_X10_writeTaster (Nat.le_of_ble_eq_true rfl) 400 ?_
    rw [at_X10_writeTaster_0]
    repeat' (first
      | (with_reducible refine ev_rid ?_; simp (disch := first | omega | assumption) only [ev_run_c, ev_run_n, ev_fj, ev_stp, ev_lk, ev_fv, ev_as, ev_sz, ev_st1, ev_st2, ev_rm, ev_pk, ev_Jof, ev_go, lv_args, List.map_cons, List.map_nil, List.zip_cons_cons, List.zip_nil_left, List.zip_nil_right, List.nil_append, List.cons_append, ↓reduceIte, reduceCtorEq, Int.reduceToNat, Nat.reduceEqDiff, Nat.reduceAdd, Nat.reduceLT, Nat.reduceLeDiff, Nat.reduceMul, Nat.reduceSub, Value.category, false_implies, true_and, and_true, Bool.false_eq_true, Option.some.injEq, exists_eq_left', Option.toList_some, Option.toList_none, ev_km, ev_k2, ev_k3, ev_k4, ev_k5, ev_l0, ev_l1, sh_1, sh_2, sh_3, sh_4, sh_5, at_X10_writeTaster_53, at_X10_writeTaster_61, ca_X10_131, ca_X10_209, ca_X10_293, ca_X10_299, ca_X10_360, cd_X10_writeTaster_0, cd_X10_writeTaster_53, cd_X10_writeTaster_61, fl_X10_18, fl_X10_205, fl_X10_31, ev_b_61, ev_b_63, no_0, no_1, no_lt, no_le, no_eq, no_lt0, no_ge0, no_gt0, no_le0, no_eq0, no_0eq, no_eqm, no_meq, no_m0, no_mlt, no_mge, no_mgt, no_mm, no_i01, no_i10, no_in, no_or, no_ifm, no_mul, nI_add, no_sub, pk_div, iI_if, nI_clamp, oI_n, oI_s, not_true_eq_false, not_false_eq_true, forall_const, true_implies, false_and, and_false, or_false, false_or, Classical.not_not, true_or, or_true, no_b, no_eq1, eq_self, and_self, xk_0 hp, xk_1 hp, xk_2 hp, xk_3 hp, xk_4 hp, xk_5 hp, xk_6 hp, xk_7 hp, xk_8 hp, xk_9 hp, xk_10 hp, xk_11 hp, xk_12 hp, xk_13 hp, xk_14 hp, xk_15 hp, xk_16 hp, xk_17 hp, xk_18 hp, xk_19 hp, xk_20 hp, xk_21 hp, xl_1 hp, xl_2 hp, xl_3 hp, xl_4 hp, xl_6 hp, xl_8 hp, xl_10 hp, xl_12 hp, xl_14 hp, xl_15 hp, xl_17 hp, xl_18 hp, xl_21 hp, xp_7 hp, xp_8 hp, xp_9 hp, xp_10 hp, xp_11 hp, xp_12 hp, xp_13 hp, xp_14 hp, xp_15 hp, xp_16 hp, xp_17 hp, xp_t5 hp, xp_t7 hp, xp_t9 hp, xp_t11 hp, xp_t20 hp, xp_s19 hp, xp_a13 hp, xp_b13 hp, xp_a16 hp, xp_b16 hp, xc_r5 hp, xc_c5 hp, xc_r7 hp, xc_c7 hp, xc_r9 hp, xc_c9 hp, xc_r11 hp, xc_c11 hp, xc_r20 hp, xc_c20 hp, no_on, sk_0, hpp, hq_1, o1, c])
      | (with_reducible refine ev_gid ?_; simp (disch := first | omega | assumption) only [ev_run_c, ev_run_n, ev_fj, ev_stp, ev_lk, ev_fv, ev_as, ev_sz, ev_st1, ev_st2, ev_rm, ev_pk, ev_Jof, ev_go, lv_args, List.map_cons, List.map_nil, List.zip_cons_cons, List.zip_nil_left, List.zip_nil_right, List.nil_append, List.cons_append, ↓reduceIte, reduceCtorEq, Int.reduceToNat, Nat.reduceEqDiff, Nat.reduceAdd, Nat.reduceLT, Nat.reduceLeDiff, Nat.reduceMul, Nat.reduceSub, Value.category, false_implies, true_and, and_true, Bool.false_eq_true, Option.some.injEq, exists_eq_left', Option.toList_some, Option.toList_none, ev_km, ev_k2, ev_k3, ev_k4, ev_k5, ev_l0, ev_l1, sh_1, sh_2, sh_3, sh_4, sh_5, at_X10_writeTaster_53, at_X10_writeTaster_61, ca_X10_131, ca_X10_209, ca_X10_293, ca_X10_299, ca_X10_360, cd_X10_writeTaster_0, cd_X10_writeTaster_53, cd_X10_writeTaster_61, fl_X10_18, fl_X10_205, fl_X10_31, ev_b_61, ev_b_63, no_0, no_1, no_lt, no_le, no_eq, no_lt0, no_ge0, no_gt0, no_le0, no_eq0, no_0eq, no_eqm, no_meq, no_m0, no_mlt, no_mge, no_mgt, no_mm, no_i01, no_i10, no_in, no_or, no_ifm, no_mul, nI_add, no_sub, pk_div, iI_if, nI_clamp, oI_n, oI_s, not_true_eq_false, not_false_eq_true, forall_const, true_implies, false_and, and_false, or_false, false_or, Classical.not_not, true_or, or_true, no_b, no_eq1, eq_self, and_self, xk_0 hp, xk_1 hp, xk_2 hp, xk_3 hp, xk_4 hp, xk_5 hp, xk_6 hp, xk_7 hp, xk_8 hp, xk_9 hp, xk_10 hp, xk_11 hp, xk_12 hp, xk_13 hp, xk_14 hp, xk_15 hp, xk_16 hp, xk_17 hp, xk_18 hp, xk_19 hp, xk_20 hp, xk_21 hp, xl_1 hp, xl_2 hp, xl_3 hp, xl_4 hp, xl_6 hp, xl_8 hp, xl_10 hp, xl_12 hp, xl_14 hp, xl_15 hp, xl_17 hp, xl_18 hp, xl_21 hp, xp_7 hp, xp_8 hp, xp_9 hp, xp_10 hp, xp_11 hp, xp_12 hp, xp_13 hp, xp_14 hp, xp_15 hp, xp_16 hp, xp_17 hp, xp_t5 hp, xp_t7 hp, xp_t9 hp, xp_t11 hp, xp_t20 hp, xp_s19 hp, xp_a13 hp, xp_b13 hp, xp_a16 hp, xp_b16 hp, xc_r5 hp, xc_c5 hp, xc_r7 hp, xc_c7 hp, xc_r9 hp, xc_c9 hp, xc_r11 hp, xc_c11 hp, xc_r20 hp, xc_c20 hp, no_on, sk_0, hpp, hq_1, o1, c])
      | (with_reducible refine And.intro (fun q => ?_) (fun q => ?_) <;> (try simp (disch := first | omega | assumption) only [no_0, no_1, no_lt, no_le, no_eq, no_lt0, no_ge0, no_gt0, no_le0, no_eq0, no_0eq, no_eqm, no_meq, no_m0, no_mlt, no_mge, no_mgt, no_mm, no_i01, no_i10, no_in, no_or, no_ifm, no_mul, nI_add, no_sub, pk_div, iI_if, nI_clamp, oI_n, oI_s, not_true_eq_false, not_false_eq_true, forall_const, true_implies, false_and, and_false, or_false, false_or, Classical.not_not, true_or, or_true, no_b, no_eq1, eq_self, and_self, xk_0 hp, xk_1 hp, xk_2 hp, xk_3 hp, xk_4 hp, xk_5 hp, xk_6 hp, xk_7 hp, xk_8 hp, xk_9 hp, xk_10 hp, xk_11 hp, xk_12 hp, xk_13 hp, xk_14 hp, xk_15 hp, xk_16 hp, xk_17 hp, xk_18 hp, xk_19 hp, xk_20 hp, xk_21 hp, xl_1 hp, xl_2 hp, xl_3 hp, xl_4 hp, xl_6 hp, xl_8 hp, xl_10 hp, xl_12 hp, xl_14 hp, xl_15 hp, xl_17 hp, xl_18 hp, xl_21 hp, xp_7 hp, xp_8 hp, xp_9 hp, xp_10 hp, xp_11 hp, xp_12 hp, xp_13 hp, xp_14 hp, xp_15 hp, xp_16 hp, xp_17 hp, xp_t5 hp, xp_t7 hp, xp_t9 hp, xp_t11 hp, xp_t20 hp, xp_s19 hp, xp_a13 hp, xp_b13 hp, xp_a16 hp, xp_b16 hp, xc_r5 hp, xc_c5 hp, xc_r7 hp, xc_c7 hp, xc_r9 hp, xc_c9 hp, xc_r11 hp, xc_c11 hp, xc_r20 hp, xc_c20 hp, no_on, sk_0, hpp, hq_1, o1, c] at q))
      | (with_reducible refine ev_ci k1 ?_)
      | (with_reducible refine ev_ci k2 ?_)
      | (with_reducible refine ev_ci k3 ?_)
      | (with_reducible refine ev_ci k4 ?_)
      | (with_reducible refine ev_ci k5 ?_)
      | with_reducible refine ev_ci (m_X1_add hok ha ?_) ?_
      | with_reducible refine ev_ci (m_X6_given hok hp (by with_reducible assumption) ?_ ?_) ?_
      | omega
      | with_reducible assumption
      | with_reducible rfl
      | (refine Nat.lt_of_lt_of_le ?_ (Nat.le_refl 312); omega)
      | with_reducible refine lp_nx ?_ ?_ ?_ ?_
      | with_reducible refine lp_st ?_ ?_ ?_
      | with_reducible refine ls_c ?_ ?_
      | with_reducible refine vi_c ?_
      | with_reducible refine re_c ?_
      | with_reducible refine vz_c ?_
      | with_reducible refine rz_c ?_
      | exact trivial
      | with_reducible refine And.intro ?_ ?_
      | simp (disch := first | omega | assumption) only [ev_run_c, ev_run_n, ev_fj, ev_stp, ev_lk, ev_fv, ev_as, ev_sz, ev_st1, ev_st2, ev_rm, ev_pk, ev_Jof, ev_go, lv_args, List.map_cons, List.map_nil, List.zip_cons_cons, List.zip_nil_left, List.zip_nil_right, List.nil_append, List.cons_append, ↓reduceIte, reduceCtorEq, Int.reduceToNat, Nat.reduceEqDiff, Nat.reduceAdd, Nat.reduceLT, Nat.reduceLeDiff, Nat.reduceMul, Nat.reduceSub, Value.category, false_implies, true_and, and_true, Bool.false_eq_true, Option.some.injEq, exists_eq_left', Option.toList_some, Option.toList_none, ev_km, ev_k2, ev_k3, ev_k4, ev_k5, ev_l0, ev_l1, sh_1, sh_2, sh_3, sh_4, sh_5, at_X10_writeTaster_53, at_X10_writeTaster_61, ca_X10_131, ca_X10_209, ca_X10_293, ca_X10_299, ca_X10_360, cd_X10_writeTaster_0, cd_X10_writeTaster_53, cd_X10_writeTaster_61, fl_X10_18, fl_X10_205, fl_X10_31, ev_b_61, ev_b_63, no_0, no_1, no_lt, no_le, no_eq, no_lt0, no_ge0, no_gt0, no_le0, no_eq0, no_0eq, no_eqm, no_meq, no_m0, no_mlt, no_mge, no_mgt, no_mm, no_i01, no_i10, no_in, no_or, no_ifm, no_mul, nI_add, no_sub, pk_div, iI_if, nI_clamp, oI_n, oI_s, not_true_eq_false, not_false_eq_true, forall_const, true_implies, false_and, and_false, or_false, false_or, Classical.not_not, true_or, or_true, no_b, no_eq1, eq_self, and_self, xk_0 hp, xk_1 hp, xk_2 hp, xk_3 hp, xk_4 hp, xk_5 hp, xk_6 hp, xk_7 hp, xk_8 hp, xk_9 hp, xk_10 hp, xk_11 hp, xk_12 hp, xk_13 hp, xk_14 hp, xk_15 hp, xk_16 hp, xk_17 hp, xk_18 hp, xk_19 hp, xk_20 hp, xk_21 hp, xl_1 hp, xl_2 hp, xl_3 hp, xl_4 hp, xl_6 hp, xl_8 hp, xl_10 hp, xl_12 hp, xl_14 hp, xl_15 hp, xl_17 hp, xl_18 hp, xl_21 hp, xp_7 hp, xp_8 hp, xp_9 hp, xp_10 hp, xp_11 hp, xp_12 hp, xp_13 hp, xp_14 hp, xp_15 hp, xp_16 hp, xp_17 hp, xp_t5 hp, xp_t7 hp, xp_t9 hp, xp_t11 hp, xp_t20 hp, xp_s19 hp, xp_a13 hp, xp_b13 hp, xp_a16 hp, xp_b16 hp, xc_r5 hp, xc_c5 hp, xc_r7 hp, xc_c7 hp, xc_r9 hp, xc_c9 hp, xc_r11 hp, xc_c11 hp, xc_r20 hp, xc_c20 hp, no_on, sk_0, hpp, hq_1, o1, c]
      | exact rfl
      | (split <;> omega))
end XPage
