/-! ===== the class's parser: a pancake, whole ===== -/
section XPanc2
variable {G : ev_G} {N : Nat → Nat} {B : Nat → Nat} {n m p : Nat} {μ μ' M : ev_M}
theorem rC_n {e : Nat × Int32} {a : Nat} (h : e.1 ≠ 0) : rC B n e a = e := if_neg (fun z => h z.1)
theorem rP_n {e : Nat × Int32} {a : Nat} (h : e.1 ≠ 0) : rP B n N e a = e := by
  unfold rP
  rw [rC_n h]
  exact er_n h
theorem rN_n {e : Nat × Int32} {a l g : Nat} (h : e.1 ≠ 0) : rN B n e a l g = e := if_neg (fun z => h z.1)
theorem lp_err (hok : ev_ok sh_S G) (hp6 : p = 6) (hT : TT B n m M) {N1 : Nat → Nat} (hP : PR p N1 M) (h0 : N1 0 ≤ 16) {q s : Nat} (hq : q < 10) (hs : s ≤ 3) (hsz : M.1 (p + 14) q = nI s) : ∀ (d c a : Nat) (e : Nat × Int32), c + d = 4 → e.1 ≠ 0 → e.1 < 5 → a + d < 1500 → ∃ a2, LPk G q c (pe e a M) (pe e a2 M) := by
  have hP6 : PR 6 N1 M := by rw [← hp6]; exact hP
  have hp : p ∈ sh_B := by rw [hp6]; exact sh_6
  have hlt := xp_lt hp
  intro d
  induction d with
  | zero =>
    intro c a e hc he h5 ha
    exact ⟨a, lp_x hok (by omega) (m_X9_kindA hok (nI a)) (Or.inl (by omega))⟩
  | succ d ih =>
    intro c a e hc he h5 ha
    by_cases hx : 0 < c ∧ sp_c ((pe e a M).1 29) 501 (nI a) ≠ nI 1
    · exact ⟨a, lp_x hok (by omega) (m_X9_kindA hok (nI a)) (Or.inr hx)⟩
    · obtain ⟨a2, h⟩ := ih (c + 1) (a + 1) e (by omega) he h5 (by omega)
      refine ⟨a2, ?_⟩
      have hk : c = 0 ∨ sp_c ((pe e a M).1 29) 501 (nI a) = nI 1 := by
        by_cases z : c = 0
        · exact Or.inl z
        · by_cases y : sp_c ((pe e a M).1 29) 501 (nI a) = nI 1
          · exact Or.inr y
          · exact absurd ⟨by omega, y⟩ hx
      have h1 := m_person (e := e) (a := a) hok hT hP6 h0 h5 (fun z => absurd z he) (by omega)
      rw [rP_n he] at h1
      obtain ⟨b, hb, h2⟩ := m_containsA (μ := pe e (a + 1) M) hok hp hq hs (by rw [pe_n (by omega)]; exact hsz) (rv e.1 (pv B n N1 a))
      rcases (show b = 0 ∨ b = 1 by omega) with rfl | rfl
      · by_cases c3 : c = 3
        · exact lp_f hok hp6 (by omega) (Or.inr ⟨rfl, c3, (er_n he).symm⟩) hT (fun z => absurd z he) h5 h5 he (m_X9_kindA hok (nI a)) hk h1 h2 h
        · exact lp_n hok hp6 (by omega) h5 he (m_X9_kindA hok (nI a)) hk h1 h2 h
      · exact lp_f hok hp6 (by omega) (Or.inl ⟨rfl, (er_n he).symm⟩) hT (fun z => absurd z he) h5 h5 he (m_X9_kindA hok (nI a)) hk h1 h2 h
/-- how reading one cook ends -/
def pkS (B : Nat → Nat) (n : Nat) (N : Nat → Nat) (A c : Nat) : Nat × Int32 := er (er (rP B n N (0, -1) (A + c)) (fx (fun k => pv B n N (A + k)) (pv B n N (A + c)) c < c) 3 (A + c) B n) (c = 3) 4 (A + c) B n
/-- how reading the cooks ends, and how many there are -/
def pkE (B : Nat → Nat) (n : Nat) (N : Nat → Nat) (A : Nat) : Nat → Nat → (Nat × Int32) × Nat
  | 0, c => ((0, -1), c)
  | d + 1, c => if 0 < c ∧ tkd B n (A + c) ≠ 1 then ((0, -1), c) else if (pkS B n N A c).1 = 0 then pkE B n N A d (c + 1) else (pkS B n N A c, c)
def pkT (c1 t : Nat) : Nat := if c1 = 0 then t else 4294967295
theorem pkT_rv (c1 t : Nat) : nI (pkT c1 t) = rv c1 t := by
  unfold pkT rv
  split
  · rfl
  · decide
def pkM (p q : Nat) (f : Nat → Nat) (M : ev_M) : Nat → ev_M
  | 0 => M
  | k + 1 => x_add (p + 13) q k (f k) (pkM p q f M k)
theorem pkM_ok (hI : INV N) {t : Nat} {f : Nat → Nat} (h1 : N 1 < 10) (hP : PR p (pkN N t 0 f) M) {k : Nat} (hk : k ≤ 3) : PR p (pkN N t k f) (pkM p (N 1) f M k) ∧ Fp p M (pkM p (N 1) f M k) := by
  induction k with
  | zero => exact ⟨hP, Fp_rf⟩
  | succ k ih =>
    obtain ⟨h2, h3⟩ := ih (by omega)
    exact ⟨PR_ck h2 hI h1 (by omega), Fp_w1 (Fp_w1 h3 (by omega) (by omega)) (by omega) (by omega)⟩
def PZ (N : Nat → Nat) (t A : Nat) (f : Nat → Nat) (M : ev_M) (r : (Nat × Int32) × Nat) (μ' : ev_M) : Prop := ∃ a2 T, μ' = pe r.1 a2 T ∧ Fp 6 M T ∧ r.1.1 < 5 ∧ (r.1.1 = 0 → PR 6 (pkN N t r.2 f) T ∧ a2 = A + r.2)
theorem lp_ok (hok : ev_ok sh_S G) (hp6 : p = 6) (hT : TT B n m M) (hI : INV N) (h10 : N 1 < 10) {t A : Nat} (hA2 : A < 1000) (hP : PR p (pkN N t 0 (fun k => pv B n N (A + k))) M) : ∀ d c, c + d = 4 → 0 < d → A + c ≤ m → ∃ μ', LPk G (N 1) c (pe (0, -1) (A + c) (pkM p (N 1) (fun k => pv B n N (A + k)) M c)) μ' ∧ PZ N t A (fun k => pv B n N (A + k)) M (pkE B n N A d c) μ' := by
  have hp : p ∈ sh_B := by rw [hp6]; exact sh_6
  have hlt := xp_lt hp
  have hh := iv_h hI
  have hm5 := hT.1
  generalize hf : (fun k => pv B n N (A + k)) = f at hP ⊢
  have hf1 : ∀ k, f k = pv B n N (A + k) := fun k => by rw [← hf]
  intro d
  induction d with
  | zero => intro c _ hd; exact absurd hd (by omega)
  | succ d ih =>
    intro c hc _ hA
    obtain ⟨hPc, hFc⟩ := pkM_ok hI h10 hP (show c ≤ 3 by omega)
    have hTc := TT_fp hT hp6 hFc
    have hP6 : PR 6 (pkN N t c f) (pkM p (N 1) f M c) := by rw [← hp6]; exact hPc
    have e0 : pkN N t c f 0 = N 0 := pkN_ne (by omega) (by omega)
    have hkd := m_kind (μ := pe (0, -1) (A + c) (pkM p (N 1) f M c)) hok (TT_pe hTc) hA
    have hk6 := tkd_le B n (A + c)
    have hsz : (pkM p (N 1) f M c).1 (p + 14) (N 1) = nI c := by
      have := pr_cn hPc (N 1) h10
      rw [pkN_k] at this
      exact this
    by_cases hx : 0 < c ∧ tkd B n (A + c) ≠ 1
    · refine ⟨_, lp_x hok (by omega) hkd (Or.inr ⟨hx.1, fun q => ?_⟩), A + c, pkM p (N 1) f M c, ?_, by rw [← hp6]; exact hFc, ?_, ?_⟩
      · rw [no_eq (by omega) (by omega)] at q; exact hx.2 q
      · unfold pkE; rw [if_pos hx]
      · unfold pkE; rw [if_pos hx]; show (0 : Nat) < 5; omega
      · unfold pkE; rw [if_pos hx]; exact fun _ => ⟨hP6, rfl⟩
    · have hk : c = 0 ∨ nI (tkd B n (A + c)) = nI 1 := by
        by_cases z : c = 0
        · exact Or.inl z
        · refine Or.inr ?_
          have : tkd B n (A + c) = 1 := by
            by_cases y : tkd B n (A + c) = 1
            · exact y
            · exact absurd ⟨by omega, y⟩ hx
          rw [this]
      have h1 := m_person (e := (0, -1)) (a := A + c) hok hTc hP6 (by omega) (by decide) (fun _ => hA) (by omega)
      rw [rP_pk hI, pv_pk hI] at h1
      have c1 : (rP B n N (0, -1) (A + c)).1 < 5 := rP_c (by decide)
      have n1 : (rP B n N (0, -1) (A + c)).1 = 0 → A + c + 1 ≤ m := rP_nx hTc (fun _ => hA)
      have v1 : (rP B n N (0, -1) (A + c)).1 = 0 → pv B n N (A + c) < N 0 := fun h => (rP_0 h).2.2.2.1
      have hz1 : (rP B n N (0, -1) (A + c)).1 = 0 → rP B n N (0, -1) (A + c) = (0, -1) := fun h => (rP_0 h).2.2.2.2
      have eE : pkE B n N A (d + 1) c = if (pkS B n N A c).1 = 0 then pkE B n N A d (c + 1) else (pkS B n N A c, c) := by
        show (if 0 < c ∧ tkd B n (A + c) ≠ 1 then _ else _) = _
        rw [if_neg hx]
      have eS : pkS B n N A c = er (er (rP B n N (0, -1) (A + c)) (fx f (pv B n N (A + c)) c < c) 3 (A + c) B n) (c = 3) 4 (A + c) B n := by unfold pkS; rw [hf]
      rw [eE, eS]
      generalize hv : pv B n N (A + c) = v at h1 v1 ⊢
      generalize rP B n N (0, -1) (A + c) = e1 at h1 c1 n1 v1 hz1 ⊢
      have errs : ∀ eF : Nat × Int32, eF.1 ≠ 0 → eF.1 < 5 → ∃ a2, LPk G (N 1) (c + 1) (pe eF (A + c + 1) (pkM p (N 1) f M c)) (pe eF a2 (pkM p (N 1) f M c)) := fun eF g1 g2 => lp_err hok hp6 hTc hPc (by omega) h10 (show c ≤ 3 by omega) hsz d (c + 1) (A + c + 1) eF (by omega) g1 g2 (by omega)
      have fin : ∀ (eF : Nat × Int32) (a2 : Nat), eF.1 ≠ 0 → eF.1 < 5 → PZ N t A f M (if eF.1 = 0 then pkE B n N A d (c + 1) else (eF, c)) (pe eF a2 (pkM p (N 1) f M c)) := fun eF a2 g1 g2 => by
        rw [if_neg g1]
        exact ⟨a2, _, rfl, by rw [← hp6]; exact hFc, g2, fun z => absurd z g1⟩
      by_cases z1 : e1.1 = 0
      · have hv0 := v1 z1
        have h2 := m_contains_c (i := v) hok hp (PR_p (e := e1) (a := A + c + 1) hp6 hPc) h10 (by omega) (by rw [pkN_k]; omega) (fun k hk => by rw [pkN_k] at hk; rw [pkN_f hk, hf1]; have := fnm_le N (w64 (tvl B n (A + k))) (N 0); show fnm N (w64 (tvl B n (A + k))) (N 0) < _; omega)
        rw [pkN_k] at h2
        have e3 : cP (pkN N t c f) (N 1) v c = fx f v c := by
          unfold cP
          exact fx_ext fun k hk => pkN_f hk
        rw [e3] at h2
        have hrv : rv e1.1 v = nI v := by rw [z1]; rfl
        rw [← hrv] at h2
        by_cases hd : fx f v c < c
        · rw [if_pos hd] at h2
          have e4 : er (er e1 (fx f v c < c) 3 (A + c) B n) (c = 3) 4 (A + c) B n = er e1 True 3 (A + c) B n := by
            rw [er_True hd]
            exact er_n (by rw [er_t z1 trivial]; show (3 : Nat) ≠ 0; omega)
          have g1 : (er e1 True 3 (A + c) B n).1 ≠ 0 := by rw [er_t z1 trivial]; show (3 : Nat) ≠ 0; omega
          have g2 : (er e1 True 3 (A + c) B n).1 < 5 := er_c c1 (by decide)
          rw [e4]
          obtain ⟨a2, h⟩ := errs _ g1 g2
          exact ⟨_, lp_f hok hp6 (by omega) (Or.inl ⟨rfl, rfl⟩) hTc (fun _ => hA) c1 g2 g1 hkd hk h1 h2 h, fin _ a2 g1 g2⟩
        · rw [if_neg hd] at h2
          by_cases c3 : c = 3
          · have e4 : er (er e1 (fx f v c < c) 3 (A + c) B n) (c = 3) 4 (A + c) B n = er e1 True 4 (A + c) B n := by
              rw [er_f hd, er_True c3]
            have g1 : (er e1 True 4 (A + c) B n).1 ≠ 0 := by rw [er_t z1 trivial]; show (4 : Nat) ≠ 0; omega
            have g2 : (er e1 True 4 (A + c) B n).1 < 5 := er_c c1 (by decide)
            rw [e4]
            obtain ⟨a2, h⟩ := errs _ g1 g2
            exact ⟨_, lp_f hok hp6 (by omega) (Or.inr ⟨rfl, c3, rfl⟩) hTc (fun _ => hA) c1 g2 g1 hkd hk h1 h2 h, fin _ a2 g1 g2⟩
          · have e4 : er (er e1 (fx f v c < c) 3 (A + c) B n) (c = 3) 4 (A + c) B n = e1 := by rw [er_f hd, er_f c3]
            rw [e4, if_pos z1]
            obtain ⟨μ', h, h9⟩ := ih (c + 1) (by omega) (by omega) (by have := n1 z1; omega)
            have e5 : pkM p (N 1) f M (c + 1) = x_add (p + 13) (N 1) c v (pkM p (N 1) f M c) := by
              show x_add (p + 13) (N 1) c (f c) (pkM p (N 1) f M c) = _
              rw [hf1, hv]
            refine ⟨μ', lp_y hok hp6 (by omega) h10 z1 hsz hkd hk h1 h2 ?_, h9⟩
            have e7 : e1 = (0, -1) := hz1 z1
            rw [e7, ← e5]
            exact h
      · have e4 : er (er e1 (fx f v c < c) 3 (A + c) B n) (c = 3) 4 (A + c) B n = e1 := by rw [er_n z1, er_n z1]
        rw [e4]
        obtain ⟨a2, h⟩ := errs e1 z1 c1
        obtain ⟨b, hb, h2⟩ := m_containsA (μ := pe e1 (A + c + 1) (pkM p (N 1) f M c)) hok hp h10 (show c ≤ 3 by omega) (by rw [pe_n (by omega)]; exact hsz) (rv e1.1 v)
        refine ⟨_, ?_, fin e1 a2 z1 c1⟩
        rcases (show b = 0 ∨ b = 1 by omega) with rfl | rfl
        · by_cases c3 : c = 3
          · exact lp_f hok hp6 (by omega) (Or.inr ⟨rfl, c3, (er_n z1).symm⟩) hTc (fun z => absurd z z1) c1 c1 z1 hkd hk h1 h2 h
          · exact lp_n hok hp6 (by omega) c1 z1 hkd hk h1 h2 h
        · exact lp_f hok hp6 (by omega) (Or.inl ⟨rfl, (er_n z1).symm⟩) hTc (fun z => absurd z z1) c1 c1 z1 hkd hk h1 h2 h
def q_pancake (B : Nat → Nat) (n : Nat) (N : Nat → Nat) (a : Nat) : Nat × Int32 := if (rN B n (0, -1) a 0 4).1 = 0 then (pkE B n N (a + 1) 4 0).1 else rN B n (0, -1) a 0 4
set_option maxHeartbeats 1000000 in
theorem rd_pancake (hok : ev_ok sh_S G) (hT : TT B n m μ) (hp6 : p = 6) (hP : PR p N μ) (hI : INV N) (h10 : N 1 < 10) {a : Nat} (ha : a ≤ m) : RD G mi_X7_readPancake a μ (q_pancake B n N a) (pkN N (tvl B n a) (pkE B n N (a + 1) 4 0).2 (fun k => pv B n N (a + 1 + k))) (a + 1 + (pkE B n N (a + 1) 4 0).2) := by
  have hK := And.intro pk_5.1 pk_5.2.2
  have hpp : sh_pt 5 0 = p := by rw [hp6]; exact pk_5.2.1
  have hp : p ∈ sh_B := by rw [hp6]; exact sh_6
  have hlt := xp_lt hp
  have hh := iv_h hI
  have hm5 := hT.1
  have hPz : PR p N (pe (0, -1) a μ) := PR_p hp6 hP
  have hH := pr_h hPz
  unfold q_pancake
  have h1 := m_number (μ := μ) (e := (0, -1)) (a := a) (l := 0) (g := 4) (y := nI 3) hok hT (by decide) (fun _ => ha) (by omega) (by omega) (by omega) (by decide)
  have c1 : (rN B n (0, -1) a 0 4).1 < 5 := rN_c (by decide)
  have g1 := fun (h : (rN B n (0, -1) a 0 4).1 = 0) => (rN_0 h).2.2
  have n1 : (rN B n (0, -1) a 0 4).1 = 0 → a + 1 ≤ m := rN_nx hT (fun _ => ha)
  generalize rN B n (0, -1) a 0 4 = e1 at h1 c1 g1 n1 ⊢
  have h2 := m_X4_addPancake hok hp (PR_p (e := e1) (a := a + 1) hp6 hP) h10 (rv e1.1 (tvl B n a))
  have e9 : x_ak p (N 1) (rv e1.1 (tvl B n a)) (pe e1 (a + 1) μ) = pe e1 (a + 1) (x_ak p (N 1) (rv e1.1 (tvl B n a)) μ) := by
    unfold x_ak
    rw [pe_w (by omega), pe_w (by omega)]
  rw [e9] at h2
  have hM : PR p (pkN N (pkT e1.1 (tvl B n a)) 0 (fun k => pv B n N (a + 1 + k))) (x_ak p (N 1) (rv e1.1 (tvl B n a)) μ) := by
    rw [← pkT_rv]
    exact PR_ak hP hI h10
  have hF : Fp p μ (x_ak p (N 1) (rv e1.1 (tvl B n a)) μ) := Fp_w1 (Fp_w1 Fp_rf (by omega) (by omega)) (by omega) (by omega)
  have hTM := TT_fp hT hp6 hF
  have start : ∀ μ', LPk G (N 1) 0 (pe e1 (a + 1) (x_ak p (N 1) (rv e1.1 (tvl B n a)) μ)) μ' → ev_T sh_S G mi_X7_readPancake [.ref 5] (pe (0, -1) a μ) (.inl (none, μ')) := by
    intro μ' hL
    refine LT_T hok okM_X7_readPancake (Nat.le_of_ble_eq_true rfl) (LT_run1 (n := 400) okM_X7_readPancake hL ?_)
    rw [at_X7_readPancake_0]
    repeat' (first
      | (with_reducible refine ev_rid ?_; simp (disch := first | omega | assumption) only [ev_run_c, ev_run_n, ev_fj, ev_stp, ev_lk, ev_fv, ev_as, ev_sz, ev_st1, ev_st2, ev_rm, ev_pk, ev_Jof, ev_go, lv_args, List.map_cons, List.map_nil, List.zip_cons_cons, List.zip_nil_left, List.zip_nil_right, List.nil_append, List.cons_append, ↓reduceIte, reduceCtorEq, Int.reduceToNat, Nat.reduceEqDiff, Nat.reduceAdd, Nat.reduceLT, Nat.reduceLeDiff, Nat.reduceMul, Nat.reduceSub, Value.category, false_implies, true_and, and_true, Bool.false_eq_true, Option.some.injEq, exists_eq_left', Option.toList_some, Option.toList_none, ev_km, ev_k2, ev_k3, ev_k4, ev_k5, ev_l0, ev_l1, sh_1, sh_2, sh_3, sh_4, sh_5, at_X7_readPancake_116, at_X7_readPancake_122, at_X7_readPancake_23, at_X7_readPancake_47, at_X7_readPancake_81, at_X7_readPancake_97, ca_X7_199, ca_X7_223, ca_X7_231, ca_X7_237, ca_X7_56, ca_X7_67, ca_X7_81, cd_X7_readPancake_0, cd_X7_readPancake_116, cd_X7_readPancake_122, cd_X7_readPancake_23, cd_X7_readPancake_47, cd_X7_readPancake_81, cd_X7_readPancake_97, fl_X7_12, fl_X7_182, fl_X7_227, fl_X7_25, fl_X7_43, fl_X7_49, no_0, no_1, no_lt, no_le, no_eq, no_lt0, no_ge0, no_gt0, no_le0, no_eq0, no_0eq, no_eqm, no_meq, no_m0, no_mlt, no_mge, no_mgt, no_mm, no_i01, no_i10, no_in, no_or, no_ifm, no_mul, nI_add, no_sub, pk_div, iI_if, nI_clamp, oI_n, oI_s, not_true_eq_false, not_false_eq_true, forall_const, true_implies, false_and, and_false, or_false, false_or, Classical.not_not, true_or, or_true, no_b, no_eq1, eq_self, and_self, xk_0 hp, xk_1 hp, xk_2 hp, xk_3 hp, xk_4 hp, xk_5 hp, xk_6 hp, xk_7 hp, xk_8 hp, xk_9 hp, xk_10 hp, xk_11 hp, xk_12 hp, xk_13 hp, xk_14 hp, xk_15 hp, xk_16 hp, xk_17 hp, xk_18 hp, xk_19 hp, xk_20 hp, xk_21 hp, xl_1 hp, xl_2 hp, xl_3 hp, xl_4 hp, xl_6 hp, xl_8 hp, xl_10 hp, xl_12 hp, xl_14 hp, xl_15 hp, xl_17 hp, xl_18 hp, xl_21 hp, xp_7 hp, xp_8 hp, xp_9 hp, xp_10 hp, xp_11 hp, xp_12 hp, xp_13 hp, xp_14 hp, xp_15 hp, xp_16 hp, xp_17 hp, xp_t5 hp, xp_t7 hp, xp_t9 hp, xp_t11 hp, xp_t20 hp, xp_s19 hp, xp_a13 hp, xp_b13 hp, xp_a16 hp, xp_b16 hp, xc_r5 hp, xc_c5 hp, xc_r7 hp, xc_c7 hp, xc_r9 hp, xc_c9 hp, xc_r11 hp, xc_c11 hp, xc_r20 hp, xc_c20 hp, no_on, hK, hpp, hH])
      | (with_reducible refine ev_gid ?_; simp (disch := first | omega | assumption) only [ev_run_c, ev_run_n, ev_fj, ev_stp, ev_lk, ev_fv, ev_as, ev_sz, ev_st1, ev_st2, ev_rm, ev_pk, ev_Jof, ev_go, lv_args, List.map_cons, List.map_nil, List.zip_cons_cons, List.zip_nil_left, List.zip_nil_right, List.nil_append, List.cons_append, ↓reduceIte, reduceCtorEq, Int.reduceToNat, Nat.reduceEqDiff, Nat.reduceAdd, Nat.reduceLT, Nat.reduceLeDiff, Nat.reduceMul, Nat.reduceSub, Value.category, false_implies, true_and, and_true, Bool.false_eq_true, Option.some.injEq, exists_eq_left', Option.toList_some, Option.toList_none, ev_km, ev_k2, ev_k3, ev_k4, ev_k5, ev_l0, ev_l1, sh_1, sh_2, sh_3, sh_4, sh_5, at_X7_readPancake_116, at_X7_readPancake_122, at_X7_readPancake_23, at_X7_readPancake_47, at_X7_readPancake_81, at_X7_readPancake_97, ca_X7_199, ca_X7_223, ca_X7_231, ca_X7_237, ca_X7_56, ca_X7_67, ca_X7_81, cd_X7_readPancake_0, cd_X7_readPancake_116, cd_X7_readPancake_122, cd_X7_readPancake_23, cd_X7_readPancake_47, cd_X7_readPancake_81, cd_X7_readPancake_97, fl_X7_12, fl_X7_182, fl_X7_227, fl_X7_25, fl_X7_43, fl_X7_49, no_0, no_1, no_lt, no_le, no_eq, no_lt0, no_ge0, no_gt0, no_le0, no_eq0, no_0eq, no_eqm, no_meq, no_m0, no_mlt, no_mge, no_mgt, no_mm, no_i01, no_i10, no_in, no_or, no_ifm, no_mul, nI_add, no_sub, pk_div, iI_if, nI_clamp, oI_n, oI_s, not_true_eq_false, not_false_eq_true, forall_const, true_implies, false_and, and_false, or_false, false_or, Classical.not_not, true_or, or_true, no_b, no_eq1, eq_self, and_self, xk_0 hp, xk_1 hp, xk_2 hp, xk_3 hp, xk_4 hp, xk_5 hp, xk_6 hp, xk_7 hp, xk_8 hp, xk_9 hp, xk_10 hp, xk_11 hp, xk_12 hp, xk_13 hp, xk_14 hp, xk_15 hp, xk_16 hp, xk_17 hp, xk_18 hp, xk_19 hp, xk_20 hp, xk_21 hp, xl_1 hp, xl_2 hp, xl_3 hp, xl_4 hp, xl_6 hp, xl_8 hp, xl_10 hp, xl_12 hp, xl_14 hp, xl_15 hp, xl_17 hp, xl_18 hp, xl_21 hp, xp_7 hp, xp_8 hp, xp_9 hp, xp_10 hp, xp_11 hp, xp_12 hp, xp_13 hp, xp_14 hp, xp_15 hp, xp_16 hp, xp_17 hp, xp_t5 hp, xp_t7 hp, xp_t9 hp, xp_t11 hp, xp_t20 hp, xp_s19 hp, xp_a13 hp, xp_b13 hp, xp_a16 hp, xp_b16 hp, xc_r5 hp, xc_c5 hp, xc_r7 hp, xc_c7 hp, xc_r9 hp, xc_c9 hp, xc_r11 hp, xc_c11 hp, xc_r20 hp, xc_c20 hp, no_on, hK, hpp, hH])
      | (with_reducible refine And.intro (fun q => ?_) (fun q => ?_) <;> (try simp (disch := first | omega | assumption) only [no_0, no_1, no_lt, no_le, no_eq, no_lt0, no_ge0, no_gt0, no_le0, no_eq0, no_0eq, no_eqm, no_meq, no_m0, no_mlt, no_mge, no_mgt, no_mm, no_i01, no_i10, no_in, no_or, no_ifm, no_mul, nI_add, no_sub, pk_div, iI_if, nI_clamp, oI_n, oI_s, not_true_eq_false, not_false_eq_true, forall_const, true_implies, false_and, and_false, or_false, false_or, Classical.not_not, true_or, or_true, no_b, no_eq1, eq_self, and_self, xk_0 hp, xk_1 hp, xk_2 hp, xk_3 hp, xk_4 hp, xk_5 hp, xk_6 hp, xk_7 hp, xk_8 hp, xk_9 hp, xk_10 hp, xk_11 hp, xk_12 hp, xk_13 hp, xk_14 hp, xk_15 hp, xk_16 hp, xk_17 hp, xk_18 hp, xk_19 hp, xk_20 hp, xk_21 hp, xl_1 hp, xl_2 hp, xl_3 hp, xl_4 hp, xl_6 hp, xl_8 hp, xl_10 hp, xl_12 hp, xl_14 hp, xl_15 hp, xl_17 hp, xl_18 hp, xl_21 hp, xp_7 hp, xp_8 hp, xp_9 hp, xp_10 hp, xp_11 hp, xp_12 hp, xp_13 hp, xp_14 hp, xp_15 hp, xp_16 hp, xp_17 hp, xp_t5 hp, xp_t7 hp, xp_t9 hp, xp_t11 hp, xp_t20 hp, xp_s19 hp, xp_a13 hp, xp_b13 hp, xp_a16 hp, xp_b16 hp, xc_r5 hp, xc_c5 hp, xc_r7 hp, xc_c7 hp, xc_r9 hp, xc_c9 hp, xc_r11 hp, xc_c11 hp, xc_r20 hp, xc_c20 hp, no_on, hK, hpp, hH] at q))
      | (with_reducible refine ev_ci h1 ?_)
      | (with_reducible refine ev_ci h2 ?_)
      | with_reducible refine ev_ci (m_contains_s hok hp (by with_reducible assumption) ?_ ?_ ?_ ?_) ?_
      | with_reducible refine ev_ci (m_contains_c hok hp (by with_reducible assumption) ?_ ?_ ?_ ?_) ?_
      | with_reducible refine ev_ci (m_fail_n hok (by assumption) ?_ _ _) ?_
      | omega
      | with_reducible assumption
      | with_reducible rfl
      | (refine Nat.lt_of_lt_of_le ?_ (Nat.le_refl 312); omega)
      | with_reducible refine lp_nx ?_ ?_ ?_ ?_
      | with_reducible refine lp_st ?_ ?_ ?_
      | with_reducible refine ls_c ?_ ?_
      | with_reducible refine vi_c ?_
      | with_reducible refine re_c ?_
      | with_reducible refine vz_c ?_
      | with_reducible refine rz_c ?_
      | exact trivial
      | with_reducible refine And.intro ?_ ?_
      | simp (disch := first | omega | assumption) only [ev_run_c, ev_run_n, ev_fj, ev_stp, ev_lk, ev_fv, ev_as, ev_sz, ev_st1, ev_st2, ev_rm, ev_pk, ev_Jof, ev_go, lv_args, List.map_cons, List.map_nil, List.zip_cons_cons, List.zip_nil_left, List.zip_nil_right, List.nil_append, List.cons_append, ↓reduceIte, reduceCtorEq, Int.reduceToNat, Nat.reduceEqDiff, Nat.reduceAdd, Nat.reduceLT, Nat.reduceLeDiff, Nat.reduceMul, Nat.reduceSub, Value.category, false_implies, true_and, and_true, Bool.false_eq_true, Option.some.injEq, exists_eq_left', Option.toList_some, Option.toList_none, ev_km, ev_k2, ev_k3, ev_k4, ev_k5, ev_l0, ev_l1, sh_1, sh_2, sh_3, sh_4, sh_5, at_X7_readPancake_116, at_X7_readPancake_122, at_X7_readPancake_23, at_X7_readPancake_47, at_X7_readPancake_81, at_X7_readPancake_97, ca_X7_199, ca_X7_223, ca_X7_231, ca_X7_237, ca_X7_56, ca_X7_67, ca_X7_81, cd_X7_readPancake_0, cd_X7_readPancake_116, cd_X7_readPancake_122, cd_X7_readPancake_23, cd_X7_readPancake_47, cd_X7_readPancake_81, cd_X7_readPancake_97, fl_X7_12, fl_X7_182, fl_X7_227, fl_X7_25, fl_X7_43, fl_X7_49, no_0, no_1, no_lt, no_le, no_eq, no_lt0, no_ge0, no_gt0, no_le0, no_eq0, no_0eq, no_eqm, no_meq, no_m0, no_mlt, no_mge, no_mgt, no_mm, no_i01, no_i10, no_in, no_or, no_ifm, no_mul, nI_add, no_sub, pk_div, iI_if, nI_clamp, oI_n, oI_s, not_true_eq_false, not_false_eq_true, forall_const, true_implies, false_and, and_false, or_false, false_or, Classical.not_not, true_or, or_true, no_b, no_eq1, eq_self, and_self, xk_0 hp, xk_1 hp, xk_2 hp, xk_3 hp, xk_4 hp, xk_5 hp, xk_6 hp, xk_7 hp, xk_8 hp, xk_9 hp, xk_10 hp, xk_11 hp, xk_12 hp, xk_13 hp, xk_14 hp, xk_15 hp, xk_16 hp, xk_17 hp, xk_18 hp, xk_19 hp, xk_20 hp, xk_21 hp, xl_1 hp, xl_2 hp, xl_3 hp, xl_4 hp, xl_6 hp, xl_8 hp, xl_10 hp, xl_12 hp, xl_14 hp, xl_15 hp, xl_17 hp, xl_18 hp, xl_21 hp, xp_7 hp, xp_8 hp, xp_9 hp, xp_10 hp, xp_11 hp, xp_12 hp, xp_13 hp, xp_14 hp, xp_15 hp, xp_16 hp, xp_17 hp, xp_t5 hp, xp_t7 hp, xp_t9 hp, xp_t11 hp, xp_t20 hp, xp_s19 hp, xp_a13 hp, xp_b13 hp, xp_a16 hp, xp_b16 hp, xc_r5 hp, xc_c5 hp, xc_r7 hp, xc_c7 hp, xc_r9 hp, xc_c9 hp, xc_r11 hp, xc_c11 hp, xc_r20 hp, xc_c20 hp, no_on, hK, hpp, hH]
      | exact rfl
      | (split <;> omega))
  by_cases z1 : e1.1 = 0
  · have e7 : e1 = (0, -1) := g1 z1
    rw [if_pos z1]
    subst e7
    obtain ⟨μ', hL, a2, T, hμ, hFT, h5, hok2⟩ := lp_ok hok hp6 hTM hI h10 (t := tvl B n a) (A := a + 1) (by omega) hM 4 0 rfl (by omega) (n1 rfl)
    have hL2 := start μ' hL
    rw [hμ] at hL2
    subst hp6
    exact RD_t rfl (T := T) (a2 := a2) hL2 ⟨fun b k hb => (hFT.1 b k hb).trans (hF.1 b k hb), hFT.2.1.trans hF.2.1, hFT.2.2.trans hF.2.2⟩ h5 hok2
  · rw [if_neg z1]
    have hsz : (x_ak p (N 1) (rv e1.1 (tvl B n a)) μ).1 (p + 14) (N 1) = nI 0 := by
      have := pr_cn hM (N 1) h10
      rw [pkN_k] at this
      exact this
    have e0 : pkN N (pkT e1.1 (tvl B n a)) 0 (fun k => pv B n N (a + 1 + k)) 0 = N 0 := pkN_ne (by omega) (by omega)
    obtain ⟨a2, hL⟩ := lp_err hok hp6 hTM hM (by omega) h10 (show (0 : Nat) ≤ 3 by omega) hsz 4 0 (a + 1) e1 rfl z1 c1 (by omega)
    exact RD_t hp6 (T := x_ak p (N 1) (rv e1.1 (tvl B n a)) μ) (a2 := a2) (start _ hL) hF c1 (fun z => absurd z z1)
end XPanc2
