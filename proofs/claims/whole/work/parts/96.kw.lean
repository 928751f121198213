/-! ===== the class's keywords ===== -/
section Kw
variable {G : ev_G} {N : Nat → Nat} {B : Nat → Nat} {n m p : Nat} {μ μ' : ev_M}
def kwn : List String := ["PANEL", "PERSON", "TASTER", "PANCAKE", "BID", "TOGETHER", "CONFLICT", "SEAT", "FILL", "LEAVE", "SCORE", "TALK", "LIMIT", "KITCHEN", "SWAP", "CLEAR", "EVEN", "COPY", "REPEAT", "OTHER"]
def kwD : String := "LPancakePanel$Keyword;"
def kwW : List Nat := [482670962028, 123581014175598, 127961897657714, 31632324133219173, 6449508, 8390038316256879986, 7165066918354314100, 1936023924, 1718185068, 465557354085, 495589487205, 1952541803, 465625246068, 30233771112949102, 1937203568, 427020345714, 1702258030, 1668247673, 125780002955636, 0]
def kww (i : Nat) : Nat := kwW.getD i 0
def swm (i : Nat) : Nat := if i = 19 then 0 else i
def kwO : List (String × String × String × List Int32) := [("java/lang/Enum", "ordinal", "I", [0, 1, 2, 3, 4, 5, 6, 7, 8, 9, 10, 11, 12, 13, 14, 15, 16, 17, 18, 19])]
/-- what the statics hold: the keywords at 312 .. 331, their row at 332, the switch's map at 333 -/
def KW (G : ev_G) : Prop :=
  va_Z RX10 "KEYWORDS" "[LPancakePanel$Keyword;" (.ref (G.2.1 332)) (ev_fr G) G.2.2.2.2.1 G.2.2.2.2.1.heap ∧ va_T (.object RX3) (G.2.1 332) 20 (fun i => .ref (G.2.1 (312 + i))) (ev_fr G) G.2.2.2.2.1 G.2.2.2.2.1.heap ∧
  va_Z "PancakePanel$1" "$SwitchMap$PancakePanel$Keyword" "[I" (.ref (G.2.1 333)) (ev_fr G) G.2.2.2.2.1 G.2.2.2.2.1.heap ∧ va_T .int (G.2.1 333) 20 (fun i => .int (nI (swm i))) (ev_fr G) G.2.2.2.2.1 G.2.2.2.2.1.heap ∧
  va_En RX3 kwD kwn kwO (fun i => G.2.1 (312 + i)) (ev_fr G) G.2.2.2.2.1 G.2.2.2.2.1.heap ∧ va_Ef 20 RX3 "word" "J" (fun i => .long (w64 (kww i))) (fun i => G.2.1 (312 + i)) (ev_fr G) G.2.2.2.2.1 G.2.2.2.2.1.heap
/-- which keyword a token is -/
def kwi (B : Nat → Nat) (n a : Nat) : Nat := if tkd B n a = 1 then fx kww (tvl B n a) 19 else 19
theorem kwi_le (B : Nat → Nat) (n a : Nat) : kwi B n a ≤ 19 := by
  unfold kwi
  have := fx_le kww (tvl B n a) 19
  split <;> omega
theorem kww_lt (i : Nat) : kww i < 2 ^ 64 := by
  have h : ∀ j, j < 20 → kwW.getD j 0 < 2 ^ 64 := by decide +kernel
  rcases Nat.lt_or_ge i 20 with g | g
  · exact h i g
  · have : kwW.getD i 0 = 0 := by
      rw [List.getD_eq_getElem?_getD, List.getElem?_eq_none (by show kwW.length ≤ i; exact g)]
      rfl
    unfold kww
    omega
section
variable {pp : Program} {e : Env} {R : Room} {s : State} {mm : MethodId} {args : Array Value} {below : List Frame} {meth : Method} {c : Code} {cc : ByteArray} {own : String} {nL d : Nat} {res : ev_R} {z : Bool}
theorem KW_s (hB : ev_B sh_S G pp R s mm args meth c cc own nL d res z) (h : KW G) :
    va_Z RX10 "KEYWORDS" "[LPancakePanel$Keyword;" (.ref (G.2.1 332)) (ev_fr G) s s.heap ∧ va_T (.object RX3) (G.2.1 332) 20 (fun i => .ref (G.2.1 (312 + i))) (ev_fr G) s s.heap ∧
    va_Z "PancakePanel$1" "$SwitchMap$PancakePanel$Keyword" "[I" (.ref (G.2.1 333)) (ev_fr G) s s.heap ∧ va_T .int (G.2.1 333) 20 (fun i => .int (nI (swm i))) (ev_fr G) s s.heap ∧
    va_En RX3 kwD kwn kwO (fun i => G.2.1 (312 + i)) (ev_fr G) s s.heap ∧ va_Ef 20 RX3 "word" "J" (fun i => .long (w64 (kww i))) (fun i => G.2.1 (312 + i)) (ev_fr G) s s.heap := by
  obtain ⟨hok, hx, hb, hml, hown, hW0, hlo, hlow, hlk2, hR, hex⟩ := id hB
  obtain ⟨h1, h2, h3, h4, h5, h6⟩ := h
  exact ⟨va_Z.moved hW0.alike (h1.kept (H1 := s.heap) (fun a ha _ => hlow a ha)), va_T.moved hW0.alike (h2.kept (H1 := s.heap) (fun a ha _ => hlow a ha)), va_Z.moved hW0.alike (h3.kept (H1 := s.heap) (fun a ha _ => hlow a ha)), va_T.moved hW0.alike (h4.kept (H1 := s.heap) (fun a ha _ => hlow a ha)), va_En.moved hW0.alike (h5.kept (H1 := s.heap) (fun a ha _ => hlow a ha)), va_Ef.moved hW0.alike (h6.kept (H1 := s.heap) (fun a ha _ => hlow a ha))⟩
end
theorem lk_158 : Cond.fieldLinkNest RX7 158 RX10 "KEYWORDS" "[LPancakePanel$Keyword;" "PancakePanel" ∈ ev_wd := by decide +kernel
theorem lk_162 : Cond.fieldLink RX7 162 RX3 "word" "J" ∈ ev_wd := by decide +kernel
theorem lk_170 : Cond.fieldLink RX7 170 RX3 "OTHER" kwD ∈ ev_wd := by decide +kernel
theorem dk7_17 : decode cX7_keyword 17 = .ok (.iload_n 1, 1) ∧ decode cX7_keyword 18 = .ok (.getstatic 158, 3) ∧ decode cX7_keyword 21 = .ok (.arraylength, 1) ∧ decode cX7_keyword 22 = .ok (.if_icmp .ge 38, 3) ∧ decode cX7_keyword 25 = .ok (.getstatic 158, 3) ∧ decode cX7_keyword 28 = .ok (.iload_n 1, 1) ∧ decode cX7_keyword 29 = .ok (.aaload, 1) ∧ decode cX7_keyword 30 = .ok (.getfield 162, 3) := by decide +kernel
theorem dk7_48 : decode cX7_keyword 48 = .ok (.getstatic 158, 3) ∧ decode cX7_keyword 51 = .ok (.iload_n 1, 1) ∧ decode cX7_keyword 52 = .ok (.aaload, 1) ∧ decode cX7_keyword 53 = .ok (.areturn, 1) ∧ decode cX7_keyword 60 = .ok (.getstatic 170, 3) ∧ decode cX7_keyword 63 = .ok (.areturn, 1) := by decide +kernel
set_option maxRecDepth 100000 in
theorem ezM_keyword : ez_okM RX7 mi_X7_keyword tb_X7_keyword cd_X7_keyword := by
  refine ⟨rfl, by decide +kernel, by decide +kernel, rfl, ⟨_, rfl, okF_X7⟩, ⟨_, rfl, okC_X7⟩, ?_, fun n v hn => okK_X7.1 _ (ev_lu_in hn), fun n v hn => okK_X7.2 _ (ev_lu_in hn), ?_⟩
  · have h : cd_X7_keyword.all (fun x => match x.2 with | .new _ => false | _ => true) = true := by decide +kernel
    intro x hx n hn
    have := List.all_eq_true.mp h x hx
    rw [hn] at this
    exact absurd this Bool.false_ne_true
  · have h : cd_X7_keyword.all (fun x => match x.2 with | .ireturn => false | .return_ => false | .lreturn => false | _ => true) = true := by decide +kernel
    intro x hx
    have := List.all_eq_true.mp h x hx
    refine ⟨fun q => ?_, fun q => ?_, fun q => ?_⟩ <;> rw [q] at this <;> exact absurd this Bool.false_ne_true
theorem vp_20 {i : Nat} (h : i < 20) : vp_in (nI i) 20 := vp_in_nI h (by omega)
set_option maxHeartbeats 1000000 in
theorem m_keyword (hok : ev_ok sh_S G) (hkw : KW G) (hT : TT B n m μ) {a : Nat} (ha : a ≤ m) {er : Nat × Int32} : ev_T sh_S G mi_X7_keyword [.ref 5] (pe er a μ) (.inl (some (.ref (312 + kwi B n a)), pe er a μ)) := by
  have hK := pk_5
  have h1 := m_kind (μ := pe er a μ) hok (TT_pe hT) ha
  have h2 := m_value (μ := pe er a μ) hok (TT_pe hT) ha
  have h7 := tkd_le B n a
  refine ez_tri (own := RX7) (z := false) rfl (by decide +kernel) hok (Nat.le_of_ble_eq_true rfl) ?_
  intro p e R s mm below meth c hB hret
  obtain ⟨-, hx, hb, hml, hown, hW0, hlo, hlow, hlk2, hR, hex⟩ := id hB
  obtain ⟨k1, k2, k3, k4, k5, k6⟩ := KW_s hB hkw
  obtain ⟨q17, q18, q21, q22, q25, q28, q29, q30⟩ := dk7_17
  obtain ⟨q48, q51, q52, q53, q60, q63⟩ := dk7_48
  -- a keyword is handed back
  have fin : ∀ (pc : Nat), decode cX7_keyword pc = .ok (.areturn, 1) → ∀ (l : List (Nat × Value)), ev_Wk sh_S G p G.1 e R s mm ([Value.ref 5].map (ev_tr G.2.1)).toArray below meth c mi_X7_keyword.2.2.1 (.inl (some (.ref (312 + kwi B n a)), pe er a μ)) pc l [.ref (312 + kwi B n a)] (pe er a μ) := by
    intro pc hd l H locs ls hP hS hl
    have hq : ∀ t : State, t.heap = H → s.WarmedH t.vm → ev_Q sh_S G (.inl (some (.ref (312 + kwi B n a)), pe er a μ)) ([Value.ref 5].map (ev_tr G.2.1)).toArray s (.returned (some (.ref (G.2.1 (312 + kwi B n a))))) t := fun t ht _ => ⟨some (.ref (312 + kwi B n a)), pe er a μ, rfl, rfl, by rw [ht]; exact ev_H_of hB hP hS⟩
    exact vx_ret (W.aret hx hb hret (Or.inl ⟨_, rfl⟩) (Or.inr ⟨_, rfl⟩) hq hS.2.2 hd hlk2)
  have at60 : kwi B n a = 19 → ∀ l : List (Nat × Value), ev_Wk sh_S G p G.1 e R s mm ([Value.ref 5].map (ev_tr G.2.1)).toArray below meth c mi_X7_keyword.2.2.1 (.inl (some (.ref (312 + kwi B n a)), pe er a μ)) 60 l [] (pe er a μ) := by
    intro h9 l H locs ls hP hS hl
    have hz := (k5.1 19 (by decide)).1
    refine va_gets (v := .ref (G.2.1 (312 + 19))) hx hb hz hS hown (ev_B_w hB _ lk_170) (fun x h => h) q60 ?_
    have g := fin 63 q63 l H locs ls hP hS hl
    rw [h9] at g ⊢
    exact g
  have at48 : ∀ i, i < 20 → kwi B n a = i → ev_Wk sh_S G p G.1 e R s mm ([Value.ref 5].map (ev_tr G.2.1)).toArray below meth c mi_X7_keyword.2.2.1 (.inl (some (.ref (312 + kwi B n a)), pe er a μ)) 48 ([0, 1].zip [.ref 5, .int (nI i)]) [] (pe er a μ) := by
    intro i hi h9 H locs ls hP hS hl
    refine va_getsN hx hb k1 hS hown (ev_B_w hB _ lk_158) (fun x h => h) q48 ?_
    refine lv_iload_n hx hb q51 rfl (ev_lv0 hl (v := .int (nI i)) rfl) ?_
    refine vb_tq (v := .ref (G.2.1 (312 + i))) hx hb k2 hS (vp_20 hi) (by rw [nI_clamp (by omega)]) q52 ?_
    have g := fin 53 q53 _ H locs ls hP hS hl
    rw [h9] at g ⊢
    exact g
  have loop : tkd B n a = 1 → ∀ d i, 20 - i = d → i ≤ 20 → (∀ j, j < i → j < 19 → kww j ≠ tvl B n a) → (i = 20 ∨ i ≤ 19) → ev_Wk sh_S G p G.1 e R s mm ([Value.ref 5].map (ev_tr G.2.1)).toArray below meth c mi_X7_keyword.2.2.1 (.inl (some (.ref (312 + kwi B n a)), pe er a μ)) 17 ([0, 1].zip [.ref 5, .int (nI i)]) [] (pe er a μ) := by
    intro ht d
    obtain ⟨-, -, -, w1', w2', w3', w4'⟩ := tkd_1 ht
    have hv64 : tvl B n a < 2 ^ 64 := by rw [w4']; exact wN_64 (fun k hk => hT.2.2.1 _) w1'
    have hvpos : 0 < tvl B n a := by rw [w4']; exact wN_pos (fun k hk => by have := isL_iff.mp (w3' k hk); omega) w2'
    induction d with
    | zero =>
      intro i hd hi hall _ H locs ls hP hS hl
      have e20 : i = 20 := by omega
      subst e20
      have hk9 : kwi B n a = 19 := by
        unfold kwi
        rw [if_pos ht]
        have hle := fx_le kww (tvl B n a) 19
        rcases Nat.lt_or_ge (fx kww (tvl B n a) 19) 19 with g | g
        · exact absurd (fx_is g) (hall _ (by omega) g)
        · omega
      refine lv_iload_n hx hb q17 rfl (ev_lv0 hl (v := .int (nI 20)) rfl) ?_
      refine va_getsN hx hb k1 hS hown (ev_B_w hB _ lk_158) (fun x h => h) q18 ?_
      refine va_tlen hx hb k2 hS (v := nI 20) rfl q21 ?_
      refine lv_icmp_ge hx hb q22 (tgt := 60) rfl (fun _ => ?_) (fun q => absurd (by decide) q)
      exact at60 hk9 _ H locs ls hP hS hl
    | succ d ih =>
      intro i hd hi hall _ H locs ls hP hS hl
      have hi20 : i < 20 := by omega
      refine lv_iload_n hx hb q17 rfl (ev_lv0 hl (v := .int (nI i)) rfl) ?_
      refine va_getsN hx hb k1 hS hown (ev_B_w hB _ lk_158) (fun x h => h) q18 ?_
      refine va_tlen hx hb k2 hS (v := nI 20) rfl q21 ?_
      refine lv_icmp_ge hx hb q22 (tgt := 60) rfl (fun q => ?_) (fun _ => ?_)
      · exfalso
        have q2 : nI 20 ≤ nI i := q
        rw [no_le (by omega) (by omega)] at q2
        omega
      · refine va_getsN hx hb k1 hS hown (ev_B_w hB _ lk_158) (fun x h => h) q25 ?_
        refine lv_iload_n hx hb q28 rfl (ev_lv0 hl (v := .int (nI i)) rfl) ?_
        refine vb_tq (v := .ref (G.2.1 (312 + i))) hx hb k2 hS (vp_20 hi20) (by rw [nI_clamp (by omega)]) q29 ?_
        refine va_getX (i := i) hx hb k6 hi20 hS hown (ev_B_w hB _ lk_162) (fun x h => h) q30 ?_
        have hJ : ev_hJ sh_S G p e R s mm ([Value.ref 5].map (ev_tr G.2.1)).toArray below meth c mi_X7_keyword.2.2.1 (.inl (some (.ref (312 + kwi B n a)), pe er a μ)) [(48, [0, 1], fun vs st μ1 => kww i = tvl B n a ∧ vs = [.ref 5, .int (nI i)] ∧ st = [] ∧ μ1 = pe er a μ), (17, [0, 1], fun vs st μ1 => kww i ≠ tvl B n a ∧ vs = [.ref 5, .int (nI (i + 1))] ∧ st = [] ∧ μ1 = pe er a μ)] := by
          intro pc ks P hP2 l st μ1 vs g1 g2
          unfold ev_fj at hP2
          by_cases c1 : 48 = pc
          · rw [if_pos c1] at hP2
            cases hP2
            subst c1
            obtain ⟨g3, rfl, rfl, rfl⟩ := g2
            intro H locs ls hP hS hl
            refine at48 i hi20 ?_ H locs ls hP hS (ev_pk_has hl g1)
            unfold kwi
            rw [if_pos ht]
            by_cases c19 : i = 19
            · subst c19
              have : kww 19 = 0 := rfl
              omega
            · have e0 : fx kww (tvl B n a) i = i := by
                have hle := fx_le kww (tvl B n a) i
                rcases Nat.lt_or_ge (fx kww (tvl B n a) i) i with g | g
                · exact absurd (fx_is g) (hall _ g (by omega))
                · omega
              exact fx_at (by omega) e0 g3
          · rw [if_neg c1] at hP2
            unfold ev_fj at hP2
            by_cases c2 : 17 = pc
            · rw [if_pos c2] at hP2
              cases hP2
              subst c2
              obtain ⟨g3, rfl, rfl, rfl⟩ := g2
              intro H locs ls hP hS hl
              refine ih (i + 1) (by omega) (by omega) (fun j hj hj2 => ?_) (by omega) H locs ls hP hS (ev_pk_has hl g1)
              by_cases cj : j = i
              · rw [cj]; exact g3
              · exact hall j (by omega) hj2
            · rw [if_neg c2] at hP2
              cases hP2
        have hc : (lg_cmp (w64 (kww i)) (w64 (tvl B n a)) = 0) = (kww i = tvl B n a) := by rw [lg_cmp_0, w_eq (kww_lt i) hv64]
        refine ez_run ezM_keyword hB hJ 400 33 (l := [0, 1].zip [.ref 5, .int (nI i)]) (st := [.long (w64 (kww i))]) ?_ H locs ls hP hS hl
        rw [show ev_at cd_X7_keyword 33 = (33, .aload 0) :: (34, .getfield 25) :: (37, .aload 0) :: (38, .getfield 49) :: (41, .invokevirtual 166) :: (44, .lcmp) :: (45, .ifCond .ne 54) :: (48, .getstatic 158) :: (51, .iload 1) :: (52, .aaload) :: (53, .areturn) :: cd_X7_keyword_54 from rfl]
        by_cases cq : kww i = tvl B n a
        · have hc2 := hc.trans (eq_true cq)
          repeat' (first
            | (with_reducible refine ev_rid ?_; simp (disch := first | omega | assumption) only [ev_run_c, ev_run_n, ev_fj, ev_stp, ev_lk, ev_fv, ev_as, ev_sz, ev_st1, ev_st2, ev_rm, ev_pk, ev_Jof, ev_go, lv_args, List.map_cons, List.map_nil, List.zip_cons_cons, List.zip_nil_left, List.zip_nil_right, List.nil_append, List.cons_append, ↓reduceIte, reduceCtorEq, Int.reduceToNat, Nat.reduceEqDiff, Nat.reduceAdd, Nat.reduceLT, Nat.reduceLeDiff, Nat.reduceMul, Nat.reduceSub, Value.category, false_implies, true_and, and_true, Bool.false_eq_true, Option.some.injEq, exists_eq_left', Option.toList_some, Option.toList_none, ev_km, ev_k2, ev_k3, ev_k4, ev_k5, ev_l0, ev_l1, sh_1, sh_2, sh_3, sh_4, sh_5, at_X7_keyword_17, at_X7_keyword_54, at_X7_keyword_60, ca_X7_166, ca_X7_56, cd_X7_keyword_0, cd_X7_keyword_17, cd_X7_keyword_54, cd_X7_keyword_60, fl_X7_25, fl_X7_49, no_0, no_1, no_lt, no_le, no_eq, no_lt0, no_ge0, no_gt0, no_le0, no_eq0, no_0eq, no_eqm, no_meq, no_m0, no_mlt, no_mge, no_mgt, no_mm, no_i01, no_i10, no_in, no_or, no_ifm, no_mul, nI_add, no_sub, pk_div, iI_if, nI_clamp, oI_n, oI_s, not_true_eq_false, not_false_eq_true, forall_const, true_implies, false_and, and_false, or_false, false_or, Classical.not_not, true_or, or_true, no_b, no_eq1, eq_self, and_self, no_on, hK, pe_7, hc2])
            | (with_reducible refine ev_gid ?_; simp (disch := first | omega | assumption) only [ev_run_c, ev_run_n, ev_fj, ev_stp, ev_lk, ev_fv, ev_as, ev_sz, ev_st1, ev_st2, ev_rm, ev_pk, ev_Jof, ev_go, lv_args, List.map_cons, List.map_nil, List.zip_cons_cons, List.zip_nil_left, List.zip_nil_right, List.nil_append, List.cons_append, ↓reduceIte, reduceCtorEq, Int.reduceToNat, Nat.reduceEqDiff, Nat.reduceAdd, Nat.reduceLT, Nat.reduceLeDiff, Nat.reduceMul, Nat.reduceSub, Value.category, false_implies, true_and, and_true, Bool.false_eq_true, Option.some.injEq, exists_eq_left', Option.toList_some, Option.toList_none, ev_km, ev_k2, ev_k3, ev_k4, ev_k5, ev_l0, ev_l1, sh_1, sh_2, sh_3, sh_4, sh_5, at_X7_keyword_17, at_X7_keyword_54, at_X7_keyword_60, ca_X7_166, ca_X7_56, cd_X7_keyword_0, cd_X7_keyword_17, cd_X7_keyword_54, cd_X7_keyword_60, fl_X7_25, fl_X7_49, no_0, no_1, no_lt, no_le, no_eq, no_lt0, no_ge0, no_gt0, no_le0, no_eq0, no_0eq, no_eqm, no_meq, no_m0, no_mlt, no_mge, no_mgt, no_mm, no_i01, no_i10, no_in, no_or, no_ifm, no_mul, nI_add, no_sub, pk_div, iI_if, nI_clamp, oI_n, oI_s, not_true_eq_false, not_false_eq_true, forall_const, true_implies, false_and, and_false, or_false, false_or, Classical.not_not, true_or, or_true, no_b, no_eq1, eq_self, and_self, no_on, hK, pe_7, hc2])
            | (with_reducible refine And.intro (fun q => ?_) (fun q => ?_) <;> (try simp (disch := first | omega | assumption) only [no_0, no_1, no_lt, no_le, no_eq, no_lt0, no_ge0, no_gt0, no_le0, no_eq0, no_0eq, no_eqm, no_meq, no_m0, no_mlt, no_mge, no_mgt, no_mm, no_i01, no_i10, no_in, no_or, no_ifm, no_mul, nI_add, no_sub, pk_div, iI_if, nI_clamp, oI_n, oI_s, not_true_eq_false, not_false_eq_true, forall_const, true_implies, false_and, and_false, or_false, false_or, Classical.not_not, true_or, or_true, no_b, no_eq1, eq_self, and_self, no_on, hK, pe_7, hc2] at q))
            | (with_reducible refine ev_ci h2 ?_)
            | omega
            | with_reducible assumption
            | with_reducible rfl
            | (refine Nat.lt_of_lt_of_le ?_ (Nat.le_refl 312); omega)
            | with_reducible refine lp_nx ?_ ?_ ?_ ?_
            | with_reducible refine lp_st ?_ ?_ ?_
            | with_reducible refine ls_c ?_ ?_
            | with_reducible refine vi_c ?_
            | with_reducible refine re_c ?_
            | with_reducible refine vz_c ?_
            | with_reducible refine rz_c ?_
            | exact trivial
            | with_reducible refine And.intro ?_ ?_
            | simp (disch := first | omega | assumption) only [ev_run_c, ev_run_n, ev_fj, ev_stp, ev_lk, ev_fv, ev_as, ev_sz, ev_st1, ev_st2, ev_rm, ev_pk, ev_Jof, ev_go, lv_args, List.map_cons, List.map_nil, List.zip_cons_cons, List.zip_nil_left, List.zip_nil_right, List.nil_append, List.cons_append, ↓reduceIte, reduceCtorEq, Int.reduceToNat, Nat.reduceEqDiff, Nat.reduceAdd, Nat.reduceLT, Nat.reduceLeDiff, Nat.reduceMul, Nat.reduceSub, Value.category, false_implies, true_and, and_true, Bool.false_eq_true, Option.some.injEq, exists_eq_left', Option.toList_some, Option.toList_none, ev_km, ev_k2, ev_k3, ev_k4, ev_k5, ev_l0, ev_l1, sh_1, sh_2, sh_3, sh_4, sh_5, at_X7_keyword_17, at_X7_keyword_54, at_X7_keyword_60, ca_X7_166, ca_X7_56, cd_X7_keyword_0, cd_X7_keyword_17, cd_X7_keyword_54, cd_X7_keyword_60, fl_X7_25, fl_X7_49, no_0, no_1, no_lt, no_le, no_eq, no_lt0, no_ge0, no_gt0, no_le0, no_eq0, no_0eq, no_eqm, no_meq, no_m0, no_mlt, no_mge, no_mgt, no_mm, no_i01, no_i10, no_in, no_or, no_ifm, no_mul, nI_add, no_sub, pk_div, iI_if, nI_clamp, oI_n, oI_s, not_true_eq_false, not_false_eq_true, forall_const, true_implies, false_and, and_false, or_false, false_or, Classical.not_not, true_or, or_true, no_b, no_eq1, eq_self, and_self, no_on, hK, pe_7, hc2]
            | exact rfl
            | (split <;> omega))
        · have hc2 := hc.trans (eq_false cq)
          repeat' (first
            | (with_reducible refine ev_rid ?_; simp (disch := first | omega | assumption) only [ev_run_c, ev_run_n, ev_fj, ev_stp, ev_lk, ev_fv, ev_as, ev_sz, ev_st1, ev_st2, ev_rm, ev_pk, ev_Jof, ev_go, lv_args, List.map_cons, List.map_nil, List.zip_cons_cons, List.zip_nil_left, List.zip_nil_right, List.nil_append, List.cons_append, ↓reduceIte, reduceCtorEq, Int.reduceToNat, Nat.reduceEqDiff, Nat.reduceAdd, Nat.reduceLT, Nat.reduceLeDiff, Nat.reduceMul, Nat.reduceSub, Value.category, false_implies, true_and, and_true, Bool.false_eq_true, Option.some.injEq, exists_eq_left', Option.toList_some, Option.toList_none, ev_km, ev_k2, ev_k3, ev_k4, ev_k5, ev_l0, ev_l1, sh_1, sh_2, sh_3, sh_4, sh_5, at_X7_keyword_17, at_X7_keyword_54, at_X7_keyword_60, ca_X7_166, ca_X7_56, cd_X7_keyword_0, cd_X7_keyword_17, cd_X7_keyword_54, cd_X7_keyword_60, fl_X7_25, fl_X7_49, no_0, no_1, no_lt, no_le, no_eq, no_lt0, no_ge0, no_gt0, no_le0, no_eq0, no_0eq, no_eqm, no_meq, no_m0, no_mlt, no_mge, no_mgt, no_mm, no_i01, no_i10, no_in, no_or, no_ifm, no_mul, nI_add, no_sub, pk_div, iI_if, nI_clamp, oI_n, oI_s, not_true_eq_false, not_false_eq_true, forall_const, true_implies, false_and, and_false, or_false, false_or, Classical.not_not, true_or, or_true, no_b, no_eq1, eq_self, and_self, no_on, hK, pe_7, hc2])
            | (with_reducible refine ev_gid ?_; simp (disch := first | omega | assumption) only [ev_run_c, ev_run_n, ev_fj, ev_stp, ev_lk, ev_fv, ev_as, ev_sz, ev_st1, ev_st2, ev_rm, ev_pk, ev_Jof, ev_go, lv_args, List.map_cons, List.map_nil, List.zip_cons_cons, List.zip_nil_left, List.zip_nil_right, List.nil_append, List.cons_append, ↓reduceIte, reduceCtorEq, Int.reduceToNat, Nat.reduceEqDiff, Nat.reduceAdd, Nat.reduceLT, Nat.reduceLeDiff, Nat.reduceMul, Nat.reduceSub, Value.category, false_implies, true_and, and_true, Bool.false_eq_true, Option.some.injEq, exists_eq_left', Option.toList_some, Option.toList_none, ev_km, ev_k2, ev_k3, ev_k4, ev_k5, ev_l0, ev_l1, sh_1, sh_2, sh_3, sh_4, sh_5, at_X7_keyword_17, at_X7_keyword_54, at_X7_keyword_60, ca_X7_166, ca_X7_56, cd_X7_keyword_0, cd_X7_keyword_17, cd_X7_keyword_54, cd_X7_keyword_60, fl_X7_25, fl_X7_49, no_0, no_1, no_lt, no_le, no_eq, no_lt0, no_ge0, no_gt0, no_le0, no_eq0, no_0eq, no_eqm, no_meq, no_m0, no_mlt, no_mge, no_mgt, no_mm, no_i01, no_i10, no_in, no_or, no_ifm, no_mul, nI_add, no_sub, pk_div, iI_if, nI_clamp, oI_n, oI_s, not_true_eq_false, not_false_eq_true, forall_const, true_implies, false_and, and_false, or_false, false_or, Classical.not_not, true_or, or_true, no_b, no_eq1, eq_self, and_self, no_on, hK, pe_7, hc2])
            | (with_reducible refine And.intro (fun q => ?_) (fun q => ?_) <;> (try simp (disch := first | omega | assumption) only [no_0, no_1, no_lt, no_le, no_eq, no_lt0, no_ge0, no_gt0, no_le0, no_eq0, no_0eq, no_eqm, no_meq, no_m0, no_mlt, no_mge, no_mgt, no_mm, no_i01, no_i10, no_in, no_or, no_ifm, no_mul, nI_add, no_sub, pk_div, iI_if, nI_clamp, oI_n, oI_s, not_true_eq_false, not_false_eq_true, forall_const, true_implies, false_and, and_false, or_false, false_or, Classical.not_not, true_or, or_true, no_b, no_eq1, eq_self, and_self, no_on, hK, pe_7, hc2] at q))
            | (with_reducible refine ev_ci h2 ?_)
            | omega
            | with_reducible assumption
            | with_reducible rfl
            | (refine Nat.lt_of_lt_of_le ?_ (Nat.le_refl 312); omega)
            | with_reducible refine lp_nx ?_ ?_ ?_ ?_
            | with_reducible refine lp_st ?_ ?_ ?_
            | with_reducible refine ls_c ?_ ?_
            | with_reducible refine vi_c ?_
            | with_reducible refine re_c ?_
            | with_reducible refine vz_c ?_
            | with_reducible refine rz_c ?_
            | exact trivial
            | with_reducible refine And.intro ?_ ?_
            | simp (disch := first | omega | assumption) only [ev_run_c, ev_run_n, ev_fj, ev_stp, ev_lk, ev_fv, ev_as, ev_sz, ev_st1, ev_st2, ev_rm, ev_pk, ev_Jof, ev_go, lv_args, List.map_cons, List.map_nil, List.zip_cons_cons, List.zip_nil_left, List.zip_nil_right, List.nil_append, List.cons_append, ↓reduceIte, reduceCtorEq, Int.reduceToNat, Nat.reduceEqDiff, Nat.reduceAdd, Nat.reduceLT, Nat.reduceLeDiff, Nat.reduceMul, Nat.reduceSub, Value.category, false_implies, true_and, and_true, Bool.false_eq_true, Option.some.injEq, exists_eq_left', Option.toList_some, Option.toList_none, ev_km, ev_k2, ev_k3, ev_k4, ev_k5, ev_l0, ev_l1, sh_1, sh_2, sh_3, sh_4, sh_5, at_X7_keyword_17, at_X7_keyword_54, at_X7_keyword_60, ca_X7_166, ca_X7_56, cd_X7_keyword_0, cd_X7_keyword_17, cd_X7_keyword_54, cd_X7_keyword_60, fl_X7_25, fl_X7_49, no_0, no_1, no_lt, no_le, no_eq, no_lt0, no_ge0, no_gt0, no_le0, no_eq0, no_0eq, no_eqm, no_meq, no_m0, no_mlt, no_mge, no_mgt, no_mm, no_i01, no_i10, no_in, no_or, no_ifm, no_mul, nI_add, no_sub, pk_div, iI_if, nI_clamp, oI_n, oI_s, not_true_eq_false, not_false_eq_true, forall_const, true_implies, false_and, and_false, or_false, false_or, Classical.not_not, true_or, or_true, no_b, no_eq1, eq_self, and_self, no_on, hK, pe_7, hc2]
            | exact rfl
            | (split <;> omega))
  have hJ : ev_hJ sh_S G p e R s mm ([Value.ref 5].map (ev_tr G.2.1)).toArray below meth c mi_X7_keyword.2.2.1 (.inl (some (.ref (312 + kwi B n a)), pe er a μ)) [(17, [0, 1], fun vs st μ1 => tkd B n a = 1 ∧ vs = [.ref 5, .int (nI 0)] ∧ st = [] ∧ μ1 = pe er a μ), (60, [0], fun vs st μ1 => tkd B n a ≠ 1 ∧ vs = [.ref 5] ∧ st = [] ∧ μ1 = pe er a μ)] := by
    intro pc ks P hP2 l st μ1 vs g1 g2
    unfold ev_fj at hP2
    by_cases c1 : 17 = pc
    · rw [if_pos c1] at hP2
      cases hP2
      subst c1
      obtain ⟨g3, rfl, rfl, rfl⟩ := g2
      intro H locs ls hP hS hl
      exact loop g3 20 0 rfl (by omega) (fun j hj => absurd hj (Nat.not_lt_zero j)) (by omega) H locs ls hP hS (ev_pk_has hl g1)
    · rw [if_neg c1] at hP2
      unfold ev_fj at hP2
      by_cases c2 : 60 = pc
      · rw [if_pos c2] at hP2
        cases hP2
        subst c2
        obtain ⟨g3, rfl, rfl, rfl⟩ := g2
        intro H locs ls hP hS hl
        exact at60 (by unfold kwi; rw [if_neg g3]) l H locs ls hP hS hl
      · rw [if_neg c2] at hP2
        cases hP2
  refine ez_run ezM_keyword hB hJ 400 0 ?_
  rw [at_X7_keyword_0]
  by_cases ck : tkd B n a = 1
  · repeat' (first
      | (with_reducible refine ev_rid ?_; simp (disch := first | omega | assumption) only [ev_run_c, ev_run_n, ev_fj, ev_stp, ev_lk, ev_fv, ev_as, ev_sz, ev_st1, ev_st2, ev_rm, ev_pk, ev_Jof, ev_go, lv_args, List.map_cons, List.map_nil, List.zip_cons_cons, List.zip_nil_left, List.zip_nil_right, List.nil_append, List.cons_append, ↓reduceIte, reduceCtorEq, Int.reduceToNat, Nat.reduceEqDiff, Nat.reduceAdd, Nat.reduceLT, Nat.reduceLeDiff, Nat.reduceMul, Nat.reduceSub, Value.category, false_implies, true_and, and_true, Bool.false_eq_true, Option.some.injEq, exists_eq_left', Option.toList_some, Option.toList_none, ev_km, ev_k2, ev_k3, ev_k4, ev_k5, ev_l0, ev_l1, sh_1, sh_2, sh_3, sh_4, sh_5, at_X7_keyword_17, at_X7_keyword_54, at_X7_keyword_60, ca_X7_166, ca_X7_56, cd_X7_keyword_0, cd_X7_keyword_17, cd_X7_keyword_54, cd_X7_keyword_60, fl_X7_25, fl_X7_49, no_0, no_1, no_lt, no_le, no_eq, no_lt0, no_ge0, no_gt0, no_le0, no_eq0, no_0eq, no_eqm, no_meq, no_m0, no_mlt, no_mge, no_mgt, no_mm, no_i01, no_i10, no_in, no_or, no_ifm, no_mul, nI_add, no_sub, pk_div, iI_if, nI_clamp, oI_n, oI_s, not_true_eq_false, not_false_eq_true, forall_const, true_implies, false_and, and_false, or_false, false_or, Classical.not_not, true_or, or_true, no_b, no_eq1, eq_self, and_self, no_on, hK, pe_7, ck])
      | (with_reducible refine ev_gid ?_; simp (disch := first | omega | assumption) only [ev_run_c, ev_run_n, ev_fj, ev_stp, ev_lk, ev_fv, ev_as, ev_sz, ev_st1, ev_st2, ev_rm, ev_pk, ev_Jof, ev_go, lv_args, List.map_cons, List.map_nil, List.zip_cons_cons, List.zip_nil_left, List.zip_nil_right, List.nil_append, List.cons_append, ↓reduceIte, reduceCtorEq, Int.reduceToNat, Nat.reduceEqDiff, Nat.reduceAdd, Nat.reduceLT, Nat.reduceLeDiff, Nat.reduceMul, Nat.reduceSub, Value.category, false_implies, true_and, and_true, Bool.false_eq_true, Option.some.injEq, exists_eq_left', Option.toList_some, Option.toList_none, ev_km, ev_k2, ev_k3, ev_k4, ev_k5, ev_l0, ev_l1, sh_1, sh_2, sh_3, sh_4, sh_5, at_X7_keyword_17, at_X7_keyword_54, at_X7_keyword_60, ca_X7_166, ca_X7_56, cd_X7_keyword_0, cd_X7_keyword_17, cd_X7_keyword_54, cd_X7_keyword_60, fl_X7_25, fl_X7_49, no_0, no_1, no_lt, no_le, no_eq, no_lt0, no_ge0, no_gt0, no_le0, no_eq0, no_0eq, no_eqm, no_meq, no_m0, no_mlt, no_mge, no_mgt, no_mm, no_i01, no_i10, no_in, no_or, no_ifm, no_mul, nI_add, no_sub, pk_div, iI_if, nI_clamp, oI_n, oI_s, not_true_eq_false, not_false_eq_true, forall_const, true_implies, false_and, and_false, or_false, false_or, Classical.not_not, true_or, or_true, no_b, no_eq1, eq_self, and_self, no_on, hK, pe_7, ck])
      | (with_reducible refine And.intro (fun q => ?_) (fun q => ?_) <;> (try simp (disch := first | omega | assumption) only [no_0, no_1, no_lt, no_le, no_eq, no_lt0, no_ge0, no_gt0, no_le0, no_eq0, no_0eq, no_eqm, no_meq, no_m0, no_mlt, no_mge, no_mgt, no_mm, no_i01, no_i10, no_in, no_or, no_ifm, no_mul, nI_add, no_sub, pk_div, iI_if, nI_clamp, oI_n, oI_s, not_true_eq_false, not_false_eq_true, forall_const, true_implies, false_and, and_false, or_false, false_or, Classical.not_not, true_or, or_true, no_b, no_eq1, eq_self, and_self, no_on, hK, pe_7, ck] at q))
      | (with_reducible refine ev_ci h1 ?_)
      | omega
      | with_reducible assumption
      | with_reducible rfl
      | (refine Nat.lt_of_lt_of_le ?_ (Nat.le_refl 312); omega)
      | with_reducible refine lp_nx ?_ ?_ ?_ ?_
      | with_reducible refine lp_st ?_ ?_ ?_
      | with_reducible refine ls_c ?_ ?_
      | with_reducible refine vi_c ?_
      | with_reducible refine re_c ?_
      | with_reducible refine vz_c ?_
      | with_reducible refine rz_c ?_
      | exact trivial
      | with_reducible refine And.intro ?_ ?_
      | simp (disch := first | omega | assumption) only [ev_run_c, ev_run_n, ev_fj, ev_stp, ev_lk, ev_fv, ev_as, ev_sz, ev_st1, ev_st2, ev_rm, ev_pk, ev_Jof, ev_go, lv_args, List.map_cons, List.map_nil, List.zip_cons_cons, List.zip_nil_left, List.zip_nil_right, List.nil_append, List.cons_append, ↓reduceIte, reduceCtorEq, Int.reduceToNat, Nat.reduceEqDiff, Nat.reduceAdd, Nat.reduceLT, Nat.reduceLeDiff, Nat.reduceMul, Nat.reduceSub, Value.category, false_implies, true_and, and_true, Bool.false_eq_true, Option.some.injEq, exists_eq_left', Option.toList_some, Option.toList_none, ev_km, ev_k2, ev_k3, ev_k4, ev_k5, ev_l0, ev_l1, sh_1, sh_2, sh_3, sh_4, sh_5, at_X7_keyword_17, at_X7_keyword_54, at_X7_keyword_60, ca_X7_166, ca_X7_56, cd_X7_keyword_0, cd_X7_keyword_17, cd_X7_keyword_54, cd_X7_keyword_60, fl_X7_25, fl_X7_49, no_0, no_1, no_lt, no_le, no_eq, no_lt0, no_ge0, no_gt0, no_le0, no_eq0, no_0eq, no_eqm, no_meq, no_m0, no_mlt, no_mge, no_mgt, no_mm, no_i01, no_i10, no_in, no_or, no_ifm, no_mul, nI_add, no_sub, pk_div, iI_if, nI_clamp, oI_n, oI_s, not_true_eq_false, not_false_eq_true, forall_const, true_implies, false_and, and_false, or_false, false_or, Classical.not_not, true_or, or_true, no_b, no_eq1, eq_self, and_self, no_on, hK, pe_7, ck]
      | exact rfl
      | (split <;> omega))
  · repeat' (first
      | (with_reducible refine ev_rid ?_; simp (disch := first | omega | assumption) only [ev_run_c, ev_run_n, ev_fj, ev_stp, ev_lk, ev_fv, ev_as, ev_sz, ev_st1, ev_st2, ev_rm, ev_pk, ev_Jof, ev_go, lv_args, List.map_cons, List.map_nil, List.zip_cons_cons, List.zip_nil_left, List.zip_nil_right, List.nil_append, List.cons_append, ↓reduceIte, reduceCtorEq, Int.reduceToNat, Nat.reduceEqDiff, Nat.reduceAdd, Nat.reduceLT, Nat.reduceLeDiff, Nat.reduceMul, Nat.reduceSub, Value.category, false_implies, true_and, and_true, Bool.false_eq_true, Option.some.injEq, exists_eq_left', Option.toList_some, Option.toList_none, ev_km, ev_k2, ev_k3, ev_k4, ev_k5, ev_l0, ev_l1, sh_1, sh_2, sh_3, sh_4, sh_5, at_X7_keyword_17, at_X7_keyword_54, at_X7_keyword_60, ca_X7_166, ca_X7_56, cd_X7_keyword_0, cd_X7_keyword_17, cd_X7_keyword_54, cd_X7_keyword_60, fl_X7_25, fl_X7_49, no_0, no_1, no_lt, no_le, no_eq, no_lt0, no_ge0, no_gt0, no_le0, no_eq0, no_0eq, no_eqm, no_meq, no_m0, no_mlt, no_mge, no_mgt, no_mm, no_i01, no_i10, no_in, no_or, no_ifm, no_mul, nI_add, no_sub, pk_div, iI_if, nI_clamp, oI_n, oI_s, not_true_eq_false, not_false_eq_true, forall_const, true_implies, false_and, and_false, or_false, false_or, Classical.not_not, true_or, or_true, no_b, no_eq1, eq_self, and_self, no_on, hK, pe_7, ck])
      | (with_reducible refine ev_gid ?_; simp (disch := first | omega | assumption) only [ev_run_c, ev_run_n, ev_fj, ev_stp, ev_lk, ev_fv, ev_as, ev_sz, ev_st1, ev_st2, ev_rm, ev_pk, ev_Jof, ev_go, lv_args, List.map_cons, List.map_nil, List.zip_cons_cons, List.zip_nil_left, List.zip_nil_right, List.nil_append, List.cons_append, ↓reduceIte, reduceCtorEq, Int.reduceToNat, Nat.reduceEqDiff, Nat.reduceAdd, Nat.reduceLT, Nat.reduceLeDiff, Nat.reduceMul, Nat.reduceSub, Value.category, false_implies, true_and, and_true, Bool.false_eq_true, Option.some.injEq, exists_eq_left', Option.toList_some, Option.toList_none, ev_km, ev_k2, ev_k3, ev_k4, ev_k5, ev_l0, ev_l1, sh_1, sh_2, sh_3, sh_4, sh_5, at_X7_keyword_17, at_X7_keyword_54, at_X7_keyword_60, ca_X7_166, ca_X7_56, cd_X7_keyword_0, cd_X7_keyword_17, cd_X7_keyword_54, cd_X7_keyword_60, fl_X7_25, fl_X7_49, no_0, no_1, no_lt, no_le, no_eq, no_lt0, no_ge0, no_gt0, no_le0, no_eq0, no_0eq, no_eqm, no_meq, no_m0, no_mlt, no_mge, no_mgt, no_mm, no_i01, no_i10, no_in, no_or, no_ifm, no_mul, nI_add, no_sub, pk_div, iI_if, nI_clamp, oI_n, oI_s, not_true_eq_false, not_false_eq_true, forall_const, true_implies, false_and, and_false, or_false, false_or, Classical.not_not, true_or, or_true, no_b, no_eq1, eq_self, and_self, no_on, hK, pe_7, ck])
      | (with_reducible refine And.intro (fun q => ?_) (fun q => ?_) <;> (try simp (disch := first | omega | assumption) only [no_0, no_1, no_lt, no_le, no_eq, no_lt0, no_ge0, no_gt0, no_le0, no_eq0, no_0eq, no_eqm, no_meq, no_m0, no_mlt, no_mge, no_mgt, no_mm, no_i01, no_i10, no_in, no_or, no_ifm, no_mul, nI_add, no_sub, pk_div, iI_if, nI_clamp, oI_n, oI_s, not_true_eq_false, not_false_eq_true, forall_const, true_implies, false_and, and_false, or_false, false_or, Classical.not_not, true_or, or_true, no_b, no_eq1, eq_self, and_self, no_on, hK, pe_7, ck] at q))
      | (with_reducible refine ev_ci h1 ?_)
      | omega
      | with_reducible assumption
      | with_reducible rfl
      | (refine Nat.lt_of_lt_of_le ?_ (Nat.le_refl 312); omega)
      | with_reducible refine lp_nx ?_ ?_ ?_ ?_
      | with_reducible refine lp_st ?_ ?_ ?_
      | with_reducible refine ls_c ?_ ?_
      | with_reducible refine vi_c ?_
      | with_reducible refine re_c ?_
      | with_reducible refine vz_c ?_
      | with_reducible refine rz_c ?_
      | exact trivial
      | with_reducible refine And.intro ?_ ?_
      | simp (disch := first | omega | assumption) only [ev_run_c, ev_run_n, ev_fj, ev_stp, ev_lk, ev_fv, ev_as, ev_sz, ev_st1, ev_st2, ev_rm, ev_pk, ev_Jof, ev_go, lv_args, List.map_cons, List.map_nil, List.zip_cons_cons, List.zip_nil_left, List.zip_nil_right, List.nil_append, List.cons_append, ↓reduceIte, reduceCtorEq, Int.reduceToNat, Nat.reduceEqDiff, Nat.reduceAdd, Nat.reduceLT, Nat.reduceLeDiff, Nat.reduceMul, Nat.reduceSub, Value.category, false_implies, true_and, and_true, Bool.false_eq_true, Option.some.injEq, exists_eq_left', Option.toList_some, Option.toList_none, ev_km, ev_k2, ev_k3, ev_k4, ev_k5, ev_l0, ev_l1, sh_1, sh_2, sh_3, sh_4, sh_5, at_X7_keyword_17, at_X7_keyword_54, at_X7_keyword_60, ca_X7_166, ca_X7_56, cd_X7_keyword_0, cd_X7_keyword_17, cd_X7_keyword_54, cd_X7_keyword_60, fl_X7_25, fl_X7_49, no_0, no_1, no_lt, no_le, no_eq, no_lt0, no_ge0, no_gt0, no_le0, no_eq0, no_0eq, no_eqm, no_meq, no_m0, no_mlt, no_mge, no_mgt, no_mm, no_i01, no_i10, no_in, no_or, no_ifm, no_mul, nI_add, no_sub, pk_div, iI_if, nI_clamp, oI_n, oI_s, not_true_eq_false, not_false_eq_true, forall_const, true_implies, false_and, and_false, or_false, false_or, Classical.not_not, true_or, or_true, no_b, no_eq1, eq_self, and_self, no_on, hK, pe_7, ck]
      | exact rfl
      | (split <;> omega))
end Kw
