/-! ===== the law's helpers, one by one (by program, wip/whole/genhb.py) ===== -/
section Hbs
variable {G : ev_G} {μ μ1 μ' : ev_M}
variable {y : ev_Mi} {hh : List (Nat × Nat × Nat × Nat)} {pc : Nat} {l : List (Nat × Value)} {st : List Value} {x : Int32}
/-- the number of what was thrown, in a helper's list -/
def hbi : List String → String → Nat
  | [], _ => 0
  | a :: l, E => if E = a then 1 else hbi l E + 1
def hbn (L : List String) : ev_R → Int32
  | .inl _ => 0
  | .inr (E, _) => nI (hbi L E)
/-- the answer goes into the law's row -/
def ou0 (μ : ev_M) (v : Int64) : ev_M := (μ.1, ev_up μ.2.1 310 0 v, μ.2.2)
def hbm : ev_R → ev_M
  | .inl (some (.int v), μ) => ou0 μ v.toInt64
  | .inl (_, μ) => μ
  | .inr (_, μ) => μ
/-- of a truth value -/
def hbz : ev_R → ev_M
  | .inl (some (.int v), μ) => ou0 μ (if v = 0 then 0 else 1)
  | .inl (_, μ) => μ
  | .inr (_, μ) => μ
theorem wd_t {w : Cond} (h : w ∈ tables_1) (hg : ev_gw w = true) : w ∈ ev_wd := List.mem_filter.mpr ⟨List.mem_append_right _ h, hg⟩
theorem wd_i : Cond.initialized RX10 ∈ ev_wd := wd_t (by decide +kernel) (by decide +kernel)
theorem cl_21 : Cond.classLink RL 21 eI ∈ ev_wd := by decide +kernel
theorem cl_13 : Cond.classLink RL 13 eO ∈ ev_wd := by decide +kernel
theorem cl_15 : Cond.classLink RL 15 eA ∈ ev_wd := by decide +kernel
theorem hb_rec {p : Program} {R : Room} {s : State} {m : MethodId} {meth : Method} {c : Code} (hB : hb_B G p R s m meth c y hh) {H : Heap} (hP : va_P G.2.2.1 vwCl (ev_ws sh_S G μ) H) : ∃ cell : Cell, H[G.2.1 0]? = some cell ∧ cell.vm.isStatics = false ∧ s.vm.findClass RX10 = some cell.cls := by
  have hc : ∃ T N, vwCl[8]? = some (RX10, T, N) := ⟨_, _, rfl⟩
  obtain ⟨T, N, hc⟩ := hc
  exact va_recv (hb_K hB) hP (q0 := 0) hc (by rw [ev_ws_at (show 0 < ev_nc sh_S by decide +kernel), ev_E_obj sk_0 (by decide)])
theorem HL_icv {n : Int} {v : Int32} (hd : decode y.2.1 pc = .ok (.iconst n, 1)) (hv : Int32.ofInt n = v) (h : HL G y hh (pc + 1) l (.int v :: st) μ x μ') : HL G y hh pc l st μ x μ' := by
  subst hv
  exact HL_ic hd h
/-- the rest of a helper behind its call -/
theorem hb_A (hnc : NCs G) {P n na : Nat} {yc : ev_Mi} (hw : eh_ok RL n na yc ∧ Cond.instanceMethod yc.1 ∈ ev_wd ∧ Cond.selects RX10 yc.1 yc.1 ∈ ev_wd) {As : List Value} (hlen : As.length = na) (hdp : yc.2.2.2.2 < y.2.2.2.2) {off : Int} {t : Nat} (hd : decode y.2.1 P = .ok (.invokevirtual n, 3) ∧ decode y.2.1 (P + 3) = .ok (.i2l, 1) ∧ decode y.2.1 (P + 3 + 1) = .ok (.lastore, 1) ∧ decode y.2.1 (P + 3 + 1 + 1) = .ok (.goto off, 3) ∧ decode y.2.1 t = .ok (.iconst 0, 1) ∧ decode y.2.1 (t + 1) = .ok (.ireturn, 1)) (ht : ((P + 3 + 1 + 1 : Nat) : Int) + off = (t : Int)) {L : List String} (hL : ∀ E ∈ L, E ∈ [eI, eO, eA]) (hE : ∀ E ∈ L, ∃ h j, hb_x hh P E h ∧ hb_h y h j ∧ nI (hbi L E) = Int32.ofInt j) {res' : ev_R} (hT : ev_T sh_S G yc (.ref 0 :: As) μ res') (hv : (∃ v μ1, res' = .inl (some (.int v), μ1)) ∨ ∃ E μ1, res' = .inr (E, μ1) ∧ E ∈ L) : HL G y hh P l (As.reverse ++ .ref 0 :: [.int 0, .ref 310]) μ (hbn L res') (hbm res') := by
  obtain ⟨d1, d2, d3, d4, d5, d6⟩ := hd
  refine HL_call hnc hw.1 hw.2.1 hw.2.2 (show 0 < ev_nc sh_S by decide +kernel) (fun p R s m meth c hB H hP => hb_rec hB hP) hlen (by decide) hdp hT d1 (fun v μ1 q => ?_) (fun E μ1 q => ?_)
  · subst q
    rcases hv with ⟨v1, μ2, q2⟩ | ⟨E, μ2, q2, -⟩
    · cases q2
      exact HL_i2l d2 (HL_ls d3 (HL_gt d4 ht (HL_icv d5 rfl (HL_ret d6))))
    · cases q2
  · subst q
    rcases hv with ⟨v1, μ2, q2⟩ | ⟨E, μ2, q2, q3⟩
    · cases q2
    · cases q2
      exact ⟨hL _ q3, rfl, hE _ q3⟩
theorem hb_Z (hnc : NCs G) {P n na : Nat} {yc : ev_Mi} (hw : eh_ok RL n na yc ∧ Cond.instanceMethod yc.1 ∈ ev_wd ∧ Cond.selects RX10 yc.1 yc.1 ∈ ev_wd) {As : List Value} (hlen : As.length = na) (hdp : yc.2.2.2.2 < y.2.2.2.2) {off : Int} {t : Nat} (hd : decode y.2.1 P = .ok (.invokevirtual n, 3) ∧ decode y.2.1 (P + 3) = .ok (.ifCond .eq 7, 3) ∧ decode y.2.1 (P + 6) = .ok (.lconst 1, 1) ∧ decode y.2.1 (P + 7) = .ok (.goto 4, 3) ∧ decode y.2.1 (P + 10) = .ok (.lconst 0, 1) ∧ decode y.2.1 (P + 11) = .ok (.lastore, 1) ∧ decode y.2.1 (P + 12) = .ok (.goto off, 3) ∧ decode y.2.1 t = .ok (.iconst 0, 1) ∧ decode y.2.1 (t + 1) = .ok (.ireturn, 1)) (ht : ((P + 12 : Nat) : Int) + off = (t : Int)) {L : List String} (hL : ∀ E ∈ L, E ∈ [eI, eO, eA]) (hE : ∀ E ∈ L, ∃ h j, hb_x hh P E h ∧ hb_h y h j ∧ nI (hbi L E) = Int32.ofInt j) {res' : ev_R} (hT : ev_T sh_S G yc (.ref 0 :: As) μ res') (hv : (∃ v μ1, res' = .inl (some (.int v), μ1)) ∨ ∃ E μ1, res' = .inr (E, μ1) ∧ E ∈ L) : HL G y hh P l (As.reverse ++ .ref 0 :: [.int 0, .ref 310]) μ (hbn L res') (hbz res') := by
  obtain ⟨d1, d2, d3, d4, d5, d6, d7, d8, d9⟩ := hd
  refine HL_call hnc hw.1 hw.2.1 hw.2.2 (show 0 < ev_nc sh_S by decide +kernel) (fun p R s m meth c hB H hP => hb_rec hB hP) hlen (by decide) hdp hT d1 (fun v μ1 q => ?_) (fun E μ1 q => ?_)
  · subst q
    rcases hv with ⟨v1, μ2, q2⟩ | ⟨E, μ2, q2, -⟩
    · cases q2
      refine HL_ie (t := P + 10) d2 (by omega) (fun z => ?_) (fun z => ?_)
      · have e : hbz (.inl (some (.int v1), μ1)) = ou0 μ1 0 := by
          show ou0 μ1 (if v1 = 0 then 0 else 1) = _
          rw [if_pos z]
        rw [e]
        exact HL_lc d5 (HL_ls d6 (HL_gt d7 ht (HL_icv d8 rfl (HL_ret d9))))
      · have e : hbz (.inl (some (.int v1), μ1)) = ou0 μ1 1 := by
          show ou0 μ1 (if v1 = 0 then 0 else 1) = _
          rw [if_neg z]
        rw [e]
        exact HL_lc d3 (HL_gt (t := P + 11) d4 (by omega) (HL_ls d6 (HL_gt d7 ht (HL_icv d8 rfl (HL_ret d9)))))
    · cases q2
  · subst q
    rcases hv with ⟨v1, μ2, q2⟩ | ⟨E, μ2, q2, q3⟩
    · cases q2
    · cases q2
      exact ⟨hL _ q3, rfl, hE _ q3⟩
theorem hbx_1 {a b h k : Nat} {E : String} {suf : List (Nat × Nat × Nat × Nat)} (h1 : covers ⟨a, b, h, k⟩ pc = true) (h2 : k ≠ 0) (h3 : Cond.classLink RL k E ∈ ev_wd) : hb_x ((a, b, h, k) :: suf) pc E h := ⟨[], suf, (a, b, h, k), rfl, rfl, h1, h2, h3, fun w hw => absurd hw List.not_mem_nil⟩
theorem hbx_2 {a b h k a1 b1 h1 k1 : Nat} {E E1 : String} {suf : List (Nat × Nat × Nat × Nat)} (g1 : covers ⟨a, b, h, k⟩ pc = true) (g2 : k ≠ 0) (g3 : Cond.classLink RL k E ∈ ev_wd) (g4 : k1 ≠ 0) (g5 : E1 ∈ [eI, eO, eA]) (g6 : E ≠ E1) (g7 : Cond.classLink RL k1 E1 ∈ ev_wd) : hb_x ((a1, b1, h1, k1) :: (a, b, h, k) :: suf) pc E h := ⟨[(a1, b1, h1, k1)], suf, (a, b, h, k), rfl, rfl, g1, g2, g3, fun w hw => by rw [List.mem_singleton.mp hw]; exact ⟨g4, E1, g5, g6, g7⟩⟩
theorem hbx_3 {a b h k a1 b1 h1 k1 a2 b2 h2 k2 : Nat} {E E1 E2 : String} {suf : List (Nat × Nat × Nat × Nat)} (g1 : covers ⟨a, b, h, k⟩ pc = true) (g2 : k ≠ 0) (g3 : Cond.classLink RL k E ∈ ev_wd) (g4 : k1 ≠ 0) (g5 : E1 ∈ [eI, eO, eA]) (g6 : E ≠ E1) (g7 : Cond.classLink RL k1 E1 ∈ ev_wd) (f4 : k2 ≠ 0) (f5 : E2 ∈ [eI, eO, eA]) (f6 : E ≠ E2) (f7 : Cond.classLink RL k2 E2 ∈ ev_wd) : hb_x ((a1, b1, h1, k1) :: (a2, b2, h2, k2) :: (a, b, h, k) :: suf) pc E h := ⟨[(a1, b1, h1, k1), (a2, b2, h2, k2)], suf, (a, b, h, k), rfl, rfl, g1, g2, g3, fun w hw => by
  rcases List.mem_cons.mp hw with rfl | hw
  · exact ⟨g4, E1, g5, g6, g7⟩
  · rw [List.mem_singleton.mp hw]; exact ⟨f4, E2, f5, f6, f7⟩⟩
theorem ne_OI : eO ≠ eI := by decide +kernel
theorem ne_IO : eI ≠ eO := by decide +kernel
theorem ne_AI : eA ≠ eI := by decide +kernel
theorem ne_AO : eA ≠ eO := by decide +kernel
theorem hn_1 {l : List String} {E : String} : nI (hbi (E :: l) E) = Int32.ofInt 1 := by
  show nI (if E = E then 1 else _) = _
  rw [if_pos rfl]
  rfl
theorem hn_2 {l : List String} {E F : String} (h : F ≠ E) : nI (hbi (E :: F :: l) F) = Int32.ofInt 2 := by
  show nI (if F = E then 1 else (if F = F then 1 else _) + 1) = _
  rw [if_neg h, if_pos rfl]
  rfl
theorem hn_3 {l : List String} {E F K : String} (h : K ≠ E) (h2 : K ≠ F) : nI (hbi (E :: F :: K :: l) K) = Int32.ofInt 3 := by
  show nI (if K = E then 1 else (if K = F then 1 else (if K = K then 1 else _) + 1) + 1) = _
  rw [if_neg h, if_neg h2, if_pos rfl]
  rfl
theorem sb_I : ∀ E ∈ [eI], E ∈ [eI, eO, eA] := by decide +kernel
theorem sb_O : ∀ E ∈ [eO], E ∈ [eI, eO, eA] := by decide +kernel
theorem sb_IO : ∀ E ∈ [eI, eO], E ∈ [eI, eO, eA] := by decide +kernel
theorem sb_OI : ∀ E ∈ [eO, eI], E ∈ [eI, eO, eA] := by decide +kernel
theorem sb_OA : ∀ E ∈ [eO, eA], E ∈ [eI, eO, eA] := by decide +kernel
theorem sb_IOA : ∀ E ∈ [eI, eO, eA], E ∈ [eI, eO, eA] := fun _ h => h
theorem hme_I : eI ∈ [eI, eO, eA] := by decide +kernel
theorem hme_O : eO ∈ [eI, eO, eA] := by decide +kernel
theorem hme_A : eA ∈ [eI, eO, eA] := by decide +kernel

def hbW0 : List Cond := [Cond.methodLink RL 7 yX10_parseSetup, Cond.code yX10_parseSetup cX10_parseSetup mi_X10_parseSetup.2.2.1 mi_X10_parseSetup.2.2.2.1, Cond.instanceMethod yX10_parseSetup, Cond.selects RX10 yX10_parseSetup yX10_parseSetup, Cond.methodLink RL 17 yX10_pancakeCount, Cond.code yX10_pancakeCount cX10_pancakeCount mi_X10_pancakeCount.2.2.1 mi_X10_pancakeCount.2.2.2.1, Cond.instanceMethod yX10_pancakeCount, Cond.selects RX10 yX10_pancakeCount yX10_pancakeCount, Cond.methodLink RL 23 yX10_topicOf, Cond.code yX10_topicOf cX10_topicOf mi_X10_topicOf.2.2.1 mi_X10_topicOf.2.2.2.1, Cond.instanceMethod yX10_topicOf, Cond.selects RX10 yX10_topicOf yX10_topicOf, Cond.methodLink RL 26 yX10_cookCount, Cond.code yX10_cookCount cX10_cookCount mi_X10_cookCount.2.2.1 mi_X10_cookCount.2.2.2.1, Cond.instanceMethod yX10_cookCount, Cond.selects RX10 yX10_cookCount yX10_cookCount, Cond.methodLink RL 29 yX10_cookAt, Cond.code yX10_cookAt cX10_cookAt mi_X10_cookAt.2.2.1 mi_X10_cookAt.2.2.2.1, Cond.instanceMethod yX10_cookAt, Cond.selects RX10 yX10_cookAt yX10_cookAt, Cond.methodLink RL 33 yX10_personCount, Cond.code yX10_personCount cX10_personCount mi_X10_personCount.2.2.1 mi_X10_personCount.2.2.2.1, Cond.instanceMethod yX10_personCount, Cond.selects RX10 yX10_personCount yX10_personCount, Cond.methodLink RL 36 yX10_nameLetter, Cond.code yX10_nameLetter cX10_nameLetter mi_X10_nameLetter.2.2.1 mi_X10_nameLetter.2.2.2.1, Cond.instanceMethod yX10_nameLetter, Cond.selects RX10 yX10_nameLetter yX10_nameLetter, Cond.methodLink RL 39 yX10_kitchenOf, Cond.code yX10_kitchenOf cX10_kitchenOf mi_X10_kitchenOf.2.2.1 mi_X10_kitchenOf.2.2.2.1, Cond.instanceMethod yX10_kitchenOf, Cond.selects RX10 yX10_kitchenOf yX10_kitchenOf, Cond.methodLink RL 42 yX10_isTaster, Cond.code yX10_isTaster cX10_isTaster mi_X10_isTaster.2.2.1 mi_X10_isTaster.2.2.2.1, Cond.instanceMethod yX10_isTaster, Cond.selects RX10 yX10_isTaster yX10_isTaster, Cond.methodLink RL 46 yX10_limitOf, Cond.code yX10_limitOf cX10_limitOf mi_X10_limitOf.2.2.1 mi_X10_limitOf.2.2.2.1, Cond.instanceMethod yX10_limitOf, Cond.selects RX10 yX10_limitOf yX10_limitOf, Cond.methodLink RL 49 yX10_tasteOf, Cond.code yX10_tasteOf cX10_tasteOf mi_X10_tasteOf.2.2.1 mi_X10_tasteOf.2.2.2.1, Cond.instanceMethod yX10_tasteOf, Cond.selects RX10 yX10_tasteOf yX10_tasteOf, Cond.methodLink RL 52 yX10_bidOf, Cond.code yX10_bidOf cX10_bidOf mi_X10_bidOf.2.2.1 mi_X10_bidOf.2.2.2.1, Cond.instanceMethod yX10_bidOf, Cond.selects RX10 yX10_bidOf yX10_bidOf, Cond.methodLink RL 55 yX10_preference, Cond.code yX10_preference cX10_preference mi_X10_preference.2.2.1 mi_X10_preference.2.2.2.1, Cond.instanceMethod yX10_preference, Cond.selects RX10 yX10_preference yX10_preference, Cond.methodLink RL 58 yX10_conflict, Cond.code yX10_conflict cX10_conflict mi_X10_conflict.2.2.1 mi_X10_conflict.2.2.2.1, Cond.instanceMethod yX10_conflict, Cond.selects RX10 yX10_conflict yX10_conflict]
theorem hbW0_t : hbW0.all (fun w => decide (w ∈ tables_1)) = true := by decide +kernel
theorem hbW0_g : hbW0.all ev_gw = true := by decide +kernel
theorem hbW0_w {w : Cond} (h : w ∈ hbW0) : w ∈ ev_wd := wd_t (of_decide_eq_true (List.all_eq_true.mp hbW0_t w h)) (List.all_eq_true.mp hbW0_g w h)
theorem hbW0_i {w : Cond} (i : Nat) (h : hbW0[i]? = some w) : w ∈ ev_wd := hbW0_w (List.mem_of_getElem? h)
abbrev hy_parseSetup : ev_Mi := (yL_parseSetup, cL_parseSetup, 4, some .int, mi_X10_parseSetup.2.2.2.2 + 1)
abbrev hh_parseSetup : List (Nat × Nat × Nat × Nat) := [(0, 9, 12, 13), (0, 9, 15, 15)]
theorem hd_parseSetup : decode cL_parseSetup 0 = .ok (.aload_n 2, 1) ∧ decode cL_parseSetup 1 = .ok (.iconst 0, 1) ∧ decode cL_parseSetup 2 = .ok (.aload_n 0, 1) ∧ decode cL_parseSetup 3 = .ok (.iload_n 1, 1) := by decide +kernel
theorem he_parseSetup : decode cL_parseSetup 4 = .ok (.invokevirtual 7, 3) ∧ decode cL_parseSetup 7 = .ok (.i2l, 1) ∧ decode cL_parseSetup 8 = .ok (.lastore, 1) ∧ decode cL_parseSetup 9 = .ok (.goto 9, 3) ∧ decode cL_parseSetup 18 = .ok (.iconst 0, 1) ∧ decode cL_parseSetup 19 = .ok (.ireturn, 1) := by decide +kernel
theorem hw_parseSetup : eh_ok RL 7 1 mi_X10_parseSetup ∧ Cond.instanceMethod yX10_parseSetup ∈ ev_wd ∧ Cond.selects RX10 yX10_parseSetup yX10_parseSetup ∈ ev_wd := ⟨⟨hbW0_i 0 rfl, wd_i, hbW0_i 1 rfl, Nat.le_of_ble_eq_true rfl, by decide +kernel⟩, hbW0_i 2 rfl, hbW0_i 3 rfl⟩
theorem hc_parseSetup_0 : hb_h hy_parseSetup 12 1 := Or.inl ⟨3, by decide, by decide +kernel, by decide +kernel, by decide +kernel⟩
theorem hc_parseSetup_1 : hb_h hy_parseSetup 15 2 := Or.inl ⟨3, by decide, by decide +kernel, by decide +kernel, by decide +kernel⟩
theorem hE_parseSetup : ∀ E ∈ [eO, eA], ∃ h j, hb_x hh_parseSetup 4 E h ∧ hb_h hy_parseSetup h j ∧ nI (hbi [eO, eA] E) = Int32.ofInt j := by
  intro E hE
  simp only [List.mem_cons, List.not_mem_nil, or_false] at hE
  rcases hE with rfl | rfl
  · exact ⟨12, 1, hbx_1 (by decide) (by decide) cl_13, hc_parseSetup_0, hn_1⟩
  · exact ⟨15, 2, hbx_2 (by decide) (by decide) cl_15 (by decide) hme_O ne_AO cl_13, hc_parseSetup_1, hn_2 ne_AO⟩
theorem hb_parseSetup (hok : ev_ok sh_S G) (hnc : NCs G) (a : Int32) {res' : ev_R} (hT : ev_T sh_S G mi_X10_parseSetup (.ref 0 :: [.int a]) μ res') (hv : (∃ v μ1, res' = .inl (some (.int v), μ1)) ∨ ∃ E μ1, res' = .inr (E, μ1) ∧ E ∈ [eO, eA]) : hb_T G hy_parseSetup hh_parseSetup [.ref 0, .int a, .ref 310] μ (hbn [eO, eA] res') (hbm res') := by
  obtain ⟨d0, d1, d2, d3⟩ := hd_parseSetup
  refine HL_T rfl rfl hok (Nat.le_of_ble_eq_true rfl) ?_
  refine HL_al d0 (a := 310) rfl ?_
  refine HL_icv d1 (v := 0) rfl ?_
  refine HL_al d2 (a := 0) rfl ?_
  refine HL_il d3 (a := a) rfl ?_
  exact hb_A (As := [.int a]) hnc hw_parseSetup rfl (Nat.lt_succ_self _) (t := 18) he_parseSetup (by decide) sb_OA hE_parseSetup hT hv
abbrev hy_pancakeCount : ev_Mi := (yL_pancakeCount, cL_pancakeCount, 3, some .int, mi_X10_pancakeCount.2.2.2.2 + 1)
abbrev hh_pancakeCount : List (Nat × Nat × Nat × Nat) := [(0, 8, 11, 21)]
theorem hd_pancakeCount : decode cL_pancakeCount 0 = .ok (.aload_n 1, 1) ∧ decode cL_pancakeCount 1 = .ok (.iconst 0, 1) ∧ decode cL_pancakeCount 2 = .ok (.aload_n 0, 1) := by decide +kernel
theorem he_pancakeCount : decode cL_pancakeCount 3 = .ok (.invokevirtual 17, 3) ∧ decode cL_pancakeCount 6 = .ok (.i2l, 1) ∧ decode cL_pancakeCount 7 = .ok (.lastore, 1) ∧ decode cL_pancakeCount 8 = .ok (.goto 6, 3) ∧ decode cL_pancakeCount 14 = .ok (.iconst 0, 1) ∧ decode cL_pancakeCount 15 = .ok (.ireturn, 1) := by decide +kernel
theorem hw_pancakeCount : eh_ok RL 17 0 mi_X10_pancakeCount ∧ Cond.instanceMethod yX10_pancakeCount ∈ ev_wd ∧ Cond.selects RX10 yX10_pancakeCount yX10_pancakeCount ∈ ev_wd := ⟨⟨hbW0_i 4 rfl, wd_i, hbW0_i 5 rfl, Nat.le_of_ble_eq_true rfl, by decide +kernel⟩, hbW0_i 6 rfl, hbW0_i 7 rfl⟩
theorem hc_pancakeCount_0 : hb_h hy_pancakeCount 11 1 := Or.inl ⟨2, by decide, by decide +kernel, by decide +kernel, by decide +kernel⟩
theorem hE_pancakeCount : ∀ E ∈ [eI], ∃ h j, hb_x hh_pancakeCount 3 E h ∧ hb_h hy_pancakeCount h j ∧ nI (hbi [eI] E) = Int32.ofInt j := by
  intro E hE
  simp only [List.mem_cons, List.not_mem_nil, or_false] at hE
  subst hE
  exact ⟨11, 1, hbx_1 (by decide) (by decide) cl_21, hc_pancakeCount_0, hn_1⟩
theorem hb_pancakeCount (hok : ev_ok sh_S G) (hnc : NCs G) {res' : ev_R} (hT : ev_T sh_S G mi_X10_pancakeCount (.ref 0 :: []) μ res') (hv : (∃ v μ1, res' = .inl (some (.int v), μ1)) ∨ ∃ E μ1, res' = .inr (E, μ1) ∧ E ∈ [eI]) : hb_T G hy_pancakeCount hh_pancakeCount [.ref 0, .ref 310] μ (hbn [eI] res') (hbm res') := by
  obtain ⟨d0, d1, d2⟩ := hd_pancakeCount
  refine HL_T rfl rfl hok (Nat.le_of_ble_eq_true rfl) ?_
  refine HL_al d0 (a := 310) rfl ?_
  refine HL_icv d1 (v := 0) rfl ?_
  refine HL_al d2 (a := 0) rfl ?_
  exact hb_A (As := []) hnc hw_pancakeCount rfl (Nat.lt_succ_self _) (t := 14) he_pancakeCount (by decide) sb_I hE_pancakeCount hT hv
abbrev hy_topicOf : ev_Mi := (yL_topicOf, cL_topicOf, 4, some .int, mi_X10_topicOf.2.2.2.2 + 1)
abbrev hh_topicOf : List (Nat × Nat × Nat × Nat) := [(0, 9, 12, 21), (0, 9, 15, 13)]
theorem hd_topicOf : decode cL_topicOf 0 = .ok (.aload_n 2, 1) ∧ decode cL_topicOf 1 = .ok (.iconst 0, 1) ∧ decode cL_topicOf 2 = .ok (.aload_n 0, 1) ∧ decode cL_topicOf 3 = .ok (.iload_n 1, 1) := by decide +kernel
theorem he_topicOf : decode cL_topicOf 4 = .ok (.invokevirtual 23, 3) ∧ decode cL_topicOf 7 = .ok (.i2l, 1) ∧ decode cL_topicOf 8 = .ok (.lastore, 1) ∧ decode cL_topicOf 9 = .ok (.goto 9, 3) ∧ decode cL_topicOf 18 = .ok (.iconst 0, 1) ∧ decode cL_topicOf 19 = .ok (.ireturn, 1) := by decide +kernel
theorem hw_topicOf : eh_ok RL 23 1 mi_X10_topicOf ∧ Cond.instanceMethod yX10_topicOf ∈ ev_wd ∧ Cond.selects RX10 yX10_topicOf yX10_topicOf ∈ ev_wd := ⟨⟨hbW0_i 8 rfl, wd_i, hbW0_i 9 rfl, Nat.le_of_ble_eq_true rfl, by decide +kernel⟩, hbW0_i 10 rfl, hbW0_i 11 rfl⟩
theorem hc_topicOf_0 : hb_h hy_topicOf 12 1 := Or.inl ⟨3, by decide, by decide +kernel, by decide +kernel, by decide +kernel⟩
theorem hc_topicOf_1 : hb_h hy_topicOf 15 2 := Or.inl ⟨3, by decide, by decide +kernel, by decide +kernel, by decide +kernel⟩
theorem hE_topicOf : ∀ E ∈ [eI, eO], ∃ h j, hb_x hh_topicOf 4 E h ∧ hb_h hy_topicOf h j ∧ nI (hbi [eI, eO] E) = Int32.ofInt j := by
  intro E hE
  simp only [List.mem_cons, List.not_mem_nil, or_false] at hE
  rcases hE with rfl | rfl
  · exact ⟨12, 1, hbx_1 (by decide) (by decide) cl_21, hc_topicOf_0, hn_1⟩
  · exact ⟨15, 2, hbx_2 (by decide) (by decide) cl_13 (by decide) hme_I ne_OI cl_21, hc_topicOf_1, hn_2 ne_OI⟩
theorem hb_topicOf (hok : ev_ok sh_S G) (hnc : NCs G) (a : Int32) {res' : ev_R} (hT : ev_T sh_S G mi_X10_topicOf (.ref 0 :: [.int a]) μ res') (hv : (∃ v μ1, res' = .inl (some (.int v), μ1)) ∨ ∃ E μ1, res' = .inr (E, μ1) ∧ E ∈ [eI, eO]) : hb_T G hy_topicOf hh_topicOf [.ref 0, .int a, .ref 310] μ (hbn [eI, eO] res') (hbm res') := by
  obtain ⟨d0, d1, d2, d3⟩ := hd_topicOf
  refine HL_T rfl rfl hok (Nat.le_of_ble_eq_true rfl) ?_
  refine HL_al d0 (a := 310) rfl ?_
  refine HL_icv d1 (v := 0) rfl ?_
  refine HL_al d2 (a := 0) rfl ?_
  refine HL_il d3 (a := a) rfl ?_
  exact hb_A (As := [.int a]) hnc hw_topicOf rfl (Nat.lt_succ_self _) (t := 18) he_topicOf (by decide) sb_IO hE_topicOf hT hv
abbrev hy_cookCount : ev_Mi := (yL_cookCount, cL_cookCount, 4, some .int, mi_X10_cookCount.2.2.2.2 + 1)
abbrev hh_cookCount : List (Nat × Nat × Nat × Nat) := [(0, 9, 12, 21), (0, 9, 15, 13)]
theorem hd_cookCount : decode cL_cookCount 0 = .ok (.aload_n 2, 1) ∧ decode cL_cookCount 1 = .ok (.iconst 0, 1) ∧ decode cL_cookCount 2 = .ok (.aload_n 0, 1) ∧ decode cL_cookCount 3 = .ok (.iload_n 1, 1) := by decide +kernel
theorem he_cookCount : decode cL_cookCount 4 = .ok (.invokevirtual 26, 3) ∧ decode cL_cookCount 7 = .ok (.i2l, 1) ∧ decode cL_cookCount 8 = .ok (.lastore, 1) ∧ decode cL_cookCount 9 = .ok (.goto 9, 3) ∧ decode cL_cookCount 18 = .ok (.iconst 0, 1) ∧ decode cL_cookCount 19 = .ok (.ireturn, 1) := by decide +kernel
theorem hw_cookCount : eh_ok RL 26 1 mi_X10_cookCount ∧ Cond.instanceMethod yX10_cookCount ∈ ev_wd ∧ Cond.selects RX10 yX10_cookCount yX10_cookCount ∈ ev_wd := ⟨⟨hbW0_i 12 rfl, wd_i, hbW0_i 13 rfl, Nat.le_of_ble_eq_true rfl, by decide +kernel⟩, hbW0_i 14 rfl, hbW0_i 15 rfl⟩
theorem hc_cookCount_0 : hb_h hy_cookCount 12 1 := Or.inl ⟨3, by decide, by decide +kernel, by decide +kernel, by decide +kernel⟩
theorem hc_cookCount_1 : hb_h hy_cookCount 15 2 := Or.inl ⟨3, by decide, by decide +kernel, by decide +kernel, by decide +kernel⟩
theorem hE_cookCount : ∀ E ∈ [eI, eO], ∃ h j, hb_x hh_cookCount 4 E h ∧ hb_h hy_cookCount h j ∧ nI (hbi [eI, eO] E) = Int32.ofInt j := by
  intro E hE
  simp only [List.mem_cons, List.not_mem_nil, or_false] at hE
  rcases hE with rfl | rfl
  · exact ⟨12, 1, hbx_1 (by decide) (by decide) cl_21, hc_cookCount_0, hn_1⟩
  · exact ⟨15, 2, hbx_2 (by decide) (by decide) cl_13 (by decide) hme_I ne_OI cl_21, hc_cookCount_1, hn_2 ne_OI⟩
theorem hb_cookCount (hok : ev_ok sh_S G) (hnc : NCs G) (a : Int32) {res' : ev_R} (hT : ev_T sh_S G mi_X10_cookCount (.ref 0 :: [.int a]) μ res') (hv : (∃ v μ1, res' = .inl (some (.int v), μ1)) ∨ ∃ E μ1, res' = .inr (E, μ1) ∧ E ∈ [eI, eO]) : hb_T G hy_cookCount hh_cookCount [.ref 0, .int a, .ref 310] μ (hbn [eI, eO] res') (hbm res') := by
  obtain ⟨d0, d1, d2, d3⟩ := hd_cookCount
  refine HL_T rfl rfl hok (Nat.le_of_ble_eq_true rfl) ?_
  refine HL_al d0 (a := 310) rfl ?_
  refine HL_icv d1 (v := 0) rfl ?_
  refine HL_al d2 (a := 0) rfl ?_
  refine HL_il d3 (a := a) rfl ?_
  exact hb_A (As := [.int a]) hnc hw_cookCount rfl (Nat.lt_succ_self _) (t := 18) he_cookCount (by decide) sb_IO hE_cookCount hT hv
abbrev hy_cookAt : ev_Mi := (yL_cookAt, cL_cookAt, 5, some .int, mi_X10_cookAt.2.2.2.2 + 1)
abbrev hh_cookAt : List (Nat × Nat × Nat × Nat) := [(0, 10, 13, 21), (0, 10, 17, 13)]
theorem hd_cookAt : decode cL_cookAt 0 = .ok (.aload_n 3, 1) ∧ decode cL_cookAt 1 = .ok (.iconst 0, 1) ∧ decode cL_cookAt 2 = .ok (.aload_n 0, 1) ∧ decode cL_cookAt 3 = .ok (.iload_n 1, 1) ∧ decode cL_cookAt 4 = .ok (.iload_n 2, 1) := by decide +kernel
theorem he_cookAt : decode cL_cookAt 5 = .ok (.invokevirtual 29, 3) ∧ decode cL_cookAt 8 = .ok (.i2l, 1) ∧ decode cL_cookAt 9 = .ok (.lastore, 1) ∧ decode cL_cookAt 10 = .ok (.goto 11, 3) ∧ decode cL_cookAt 21 = .ok (.iconst 0, 1) ∧ decode cL_cookAt 22 = .ok (.ireturn, 1) := by decide +kernel
theorem hw_cookAt : eh_ok RL 29 2 mi_X10_cookAt ∧ Cond.instanceMethod yX10_cookAt ∈ ev_wd ∧ Cond.selects RX10 yX10_cookAt yX10_cookAt ∈ ev_wd := ⟨⟨hbW0_i 16 rfl, wd_i, hbW0_i 17 rfl, Nat.le_of_ble_eq_true rfl, by decide +kernel⟩, hbW0_i 18 rfl, hbW0_i 19 rfl⟩
theorem hc_cookAt_0 : hb_h hy_cookAt 13 1 := Or.inr ⟨4, by decide, by decide +kernel, by decide +kernel, by decide +kernel⟩
theorem hc_cookAt_1 : hb_h hy_cookAt 17 2 := Or.inr ⟨4, by decide, by decide +kernel, by decide +kernel, by decide +kernel⟩
theorem hE_cookAt : ∀ E ∈ [eI, eO], ∃ h j, hb_x hh_cookAt 5 E h ∧ hb_h hy_cookAt h j ∧ nI (hbi [eI, eO] E) = Int32.ofInt j := by
  intro E hE
  simp only [List.mem_cons, List.not_mem_nil, or_false] at hE
  rcases hE with rfl | rfl
  · exact ⟨13, 1, hbx_1 (by decide) (by decide) cl_21, hc_cookAt_0, hn_1⟩
  · exact ⟨17, 2, hbx_2 (by decide) (by decide) cl_13 (by decide) hme_I ne_OI cl_21, hc_cookAt_1, hn_2 ne_OI⟩
theorem hb_cookAt (hok : ev_ok sh_S G) (hnc : NCs G) (a b : Int32) {res' : ev_R} (hT : ev_T sh_S G mi_X10_cookAt (.ref 0 :: [.int a, .int b]) μ res') (hv : (∃ v μ1, res' = .inl (some (.int v), μ1)) ∨ ∃ E μ1, res' = .inr (E, μ1) ∧ E ∈ [eI, eO]) : hb_T G hy_cookAt hh_cookAt [.ref 0, .int a, .int b, .ref 310] μ (hbn [eI, eO] res') (hbm res') := by
  obtain ⟨d0, d1, d2, d3, d4⟩ := hd_cookAt
  refine HL_T rfl rfl hok (Nat.le_of_ble_eq_true rfl) ?_
  refine HL_al d0 (a := 310) rfl ?_
  refine HL_icv d1 (v := 0) rfl ?_
  refine HL_al d2 (a := 0) rfl ?_
  refine HL_il d3 (a := a) rfl ?_
  refine HL_il d4 (a := b) rfl ?_
  exact hb_A (As := [.int a, .int b]) hnc hw_cookAt rfl (Nat.lt_succ_self _) (t := 21) he_cookAt (by decide) sb_IO hE_cookAt hT hv
abbrev hy_personCount : ev_Mi := (yL_personCount, cL_personCount, 3, some .int, mi_X10_personCount.2.2.2.2 + 1)
abbrev hh_personCount : List (Nat × Nat × Nat × Nat) := [(0, 8, 11, 21)]
theorem hd_personCount : decode cL_personCount 0 = .ok (.aload_n 1, 1) ∧ decode cL_personCount 1 = .ok (.iconst 0, 1) ∧ decode cL_personCount 2 = .ok (.aload_n 0, 1) := by decide +kernel
theorem he_personCount : decode cL_personCount 3 = .ok (.invokevirtual 33, 3) ∧ decode cL_personCount 6 = .ok (.i2l, 1) ∧ decode cL_personCount 7 = .ok (.lastore, 1) ∧ decode cL_personCount 8 = .ok (.goto 6, 3) ∧ decode cL_personCount 14 = .ok (.iconst 0, 1) ∧ decode cL_personCount 15 = .ok (.ireturn, 1) := by decide +kernel
theorem hw_personCount : eh_ok RL 33 0 mi_X10_personCount ∧ Cond.instanceMethod yX10_personCount ∈ ev_wd ∧ Cond.selects RX10 yX10_personCount yX10_personCount ∈ ev_wd := ⟨⟨hbW0_i 20 rfl, wd_i, hbW0_i 21 rfl, Nat.le_of_ble_eq_true rfl, by decide +kernel⟩, hbW0_i 22 rfl, hbW0_i 23 rfl⟩
theorem hc_personCount_0 : hb_h hy_personCount 11 1 := Or.inl ⟨2, by decide, by decide +kernel, by decide +kernel, by decide +kernel⟩
theorem hE_personCount : ∀ E ∈ [eI], ∃ h j, hb_x hh_personCount 3 E h ∧ hb_h hy_personCount h j ∧ nI (hbi [eI] E) = Int32.ofInt j := by
  intro E hE
  simp only [List.mem_cons, List.not_mem_nil, or_false] at hE
  subst hE
  exact ⟨11, 1, hbx_1 (by decide) (by decide) cl_21, hc_personCount_0, hn_1⟩
theorem hb_personCount (hok : ev_ok sh_S G) (hnc : NCs G) {res' : ev_R} (hT : ev_T sh_S G mi_X10_personCount (.ref 0 :: []) μ res') (hv : (∃ v μ1, res' = .inl (some (.int v), μ1)) ∨ ∃ E μ1, res' = .inr (E, μ1) ∧ E ∈ [eI]) : hb_T G hy_personCount hh_personCount [.ref 0, .ref 310] μ (hbn [eI] res') (hbm res') := by
  obtain ⟨d0, d1, d2⟩ := hd_personCount
  refine HL_T rfl rfl hok (Nat.le_of_ble_eq_true rfl) ?_
  refine HL_al d0 (a := 310) rfl ?_
  refine HL_icv d1 (v := 0) rfl ?_
  refine HL_al d2 (a := 0) rfl ?_
  exact hb_A (As := []) hnc hw_personCount rfl (Nat.lt_succ_self _) (t := 14) he_personCount (by decide) sb_I hE_personCount hT hv
abbrev hy_nameLetter : ev_Mi := (yL_nameLetter, cL_nameLetter, 5, some .int, mi_X10_nameLetter.2.2.2.2 + 1)
abbrev hh_nameLetter : List (Nat × Nat × Nat × Nat) := [(0, 10, 13, 21), (0, 10, 17, 13)]
theorem hd_nameLetter : decode cL_nameLetter 0 = .ok (.aload_n 3, 1) ∧ decode cL_nameLetter 1 = .ok (.iconst 0, 1) ∧ decode cL_nameLetter 2 = .ok (.aload_n 0, 1) ∧ decode cL_nameLetter 3 = .ok (.iload_n 1, 1) ∧ decode cL_nameLetter 4 = .ok (.iload_n 2, 1) := by decide +kernel
theorem he_nameLetter : decode cL_nameLetter 5 = .ok (.invokevirtual 36, 3) ∧ decode cL_nameLetter 8 = .ok (.i2l, 1) ∧ decode cL_nameLetter 9 = .ok (.lastore, 1) ∧ decode cL_nameLetter 10 = .ok (.goto 11, 3) ∧ decode cL_nameLetter 21 = .ok (.iconst 0, 1) ∧ decode cL_nameLetter 22 = .ok (.ireturn, 1) := by decide +kernel
theorem hw_nameLetter : eh_ok RL 36 2 mi_X10_nameLetter ∧ Cond.instanceMethod yX10_nameLetter ∈ ev_wd ∧ Cond.selects RX10 yX10_nameLetter yX10_nameLetter ∈ ev_wd := ⟨⟨hbW0_i 24 rfl, wd_i, hbW0_i 25 rfl, Nat.le_of_ble_eq_true rfl, by decide +kernel⟩, hbW0_i 26 rfl, hbW0_i 27 rfl⟩
theorem hc_nameLetter_0 : hb_h hy_nameLetter 13 1 := Or.inr ⟨4, by decide, by decide +kernel, by decide +kernel, by decide +kernel⟩
theorem hc_nameLetter_1 : hb_h hy_nameLetter 17 2 := Or.inr ⟨4, by decide, by decide +kernel, by decide +kernel, by decide +kernel⟩
theorem hE_nameLetter : ∀ E ∈ [eI, eO], ∃ h j, hb_x hh_nameLetter 5 E h ∧ hb_h hy_nameLetter h j ∧ nI (hbi [eI, eO] E) = Int32.ofInt j := by
  intro E hE
  simp only [List.mem_cons, List.not_mem_nil, or_false] at hE
  rcases hE with rfl | rfl
  · exact ⟨13, 1, hbx_1 (by decide) (by decide) cl_21, hc_nameLetter_0, hn_1⟩
  · exact ⟨17, 2, hbx_2 (by decide) (by decide) cl_13 (by decide) hme_I ne_OI cl_21, hc_nameLetter_1, hn_2 ne_OI⟩
theorem hb_nameLetter (hok : ev_ok sh_S G) (hnc : NCs G) (a b : Int32) {res' : ev_R} (hT : ev_T sh_S G mi_X10_nameLetter (.ref 0 :: [.int a, .int b]) μ res') (hv : (∃ v μ1, res' = .inl (some (.int v), μ1)) ∨ ∃ E μ1, res' = .inr (E, μ1) ∧ E ∈ [eI, eO]) : hb_T G hy_nameLetter hh_nameLetter [.ref 0, .int a, .int b, .ref 310] μ (hbn [eI, eO] res') (hbm res') := by
  obtain ⟨d0, d1, d2, d3, d4⟩ := hd_nameLetter
  refine HL_T rfl rfl hok (Nat.le_of_ble_eq_true rfl) ?_
  refine HL_al d0 (a := 310) rfl ?_
  refine HL_icv d1 (v := 0) rfl ?_
  refine HL_al d2 (a := 0) rfl ?_
  refine HL_il d3 (a := a) rfl ?_
  refine HL_il d4 (a := b) rfl ?_
  exact hb_A (As := [.int a, .int b]) hnc hw_nameLetter rfl (Nat.lt_succ_self _) (t := 21) he_nameLetter (by decide) sb_IO hE_nameLetter hT hv
abbrev hy_kitchenOf : ev_Mi := (yL_kitchenOf, cL_kitchenOf, 4, some .int, mi_X10_kitchenOf.2.2.2.2 + 1)
abbrev hh_kitchenOf : List (Nat × Nat × Nat × Nat) := [(0, 9, 12, 21), (0, 9, 15, 13)]
theorem hd_kitchenOf : decode cL_kitchenOf 0 = .ok (.aload_n 2, 1) ∧ decode cL_kitchenOf 1 = .ok (.iconst 0, 1) ∧ decode cL_kitchenOf 2 = .ok (.aload_n 0, 1) ∧ decode cL_kitchenOf 3 = .ok (.iload_n 1, 1) := by decide +kernel
theorem he_kitchenOf : decode cL_kitchenOf 4 = .ok (.invokevirtual 39, 3) ∧ decode cL_kitchenOf 7 = .ok (.i2l, 1) ∧ decode cL_kitchenOf 8 = .ok (.lastore, 1) ∧ decode cL_kitchenOf 9 = .ok (.goto 9, 3) ∧ decode cL_kitchenOf 18 = .ok (.iconst 0, 1) ∧ decode cL_kitchenOf 19 = .ok (.ireturn, 1) := by decide +kernel
theorem hw_kitchenOf : eh_ok RL 39 1 mi_X10_kitchenOf ∧ Cond.instanceMethod yX10_kitchenOf ∈ ev_wd ∧ Cond.selects RX10 yX10_kitchenOf yX10_kitchenOf ∈ ev_wd := ⟨⟨hbW0_i 28 rfl, wd_i, hbW0_i 29 rfl, Nat.le_of_ble_eq_true rfl, by decide +kernel⟩, hbW0_i 30 rfl, hbW0_i 31 rfl⟩
theorem hc_kitchenOf_0 : hb_h hy_kitchenOf 12 1 := Or.inl ⟨3, by decide, by decide +kernel, by decide +kernel, by decide +kernel⟩
theorem hc_kitchenOf_1 : hb_h hy_kitchenOf 15 2 := Or.inl ⟨3, by decide, by decide +kernel, by decide +kernel, by decide +kernel⟩
theorem hE_kitchenOf : ∀ E ∈ [eI, eO], ∃ h j, hb_x hh_kitchenOf 4 E h ∧ hb_h hy_kitchenOf h j ∧ nI (hbi [eI, eO] E) = Int32.ofInt j := by
  intro E hE
  simp only [List.mem_cons, List.not_mem_nil, or_false] at hE
  rcases hE with rfl | rfl
  · exact ⟨12, 1, hbx_1 (by decide) (by decide) cl_21, hc_kitchenOf_0, hn_1⟩
  · exact ⟨15, 2, hbx_2 (by decide) (by decide) cl_13 (by decide) hme_I ne_OI cl_21, hc_kitchenOf_1, hn_2 ne_OI⟩
theorem hb_kitchenOf (hok : ev_ok sh_S G) (hnc : NCs G) (a : Int32) {res' : ev_R} (hT : ev_T sh_S G mi_X10_kitchenOf (.ref 0 :: [.int a]) μ res') (hv : (∃ v μ1, res' = .inl (some (.int v), μ1)) ∨ ∃ E μ1, res' = .inr (E, μ1) ∧ E ∈ [eI, eO]) : hb_T G hy_kitchenOf hh_kitchenOf [.ref 0, .int a, .ref 310] μ (hbn [eI, eO] res') (hbm res') := by
  obtain ⟨d0, d1, d2, d3⟩ := hd_kitchenOf
  refine HL_T rfl rfl hok (Nat.le_of_ble_eq_true rfl) ?_
  refine HL_al d0 (a := 310) rfl ?_
  refine HL_icv d1 (v := 0) rfl ?_
  refine HL_al d2 (a := 0) rfl ?_
  refine HL_il d3 (a := a) rfl ?_
  exact hb_A (As := [.int a]) hnc hw_kitchenOf rfl (Nat.lt_succ_self _) (t := 18) he_kitchenOf (by decide) sb_IO hE_kitchenOf hT hv
abbrev hy_isTaster : ev_Mi := (yL_isTaster, cL_isTaster, 4, some .int, mi_X10_isTaster.2.2.2.2 + 1)
abbrev hh_isTaster : List (Nat × Nat × Nat × Nat) := [(0, 16, 19, 21), (0, 16, 22, 13)]
theorem hd_isTaster : decode cL_isTaster 0 = .ok (.aload_n 2, 1) ∧ decode cL_isTaster 1 = .ok (.iconst 0, 1) ∧ decode cL_isTaster 2 = .ok (.aload_n 0, 1) ∧ decode cL_isTaster 3 = .ok (.iload_n 1, 1) := by decide +kernel
theorem he_isTaster : decode cL_isTaster 4 = .ok (.invokevirtual 42, 3) ∧ decode cL_isTaster 7 = .ok (.ifCond .eq 7, 3) ∧ decode cL_isTaster 10 = .ok (.lconst 1, 1) ∧ decode cL_isTaster 11 = .ok (.goto 4, 3) ∧ decode cL_isTaster 14 = .ok (.lconst 0, 1) ∧ decode cL_isTaster 15 = .ok (.lastore, 1) ∧ decode cL_isTaster 16 = .ok (.goto 9, 3) ∧ decode cL_isTaster 25 = .ok (.iconst 0, 1) ∧ decode cL_isTaster 26 = .ok (.ireturn, 1) := by decide +kernel
theorem hw_isTaster : eh_ok RL 42 1 mi_X10_isTaster ∧ Cond.instanceMethod yX10_isTaster ∈ ev_wd ∧ Cond.selects RX10 yX10_isTaster yX10_isTaster ∈ ev_wd := ⟨⟨hbW0_i 32 rfl, wd_i, hbW0_i 33 rfl, Nat.le_of_ble_eq_true rfl, by decide +kernel⟩, hbW0_i 34 rfl, hbW0_i 35 rfl⟩
theorem hc_isTaster_0 : hb_h hy_isTaster 19 1 := Or.inl ⟨3, by decide, by decide +kernel, by decide +kernel, by decide +kernel⟩
theorem hc_isTaster_1 : hb_h hy_isTaster 22 2 := Or.inl ⟨3, by decide, by decide +kernel, by decide +kernel, by decide +kernel⟩
theorem hE_isTaster : ∀ E ∈ [eI, eO], ∃ h j, hb_x hh_isTaster 4 E h ∧ hb_h hy_isTaster h j ∧ nI (hbi [eI, eO] E) = Int32.ofInt j := by
  intro E hE
  simp only [List.mem_cons, List.not_mem_nil, or_false] at hE
  rcases hE with rfl | rfl
  · exact ⟨19, 1, hbx_1 (by decide) (by decide) cl_21, hc_isTaster_0, hn_1⟩
  · exact ⟨22, 2, hbx_2 (by decide) (by decide) cl_13 (by decide) hme_I ne_OI cl_21, hc_isTaster_1, hn_2 ne_OI⟩
theorem hb_isTaster (hok : ev_ok sh_S G) (hnc : NCs G) (a : Int32) {res' : ev_R} (hT : ev_T sh_S G mi_X10_isTaster (.ref 0 :: [.int a]) μ res') (hv : (∃ v μ1, res' = .inl (some (.int v), μ1)) ∨ ∃ E μ1, res' = .inr (E, μ1) ∧ E ∈ [eI, eO]) : hb_T G hy_isTaster hh_isTaster [.ref 0, .int a, .ref 310] μ (hbn [eI, eO] res') (hbz res') := by
  obtain ⟨d0, d1, d2, d3⟩ := hd_isTaster
  refine HL_T rfl rfl hok (Nat.le_of_ble_eq_true rfl) ?_
  refine HL_al d0 (a := 310) rfl ?_
  refine HL_icv d1 (v := 0) rfl ?_
  refine HL_al d2 (a := 0) rfl ?_
  refine HL_il d3 (a := a) rfl ?_
  exact hb_Z (As := [.int a]) hnc hw_isTaster rfl (Nat.lt_succ_self _) (t := 25) he_isTaster (by decide) sb_IO hE_isTaster hT hv
abbrev hy_limitOf : ev_Mi := (yL_limitOf, cL_limitOf, 4, some .int, mi_X10_limitOf.2.2.2.2 + 1)
abbrev hh_limitOf : List (Nat × Nat × Nat × Nat) := [(0, 9, 12, 21), (0, 9, 15, 13)]
theorem hd_limitOf : decode cL_limitOf 0 = .ok (.aload_n 2, 1) ∧ decode cL_limitOf 1 = .ok (.iconst 0, 1) ∧ decode cL_limitOf 2 = .ok (.aload_n 0, 1) ∧ decode cL_limitOf 3 = .ok (.iload_n 1, 1) := by decide +kernel
theorem he_limitOf : decode cL_limitOf 4 = .ok (.invokevirtual 46, 3) ∧ decode cL_limitOf 7 = .ok (.i2l, 1) ∧ decode cL_limitOf 8 = .ok (.lastore, 1) ∧ decode cL_limitOf 9 = .ok (.goto 9, 3) ∧ decode cL_limitOf 18 = .ok (.iconst 0, 1) ∧ decode cL_limitOf 19 = .ok (.ireturn, 1) := by decide +kernel
theorem hw_limitOf : eh_ok RL 46 1 mi_X10_limitOf ∧ Cond.instanceMethod yX10_limitOf ∈ ev_wd ∧ Cond.selects RX10 yX10_limitOf yX10_limitOf ∈ ev_wd := ⟨⟨hbW0_i 36 rfl, wd_i, hbW0_i 37 rfl, Nat.le_of_ble_eq_true rfl, by decide +kernel⟩, hbW0_i 38 rfl, hbW0_i 39 rfl⟩
theorem hc_limitOf_0 : hb_h hy_limitOf 12 1 := Or.inl ⟨3, by decide, by decide +kernel, by decide +kernel, by decide +kernel⟩
theorem hc_limitOf_1 : hb_h hy_limitOf 15 2 := Or.inl ⟨3, by decide, by decide +kernel, by decide +kernel, by decide +kernel⟩
theorem hE_limitOf : ∀ E ∈ [eI, eO], ∃ h j, hb_x hh_limitOf 4 E h ∧ hb_h hy_limitOf h j ∧ nI (hbi [eI, eO] E) = Int32.ofInt j := by
  intro E hE
  simp only [List.mem_cons, List.not_mem_nil, or_false] at hE
  rcases hE with rfl | rfl
  · exact ⟨12, 1, hbx_1 (by decide) (by decide) cl_21, hc_limitOf_0, hn_1⟩
  · exact ⟨15, 2, hbx_2 (by decide) (by decide) cl_13 (by decide) hme_I ne_OI cl_21, hc_limitOf_1, hn_2 ne_OI⟩
theorem hb_limitOf (hok : ev_ok sh_S G) (hnc : NCs G) (a : Int32) {res' : ev_R} (hT : ev_T sh_S G mi_X10_limitOf (.ref 0 :: [.int a]) μ res') (hv : (∃ v μ1, res' = .inl (some (.int v), μ1)) ∨ ∃ E μ1, res' = .inr (E, μ1) ∧ E ∈ [eI, eO]) : hb_T G hy_limitOf hh_limitOf [.ref 0, .int a, .ref 310] μ (hbn [eI, eO] res') (hbm res') := by
  obtain ⟨d0, d1, d2, d3⟩ := hd_limitOf
  refine HL_T rfl rfl hok (Nat.le_of_ble_eq_true rfl) ?_
  refine HL_al d0 (a := 310) rfl ?_
  refine HL_icv d1 (v := 0) rfl ?_
  refine HL_al d2 (a := 0) rfl ?_
  refine HL_il d3 (a := a) rfl ?_
  exact hb_A (As := [.int a]) hnc hw_limitOf rfl (Nat.lt_succ_self _) (t := 18) he_limitOf (by decide) sb_IO hE_limitOf hT hv
abbrev hy_tasteOf : ev_Mi := (yL_tasteOf, cL_tasteOf, 5, some .int, mi_X10_tasteOf.2.2.2.2 + 1)
abbrev hh_tasteOf : List (Nat × Nat × Nat × Nat) := [(0, 10, 13, 21), (0, 10, 17, 13)]
theorem hd_tasteOf : decode cL_tasteOf 0 = .ok (.aload_n 3, 1) ∧ decode cL_tasteOf 1 = .ok (.iconst 0, 1) ∧ decode cL_tasteOf 2 = .ok (.aload_n 0, 1) ∧ decode cL_tasteOf 3 = .ok (.iload_n 1, 1) ∧ decode cL_tasteOf 4 = .ok (.iload_n 2, 1) := by decide +kernel
theorem he_tasteOf : decode cL_tasteOf 5 = .ok (.invokevirtual 49, 3) ∧ decode cL_tasteOf 8 = .ok (.i2l, 1) ∧ decode cL_tasteOf 9 = .ok (.lastore, 1) ∧ decode cL_tasteOf 10 = .ok (.goto 11, 3) ∧ decode cL_tasteOf 21 = .ok (.iconst 0, 1) ∧ decode cL_tasteOf 22 = .ok (.ireturn, 1) := by decide +kernel
theorem hw_tasteOf : eh_ok RL 49 2 mi_X10_tasteOf ∧ Cond.instanceMethod yX10_tasteOf ∈ ev_wd ∧ Cond.selects RX10 yX10_tasteOf yX10_tasteOf ∈ ev_wd := ⟨⟨hbW0_i 40 rfl, wd_i, hbW0_i 41 rfl, Nat.le_of_ble_eq_true rfl, by decide +kernel⟩, hbW0_i 42 rfl, hbW0_i 43 rfl⟩
theorem hc_tasteOf_0 : hb_h hy_tasteOf 13 1 := Or.inr ⟨4, by decide, by decide +kernel, by decide +kernel, by decide +kernel⟩
theorem hc_tasteOf_1 : hb_h hy_tasteOf 17 2 := Or.inr ⟨4, by decide, by decide +kernel, by decide +kernel, by decide +kernel⟩
theorem hE_tasteOf : ∀ E ∈ [eI, eO], ∃ h j, hb_x hh_tasteOf 5 E h ∧ hb_h hy_tasteOf h j ∧ nI (hbi [eI, eO] E) = Int32.ofInt j := by
  intro E hE
  simp only [List.mem_cons, List.not_mem_nil, or_false] at hE
  rcases hE with rfl | rfl
  · exact ⟨13, 1, hbx_1 (by decide) (by decide) cl_21, hc_tasteOf_0, hn_1⟩
  · exact ⟨17, 2, hbx_2 (by decide) (by decide) cl_13 (by decide) hme_I ne_OI cl_21, hc_tasteOf_1, hn_2 ne_OI⟩
theorem hb_tasteOf (hok : ev_ok sh_S G) (hnc : NCs G) (a b : Int32) {res' : ev_R} (hT : ev_T sh_S G mi_X10_tasteOf (.ref 0 :: [.int a, .int b]) μ res') (hv : (∃ v μ1, res' = .inl (some (.int v), μ1)) ∨ ∃ E μ1, res' = .inr (E, μ1) ∧ E ∈ [eI, eO]) : hb_T G hy_tasteOf hh_tasteOf [.ref 0, .int a, .int b, .ref 310] μ (hbn [eI, eO] res') (hbm res') := by
  obtain ⟨d0, d1, d2, d3, d4⟩ := hd_tasteOf
  refine HL_T rfl rfl hok (Nat.le_of_ble_eq_true rfl) ?_
  refine HL_al d0 (a := 310) rfl ?_
  refine HL_icv d1 (v := 0) rfl ?_
  refine HL_al d2 (a := 0) rfl ?_
  refine HL_il d3 (a := a) rfl ?_
  refine HL_il d4 (a := b) rfl ?_
  exact hb_A (As := [.int a, .int b]) hnc hw_tasteOf rfl (Nat.lt_succ_self _) (t := 21) he_tasteOf (by decide) sb_IO hE_tasteOf hT hv
abbrev hy_bidOf : ev_Mi := (yL_bidOf, cL_bidOf, 5, some .int, mi_X10_bidOf.2.2.2.2 + 1)
abbrev hh_bidOf : List (Nat × Nat × Nat × Nat) := [(0, 10, 13, 21), (0, 10, 17, 13)]
theorem hd_bidOf : decode cL_bidOf 0 = .ok (.aload_n 3, 1) ∧ decode cL_bidOf 1 = .ok (.iconst 0, 1) ∧ decode cL_bidOf 2 = .ok (.aload_n 0, 1) ∧ decode cL_bidOf 3 = .ok (.iload_n 1, 1) ∧ decode cL_bidOf 4 = .ok (.iload_n 2, 1) := by decide +kernel
theorem he_bidOf : decode cL_bidOf 5 = .ok (.invokevirtual 52, 3) ∧ decode cL_bidOf 8 = .ok (.i2l, 1) ∧ decode cL_bidOf 9 = .ok (.lastore, 1) ∧ decode cL_bidOf 10 = .ok (.goto 11, 3) ∧ decode cL_bidOf 21 = .ok (.iconst 0, 1) ∧ decode cL_bidOf 22 = .ok (.ireturn, 1) := by decide +kernel
theorem hw_bidOf : eh_ok RL 52 2 mi_X10_bidOf ∧ Cond.instanceMethod yX10_bidOf ∈ ev_wd ∧ Cond.selects RX10 yX10_bidOf yX10_bidOf ∈ ev_wd := ⟨⟨hbW0_i 44 rfl, wd_i, hbW0_i 45 rfl, Nat.le_of_ble_eq_true rfl, by decide +kernel⟩, hbW0_i 46 rfl, hbW0_i 47 rfl⟩
theorem hc_bidOf_0 : hb_h hy_bidOf 13 1 := Or.inr ⟨4, by decide, by decide +kernel, by decide +kernel, by decide +kernel⟩
theorem hc_bidOf_1 : hb_h hy_bidOf 17 2 := Or.inr ⟨4, by decide, by decide +kernel, by decide +kernel, by decide +kernel⟩
theorem hE_bidOf : ∀ E ∈ [eI, eO], ∃ h j, hb_x hh_bidOf 5 E h ∧ hb_h hy_bidOf h j ∧ nI (hbi [eI, eO] E) = Int32.ofInt j := by
  intro E hE
  simp only [List.mem_cons, List.not_mem_nil, or_false] at hE
  rcases hE with rfl | rfl
  · exact ⟨13, 1, hbx_1 (by decide) (by decide) cl_21, hc_bidOf_0, hn_1⟩
  · exact ⟨17, 2, hbx_2 (by decide) (by decide) cl_13 (by decide) hme_I ne_OI cl_21, hc_bidOf_1, hn_2 ne_OI⟩
theorem hb_bidOf (hok : ev_ok sh_S G) (hnc : NCs G) (a b : Int32) {res' : ev_R} (hT : ev_T sh_S G mi_X10_bidOf (.ref 0 :: [.int a, .int b]) μ res') (hv : (∃ v μ1, res' = .inl (some (.int v), μ1)) ∨ ∃ E μ1, res' = .inr (E, μ1) ∧ E ∈ [eI, eO]) : hb_T G hy_bidOf hh_bidOf [.ref 0, .int a, .int b, .ref 310] μ (hbn [eI, eO] res') (hbm res') := by
  obtain ⟨d0, d1, d2, d3, d4⟩ := hd_bidOf
  refine HL_T rfl rfl hok (Nat.le_of_ble_eq_true rfl) ?_
  refine HL_al d0 (a := 310) rfl ?_
  refine HL_icv d1 (v := 0) rfl ?_
  refine HL_al d2 (a := 0) rfl ?_
  refine HL_il d3 (a := a) rfl ?_
  refine HL_il d4 (a := b) rfl ?_
  exact hb_A (As := [.int a, .int b]) hnc hw_bidOf rfl (Nat.lt_succ_self _) (t := 21) he_bidOf (by decide) sb_IO hE_bidOf hT hv
abbrev hy_preference : ev_Mi := (yL_preference, cL_preference, 5, some .int, mi_X10_preference.2.2.2.2 + 1)
abbrev hh_preference : List (Nat × Nat × Nat × Nat) := [(0, 10, 13, 21), (0, 10, 17, 13)]
theorem hd_preference : decode cL_preference 0 = .ok (.aload_n 3, 1) ∧ decode cL_preference 1 = .ok (.iconst 0, 1) ∧ decode cL_preference 2 = .ok (.aload_n 0, 1) ∧ decode cL_preference 3 = .ok (.iload_n 1, 1) ∧ decode cL_preference 4 = .ok (.iload_n 2, 1) := by decide +kernel
theorem he_preference : decode cL_preference 5 = .ok (.invokevirtual 55, 3) ∧ decode cL_preference 8 = .ok (.i2l, 1) ∧ decode cL_preference 9 = .ok (.lastore, 1) ∧ decode cL_preference 10 = .ok (.goto 11, 3) ∧ decode cL_preference 21 = .ok (.iconst 0, 1) ∧ decode cL_preference 22 = .ok (.ireturn, 1) := by decide +kernel
theorem hw_preference : eh_ok RL 55 2 mi_X10_preference ∧ Cond.instanceMethod yX10_preference ∈ ev_wd ∧ Cond.selects RX10 yX10_preference yX10_preference ∈ ev_wd := ⟨⟨hbW0_i 48 rfl, wd_i, hbW0_i 49 rfl, Nat.le_of_ble_eq_true rfl, by decide +kernel⟩, hbW0_i 50 rfl, hbW0_i 51 rfl⟩
theorem hc_preference_0 : hb_h hy_preference 13 1 := Or.inr ⟨4, by decide, by decide +kernel, by decide +kernel, by decide +kernel⟩
theorem hc_preference_1 : hb_h hy_preference 17 2 := Or.inr ⟨4, by decide, by decide +kernel, by decide +kernel, by decide +kernel⟩
theorem hE_preference : ∀ E ∈ [eI, eO], ∃ h j, hb_x hh_preference 5 E h ∧ hb_h hy_preference h j ∧ nI (hbi [eI, eO] E) = Int32.ofInt j := by
  intro E hE
  simp only [List.mem_cons, List.not_mem_nil, or_false] at hE
  rcases hE with rfl | rfl
  · exact ⟨13, 1, hbx_1 (by decide) (by decide) cl_21, hc_preference_0, hn_1⟩
  · exact ⟨17, 2, hbx_2 (by decide) (by decide) cl_13 (by decide) hme_I ne_OI cl_21, hc_preference_1, hn_2 ne_OI⟩
theorem hb_preference (hok : ev_ok sh_S G) (hnc : NCs G) (a b : Int32) {res' : ev_R} (hT : ev_T sh_S G mi_X10_preference (.ref 0 :: [.int a, .int b]) μ res') (hv : (∃ v μ1, res' = .inl (some (.int v), μ1)) ∨ ∃ E μ1, res' = .inr (E, μ1) ∧ E ∈ [eI, eO]) : hb_T G hy_preference hh_preference [.ref 0, .int a, .int b, .ref 310] μ (hbn [eI, eO] res') (hbm res') := by
  obtain ⟨d0, d1, d2, d3, d4⟩ := hd_preference
  refine HL_T rfl rfl hok (Nat.le_of_ble_eq_true rfl) ?_
  refine HL_al d0 (a := 310) rfl ?_
  refine HL_icv d1 (v := 0) rfl ?_
  refine HL_al d2 (a := 0) rfl ?_
  refine HL_il d3 (a := a) rfl ?_
  refine HL_il d4 (a := b) rfl ?_
  exact hb_A (As := [.int a, .int b]) hnc hw_preference rfl (Nat.lt_succ_self _) (t := 21) he_preference (by decide) sb_IO hE_preference hT hv
abbrev hy_conflict : ev_Mi := (yL_conflict, cL_conflict, 5, some .int, mi_X10_conflict.2.2.2.2 + 1)
abbrev hh_conflict : List (Nat × Nat × Nat × Nat) := [(0, 10, 13, 21), (0, 10, 17, 13)]
theorem hd_conflict : decode cL_conflict 0 = .ok (.aload_n 3, 1) ∧ decode cL_conflict 1 = .ok (.iconst 0, 1) ∧ decode cL_conflict 2 = .ok (.aload_n 0, 1) ∧ decode cL_conflict 3 = .ok (.iload_n 1, 1) ∧ decode cL_conflict 4 = .ok (.iload_n 2, 1) := by decide +kernel
theorem he_conflict : decode cL_conflict 5 = .ok (.invokevirtual 58, 3) ∧ decode cL_conflict 8 = .ok (.i2l, 1) ∧ decode cL_conflict 9 = .ok (.lastore, 1) ∧ decode cL_conflict 10 = .ok (.goto 11, 3) ∧ decode cL_conflict 21 = .ok (.iconst 0, 1) ∧ decode cL_conflict 22 = .ok (.ireturn, 1) := by decide +kernel
theorem hw_conflict : eh_ok RL 58 2 mi_X10_conflict ∧ Cond.instanceMethod yX10_conflict ∈ ev_wd ∧ Cond.selects RX10 yX10_conflict yX10_conflict ∈ ev_wd := ⟨⟨hbW0_i 52 rfl, wd_i, hbW0_i 53 rfl, Nat.le_of_ble_eq_true rfl, by decide +kernel⟩, hbW0_i 54 rfl, hbW0_i 55 rfl⟩
theorem hc_conflict_0 : hb_h hy_conflict 13 1 := Or.inr ⟨4, by decide, by decide +kernel, by decide +kernel, by decide +kernel⟩
theorem hc_conflict_1 : hb_h hy_conflict 17 2 := Or.inr ⟨4, by decide, by decide +kernel, by decide +kernel, by decide +kernel⟩
theorem hE_conflict : ∀ E ∈ [eI, eO], ∃ h j, hb_x hh_conflict 5 E h ∧ hb_h hy_conflict h j ∧ nI (hbi [eI, eO] E) = Int32.ofInt j := by
  intro E hE
  simp only [List.mem_cons, List.not_mem_nil, or_false] at hE
  rcases hE with rfl | rfl
  · exact ⟨13, 1, hbx_1 (by decide) (by decide) cl_21, hc_conflict_0, hn_1⟩
  · exact ⟨17, 2, hbx_2 (by decide) (by decide) cl_13 (by decide) hme_I ne_OI cl_21, hc_conflict_1, hn_2 ne_OI⟩
theorem hb_conflict (hok : ev_ok sh_S G) (hnc : NCs G) (a b : Int32) {res' : ev_R} (hT : ev_T sh_S G mi_X10_conflict (.ref 0 :: [.int a, .int b]) μ res') (hv : (∃ v μ1, res' = .inl (some (.int v), μ1)) ∨ ∃ E μ1, res' = .inr (E, μ1) ∧ E ∈ [eI, eO]) : hb_T G hy_conflict hh_conflict [.ref 0, .int a, .int b, .ref 310] μ (hbn [eI, eO] res') (hbm res') := by
  obtain ⟨d0, d1, d2, d3, d4⟩ := hd_conflict
  refine HL_T rfl rfl hok (Nat.le_of_ble_eq_true rfl) ?_
  refine HL_al d0 (a := 310) rfl ?_
  refine HL_icv d1 (v := 0) rfl ?_
  refine HL_al d2 (a := 0) rfl ?_
  refine HL_il d3 (a := a) rfl ?_
  refine HL_il d4 (a := b) rfl ?_
  exact hb_A (As := [.int a, .int b]) hnc hw_conflict rfl (Nat.lt_succ_self _) (t := 21) he_conflict (by decide) sb_IO hE_conflict hT hv
end Hbs
