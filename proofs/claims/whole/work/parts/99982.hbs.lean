/-! ===== the law's helpers, one by one (by program, wip/whole/genhb.py) ===== -/
section Hbs
variable {G : ev_G} {μ μ1 μ' : ev_M}
variable {y : ev_Mi} {hh : List (Nat × Nat × Nat × Nat)} {pc : Nat} {l : List (Nat × Value)} {st : List Value} {x : Int32}
/-- the number of what was thrown, in a helper's list -/
def hbi : List String → String → Nat
  | [], _ => 0
  | a :: l, E => if E = a then 1 else hbi l E + 1
def hbn (L : List String) : ev_R → Int32
  | .inl _ => 0
  | .inr (E, _) => nI (hbi L E)
/-- the answer goes into the law's row -/
def ou0 (μ : ev_M) (v : Int64) : ev_M := (μ.1, ev_up μ.2.1 310 0 v, μ.2.2)
def hbm : ev_R → ev_M
  | .inl (some (.int v), μ) => ou0 μ v.toInt64
  | .inl (_, μ) => μ
  | .inr (_, μ) => μ
/-- of a truth value -/
def hbz : ev_R → ev_M
  | .inl (some (.int v), μ) => ou0 μ (if v = 0 then 0 else 1)
  | .inl (_, μ) => μ
  | .inr (_, μ) => μ
theorem wd_t {w : Cond} (h : w ∈ tables_1) (hg : ev_gw w = true) : w ∈ ev_wd := List.mem_filter.mpr ⟨List.mem_append_right _ h, hg⟩
theorem wd_i : Cond.initialized RX10 ∈ ev_wd := wd_t (by decide +kernel) (by decide +kernel)
theorem cl_21 : Cond.classLink RL 21 eI ∈ ev_wd := by decide +kernel
theorem cl_13 : Cond.classLink RL 13 eO ∈ ev_wd := by decide +kernel
theorem cl_15 : Cond.classLink RL 15 eA ∈ ev_wd := by decide +kernel
theorem hb_rec {p : Program} {R : Room} {s : State} {m : MethodId} {meth : Method} {c : Code} (hB : hb_B G p R s m meth c y hh) {H : Heap} (hP : va_P G.2.2.1 vwCl (ev_ws sh_S G μ) H) : ∃ cell : Cell, H[G.2.1 0]? = some cell ∧ cell.vm.isStatics = false ∧ s.vm.findClass RX10 = some cell.cls := by
  have hc : ∃ T N, vwCl[8]? = some (RX10, T, N) := ⟨_, _, rfl⟩
  obtain ⟨T, N, hc⟩ := hc
  exact va_recv (hb_K hB) hP (q0 := 0) hc (by rw [ev_ws_at (show 0 < ev_nc sh_S by decide +kernel), ev_E_obj sk_0 (by decide)])
theorem HL_icv {n : Int} {v : Int32} (hd : decode y.2.1 pc = .ok (.iconst n, 1)) (hv : Int32.ofInt n = v) (h : HL G y hh (pc + 1) l (.int v :: st) μ x μ') : HL G y hh pc l st μ x μ' := by
  subst hv
  exact HL_ic hd h
/-- the rest of a helper behind its call -/
theorem hb_A (hnc : NCs G) {P n na : Nat} {yc : ev_Mi} (hw : eh_ok RL n na yc ∧ Cond.instanceMethod yc.1 ∈ ev_wd ∧ Cond.selects RX10 yc.1 yc.1 ∈ ev_wd) {As : List Value} (hlen : As.length = na) (hdp : yc.2.2.2.2 < y.2.2.2.2) {off : Int} {t : Nat} (hd : decode y.2.1 P = .ok (.invokevirtual n, 3) ∧ decode y.2.1 (P + 3) = .ok (.i2l, 1) ∧ decode y.2.1 (P + 3 + 1) = .ok (.lastore, 1) ∧ decode y.2.1 (P + 3 + 1 + 1) = .ok (.goto off, 3) ∧ decode y.2.1 t = .ok (.iconst 0, 1) ∧ decode y.2.1 (t + 1) = .ok (.ireturn, 1)) (ht : ((P + 3 + 1 + 1 : Nat) : Int) + off = (t : Int)) {L : List String} (hL : ∀ E ∈ L, E ∈ [eI, eO, eA]) (hE : ∀ E ∈ L, ∃ h j, hb_x hh P E h ∧ hb_h y h j ∧ nI (hbi L E) = Int32.ofInt j) {res' : ev_R} (hT : ev_T sh_S G yc (.ref 0 :: As) μ res') (hv : (∃ v μ1, res' = .inl (some (.int v), μ1)) ∨ ∃ E μ1, res' = .inr (E, μ1) ∧ E ∈ L) : HL G y hh P l (As.reverse ++ .ref 0 :: [.int 0, .ref 310]) μ (hbn L res') (hbm res') := by
  obtain ⟨d1, d2, d3, d4, d5, d6⟩ := hd
  refine HL_call hnc hw.1 hw.2.1 hw.2.2 (show 0 < ev_nc sh_S by decide +kernel) (fun p R s m meth c hB H hP => hb_rec hB hP) hlen (by decide) hdp hT d1 (fun v μ1 q => ?_) (fun E μ1 q => ?_)
  · subst q
    rcases hv with ⟨v1, μ2, q2⟩ | ⟨E, μ2, q2, -⟩
    · cases q2
      exact HL_i2l d2 (HL_ls d3 (HL_gt d4 ht (HL_icv d5 rfl (HL_ret d6))))
    · cases q2
  · subst q
    rcases hv with ⟨v1, μ2, q2⟩ | ⟨E, μ2, q2, q3⟩
    · cases q2
    · cases q2
      exact ⟨hL _ q3, rfl, hE _ q3⟩
theorem hb_Z (hnc : NCs G) {P n na : Nat} {yc : ev_Mi} (hw : eh_ok RL n na yc ∧ Cond.instanceMethod yc.1 ∈ ev_wd ∧ Cond.selects RX10 yc.1 yc.1 ∈ ev_wd) {As : List Value} (hlen : As.length = na) (hdp : yc.2.2.2.2 < y.2.2.2.2) {off : Int} {t : Nat} (hd : decode y.2.1 P = .ok (.invokevirtual n, 3) ∧ decode y.2.1 (P + 3) = .ok (.ifCond .eq 7, 3) ∧ decode y.2.1 (P + 6) = .ok (.lconst 1, 1) ∧ decode y.2.1 (P + 7) = .ok (.goto 4, 3) ∧ decode y.2.1 (P + 10) = .ok (.lconst 0, 1) ∧ decode y.2.1 (P + 11) = .ok (.lastore, 1) ∧ decode y.2.1 (P + 12) = .ok (.goto off, 3) ∧ decode y.2.1 t = .ok (.iconst 0, 1) ∧ decode y.2.1 (t + 1) = .ok (.ireturn, 1)) (ht : ((P + 12 : Nat) : Int) + off = (t : Int)) {L : List String} (hL : ∀ E ∈ L, E ∈ [eI, eO, eA]) (hE : ∀ E ∈ L, ∃ h j, hb_x hh P E h ∧ hb_h y h j ∧ nI (hbi L E) = Int32.ofInt j) {res' : ev_R} (hT : ev_T sh_S G yc (.ref 0 :: As) μ res') (hv : (∃ v μ1, res' = .inl (some (.int v), μ1)) ∨ ∃ E μ1, res' = .inr (E, μ1) ∧ E ∈ L) : HL G y hh P l (As.reverse ++ .ref 0 :: [.int 0, .ref 310]) μ (hbn L res') (hbz res') := by
  obtain ⟨d1, d2, d3, d4, d5, d6, d7, d8, d9⟩ := hd
  refine HL_call hnc hw.1 hw.2.1 hw.2.2 (show 0 < ev_nc sh_S by decide +kernel) (fun p R s m meth c hB H hP => hb_rec hB hP) hlen (by decide) hdp hT d1 (fun v μ1 q => ?_) (fun E μ1 q => ?_)
  · subst q
    rcases hv with ⟨v1, μ2, q2⟩ | ⟨E, μ2, q2, -⟩
    · cases q2
      refine HL_ie (t := P + 10) d2 (by omega) (fun z => ?_) (fun z => ?_)
      · have e : hbz (.inl (some (.int v1), μ1)) = ou0 μ1 0 := by
          show ou0 μ1 (if v1 = 0 then 0 else 1) = _
          rw [if_pos z]
        rw [e]
        exact HL_lc d5 (HL_ls d6 (HL_gt d7 ht (HL_icv d8 rfl (HL_ret d9))))
      · have e : hbz (.inl (some (.int v1), μ1)) = ou0 μ1 1 := by
          show ou0 μ1 (if v1 = 0 then 0 else 1) = _
          rw [if_neg z]
        rw [e]
        exact HL_lc d3 (HL_gt (t := P + 11) d4 (by omega) (HL_ls d6 (HL_gt d7 ht (HL_icv d8 rfl (HL_ret d9)))))
    · cases q2
  · subst q
    rcases hv with ⟨v1, μ2, q2⟩ | ⟨E, μ2, q2, q3⟩
    · cases q2
    · cases q2
      exact ⟨hL _ q3, rfl, hE _ q3⟩
theorem hbx_1 {a b h k : Nat} {E : String} {suf : List (Nat × Nat × Nat × Nat)} (h1 : covers ⟨a, b, h, k⟩ pc = true) (h2 : k ≠ 0) (h3 : Cond.classLink RL k E ∈ ev_wd) : hb_x ((a, b, h, k) :: suf) pc E h := ⟨[], suf, (a, b, h, k), rfl, rfl, h1, h2, h3, fun w hw => absurd hw List.not_mem_nil⟩
theorem hbx_2 {a b h k a1 b1 h1 k1 : Nat} {E E1 : String} {suf : List (Nat × Nat × Nat × Nat)} (g1 : covers ⟨a, b, h, k⟩ pc = true) (g2 : k ≠ 0) (g3 : Cond.classLink RL k E ∈ ev_wd) (g4 : k1 ≠ 0) (g5 : E1 ∈ [eI, eO, eA]) (g6 : E ≠ E1) (g7 : Cond.classLink RL k1 E1 ∈ ev_wd) : hb_x ((a1, b1, h1, k1) :: (a, b, h, k) :: suf) pc E h := ⟨[(a1, b1, h1, k1)], suf, (a, b, h, k), rfl, rfl, g1, g2, g3, fun w hw => by rw [List.mem_singleton.mp hw]; exact ⟨g4, E1, g5, g6, g7⟩⟩
theorem hbx_3 {a b h k a1 b1 h1 k1 a2 b2 h2 k2 : Nat} {E E1 E2 : String} {suf : List (Nat × Nat × Nat × Nat)} (g1 : covers ⟨a, b, h, k⟩ pc = true) (g2 : k ≠ 0) (g3 : Cond.classLink RL k E ∈ ev_wd) (g4 : k1 ≠ 0) (g5 : E1 ∈ [eI, eO, eA]) (g6 : E ≠ E1) (g7 : Cond.classLink RL k1 E1 ∈ ev_wd) (f4 : k2 ≠ 0) (f5 : E2 ∈ [eI, eO, eA]) (f6 : E ≠ E2) (f7 : Cond.classLink RL k2 E2 ∈ ev_wd) : hb_x ((a1, b1, h1, k1) :: (a2, b2, h2, k2) :: (a, b, h, k) :: suf) pc E h := ⟨[(a1, b1, h1, k1), (a2, b2, h2, k2)], suf, (a, b, h, k), rfl, rfl, g1, g2, g3, fun w hw => by
  rcases List.mem_cons.mp hw with rfl | hw
  · exact ⟨g4, E1, g5, g6, g7⟩
  · rw [List.mem_singleton.mp hw]; exact ⟨f4, E2, f5, f6, f7⟩⟩
theorem ne_OI : eO ≠ eI := by decide +kernel
theorem ne_IO : eI ≠ eO := by decide +kernel
theorem ne_AI : eA ≠ eI := by decide +kernel
theorem ne_AO : eA ≠ eO := by decide +kernel
theorem hn_1 {l : List String} {E : String} : nI (hbi (E :: l) E) = Int32.ofInt 1 := by
  show nI (if E = E then 1 else _) = _
  rw [if_pos rfl]
  rfl
theorem hn_2 {l : List String} {E F : String} (h : F ≠ E) : nI (hbi (E :: F :: l) F) = Int32.ofInt 2 := by
  show nI (if F = E then 1 else (if F = F then 1 else _) + 1) = _
  rw [if_neg h, if_pos rfl]
  rfl
theorem hn_3 {l : List String} {E F K : String} (h : K ≠ E) (h2 : K ≠ F) : nI (hbi (E :: F :: K :: l) K) = Int32.ofInt 3 := by
  show nI (if K = E then 1 else (if K = F then 1 else (if K = K then 1 else _) + 1) + 1) = _
  rw [if_neg h, if_neg h2, if_pos rfl]
  rfl
theorem sb_I : ∀ E ∈ [eI], E ∈ [eI, eO, eA] := by decide +kernel
theorem sb_O : ∀ E ∈ [eO], E ∈ [eI, eO, eA] := by decide +kernel
theorem sb_IO : ∀ E ∈ [eI, eO], E ∈ [eI, eO, eA] := by decide +kernel
theorem sb_OI : ∀ E ∈ [eO, eI], E ∈ [eI, eO, eA] := by decide +kernel
theorem sb_OA : ∀ E ∈ [eO, eA], E ∈ [eI, eO, eA] := by decide +kernel
theorem sb_IOA : ∀ E ∈ [eI, eO, eA], E ∈ [eI, eO, eA] := fun _ h => h
theorem hme_I : eI ∈ [eI, eO, eA] := by decide +kernel
theorem hme_O : eO ∈ [eI, eO, eA] := by decide +kernel
theorem hme_A : eA ∈ [eI, eO, eA] := by decide +kernel

abbrev hy_topicOf : ev_Mi := (yL_topicOf, cL_topicOf, 4, some .int, mi_X10_topicOf.2.2.2.2 + 1)
abbrev hh_topicOf : List (Nat × Nat × Nat × Nat) := [(0, 9, 12, 21), (0, 9, 15, 13)]
theorem hd_topicOf : decode cL_topicOf 0 = .ok (.aload_n 2, 1) ∧ decode cL_topicOf 1 = .ok (.iconst 0, 1) ∧ decode cL_topicOf 2 = .ok (.aload_n 0, 1) ∧ decode cL_topicOf 3 = .ok (.iload_n 1, 1) := by decide +kernel
theorem he_topicOf : decode cL_topicOf 4 = .ok (.invokevirtual 23, 3) ∧ decode cL_topicOf 7 = .ok (.i2l, 1) ∧ decode cL_topicOf 8 = .ok (.lastore, 1) ∧ decode cL_topicOf 9 = .ok (.goto 9, 3) ∧ decode cL_topicOf 18 = .ok (.iconst 0, 1) ∧ decode cL_topicOf 19 = .ok (.ireturn, 1) := by decide +kernel
theorem hw_topicOf : eh_ok RL 23 1 mi_X10_topicOf ∧ Cond.instanceMethod yX10_topicOf ∈ ev_wd ∧ Cond.selects RX10 yX10_topicOf yX10_topicOf ∈ ev_wd := ⟨⟨wd_t (by decide +kernel) (by decide +kernel), wd_i, wd_t (by decide +kernel) (by decide +kernel), by decide +kernel, by decide +kernel⟩, wd_t (by decide +kernel) (by decide +kernel), wd_t (by decide +kernel) (by decide +kernel)⟩
theorem hc_topicOf_0 : hb_h hy_topicOf 12 1 := Or.inl ⟨3, by decide, by decide +kernel, by decide +kernel, by decide +kernel⟩
theorem hc_topicOf_1 : hb_h hy_topicOf 15 2 := Or.inl ⟨3, by decide, by decide +kernel, by decide +kernel, by decide +kernel⟩
theorem hE_topicOf : ∀ E ∈ [eI, eO], ∃ h j, hb_x hh_topicOf 4 E h ∧ hb_h hy_topicOf h j ∧ nI (hbi [eI, eO] E) = Int32.ofInt j := by
  intro E hE
  simp only [List.mem_cons, List.not_mem_nil, or_false] at hE
  rcases hE with rfl | rfl
  · exact ⟨12, 1, hbx_1 (by decide) (by decide) cl_21, hc_topicOf_0, hn_1⟩
  · exact ⟨15, 2, hbx_2 (by decide) (by decide) cl_13 (by decide) hme_I ne_OI cl_21, hc_topicOf_1, hn_2 ne_OI⟩
theorem hb_topicOf (hok : ev_ok sh_S G) (hnc : NCs G) (a : Int32) {res' : ev_R} (hT : ev_T sh_S G mi_X10_topicOf (.ref 0 :: [.int a]) μ res') (hv : (∃ v μ1, res' = .inl (some (.int v), μ1)) ∨ ∃ E μ1, res' = .inr (E, μ1) ∧ E ∈ [eI, eO]) : hb_T G hy_topicOf hh_topicOf [.ref 0, .int a, .ref 310] μ (hbn [eI, eO] res') (hbm res') := by
  obtain ⟨d0, d1, d2, d3⟩ := hd_topicOf
  refine HL_T rfl rfl hok (Nat.le_of_ble_eq_true rfl) ?_
  refine HL_al d0 (a := 310) rfl ?_
  refine HL_icv d1 (v := 0) rfl ?_
  refine HL_al d2 (a := 0) rfl ?_
  refine HL_il d3 (a := a) rfl ?_
  exact hb_A (As := [.int a]) hnc hw_topicOf rfl (Nat.lt_succ_self _) (t := 18) he_topicOf (by decide) sb_IO hE_topicOf hT hv
abbrev hy_isTaster : ev_Mi := (yL_isTaster, cL_isTaster, 4, some .int, mi_X10_isTaster.2.2.2.2 + 1)
abbrev hh_isTaster : List (Nat × Nat × Nat × Nat) := [(0, 16, 19, 21), (0, 16, 22, 13)]
theorem hd_isTaster : decode cL_isTaster 0 = .ok (.aload_n 2, 1) ∧ decode cL_isTaster 1 = .ok (.iconst 0, 1) ∧ decode cL_isTaster 2 = .ok (.aload_n 0, 1) ∧ decode cL_isTaster 3 = .ok (.iload_n 1, 1) := by decide +kernel
theorem he_isTaster : decode cL_isTaster 4 = .ok (.invokevirtual 42, 3) ∧ decode cL_isTaster 7 = .ok (.ifCond .eq 7, 3) ∧ decode cL_isTaster 10 = .ok (.lconst 1, 1) ∧ decode cL_isTaster 11 = .ok (.goto 4, 3) ∧ decode cL_isTaster 14 = .ok (.lconst 0, 1) ∧ decode cL_isTaster 15 = .ok (.lastore, 1) ∧ decode cL_isTaster 16 = .ok (.goto 9, 3) ∧ decode cL_isTaster 25 = .ok (.iconst 0, 1) ∧ decode cL_isTaster 26 = .ok (.ireturn, 1) := by decide +kernel
theorem hw_isTaster : eh_ok RL 42 1 mi_X10_isTaster ∧ Cond.instanceMethod yX10_isTaster ∈ ev_wd ∧ Cond.selects RX10 yX10_isTaster yX10_isTaster ∈ ev_wd := ⟨⟨wd_t (by decide +kernel) (by decide +kernel), wd_i, wd_t (by decide +kernel) (by decide +kernel), by decide +kernel, by decide +kernel⟩, wd_t (by decide +kernel) (by decide +kernel), wd_t (by decide +kernel) (by decide +kernel)⟩
theorem hc_isTaster_0 : hb_h hy_isTaster 19 1 := Or.inl ⟨3, by decide, by decide +kernel, by decide +kernel, by decide +kernel⟩
theorem hc_isTaster_1 : hb_h hy_isTaster 22 2 := Or.inl ⟨3, by decide, by decide +kernel, by decide +kernel, by decide +kernel⟩
theorem hE_isTaster : ∀ E ∈ [eI, eO], ∃ h j, hb_x hh_isTaster 4 E h ∧ hb_h hy_isTaster h j ∧ nI (hbi [eI, eO] E) = Int32.ofInt j := by
  intro E hE
  simp only [List.mem_cons, List.not_mem_nil, or_false] at hE
  rcases hE with rfl | rfl
  · exact ⟨19, 1, hbx_1 (by decide) (by decide) cl_21, hc_isTaster_0, hn_1⟩
  · exact ⟨22, 2, hbx_2 (by decide) (by decide) cl_13 (by decide) hme_I ne_OI cl_21, hc_isTaster_1, hn_2 ne_OI⟩
theorem hb_isTaster (hok : ev_ok sh_S G) (hnc : NCs G) (a : Int32) {res' : ev_R} (hT : ev_T sh_S G mi_X10_isTaster (.ref 0 :: [.int a]) μ res') (hv : (∃ v μ1, res' = .inl (some (.int v), μ1)) ∨ ∃ E μ1, res' = .inr (E, μ1) ∧ E ∈ [eI, eO]) : hb_T G hy_isTaster hh_isTaster [.ref 0, .int a, .ref 310] μ (hbn [eI, eO] res') (hbz res') := by
  obtain ⟨d0, d1, d2, d3⟩ := hd_isTaster
  refine HL_T rfl rfl hok (Nat.le_of_ble_eq_true rfl) ?_
  refine HL_al d0 (a := 310) rfl ?_
  refine HL_icv d1 (v := 0) rfl ?_
  refine HL_al d2 (a := 0) rfl ?_
  refine HL_il d3 (a := a) rfl ?_
  exact hb_Z (As := [.int a]) hnc hw_isTaster rfl (Nat.lt_succ_self _) (t := 25) he_isTaster (by decide) sb_IO hE_isTaster hT hv
abbrev hy_lacking : ev_Mi := (yL_lacking, cL_lacking, 3, some .int, mi_X10_lacking.2.2.2.2 + 1)
abbrev hh_lacking : List (Nat × Nat × Nat × Nat) := [(0, 8, 11, 21)]
theorem hd_lacking : decode cL_lacking 0 = .ok (.aload_n 1, 1) ∧ decode cL_lacking 1 = .ok (.iconst 0, 1) ∧ decode cL_lacking 2 = .ok (.aload_n 0, 1) := by decide +kernel
theorem he_lacking : decode cL_lacking 3 = .ok (.invokevirtual 82, 3) ∧ decode cL_lacking 6 = .ok (.i2l, 1) ∧ decode cL_lacking 7 = .ok (.lastore, 1) ∧ decode cL_lacking 8 = .ok (.goto 6, 3) ∧ decode cL_lacking 14 = .ok (.iconst 0, 1) ∧ decode cL_lacking 15 = .ok (.ireturn, 1) := by decide +kernel
theorem hw_lacking : eh_ok RL 82 0 mi_X10_lacking ∧ Cond.instanceMethod yX10_lacking ∈ ev_wd ∧ Cond.selects RX10 yX10_lacking yX10_lacking ∈ ev_wd := ⟨⟨wd_t (by decide +kernel) (by decide +kernel), wd_i, wd_t (by decide +kernel) (by decide +kernel), by decide +kernel, by decide +kernel⟩, wd_t (by decide +kernel) (by decide +kernel), wd_t (by decide +kernel) (by decide +kernel)⟩
theorem hc_lacking_0 : hb_h hy_lacking 11 1 := Or.inl ⟨2, by decide, by decide +kernel, by decide +kernel, by decide +kernel⟩
theorem hE_lacking : ∀ E ∈ [eI], ∃ h j, hb_x hh_lacking 3 E h ∧ hb_h hy_lacking h j ∧ nI (hbi [eI] E) = Int32.ofInt j := by
  intro E hE
  simp only [List.mem_cons, List.not_mem_nil, or_false] at hE
  subst hE
  exact ⟨11, 1, hbx_1 (by decide) (by decide) cl_21, hc_lacking_0, hn_1⟩
theorem hb_lacking (hok : ev_ok sh_S G) (hnc : NCs G) {res' : ev_R} (hT : ev_T sh_S G mi_X10_lacking (.ref 0 :: []) μ res') (hv : (∃ v μ1, res' = .inl (some (.int v), μ1)) ∨ ∃ E μ1, res' = .inr (E, μ1) ∧ E ∈ [eI]) : hb_T G hy_lacking hh_lacking [.ref 0, .ref 310] μ (hbn [eI] res') (hbm res') := by
  obtain ⟨d0, d1, d2⟩ := hd_lacking
  refine HL_T rfl rfl hok (Nat.le_of_ble_eq_true rfl) ?_
  refine HL_al d0 (a := 310) rfl ?_
  refine HL_icv d1 (v := 0) rfl ?_
  refine HL_al d2 (a := 0) rfl ?_
  exact hb_A (As := []) hnc hw_lacking rfl (Nat.lt_succ_self _) (t := 14) he_lacking (by decide) sb_I hE_lacking hT hv
abbrev hy_bid : ev_Mi := (yL_bid, cL_bid, 6, some .int, mi_X10_bid.2.2.2.2 + 1)
abbrev hh_bid : List (Nat × Nat × Nat × Nat) := [(0, 12, 15, 21), (0, 12, 19, 13), (0, 12, 23, 15)]
theorem hd_bid : decode cL_bid 0 = .ok (.aload 4, 2) ∧ decode cL_bid 2 = .ok (.iconst 0, 1) ∧ decode cL_bid 3 = .ok (.aload_n 0, 1) ∧ decode cL_bid 4 = .ok (.iload_n 1, 1) ∧ decode cL_bid 5 = .ok (.iload_n 2, 1) ∧ decode cL_bid 6 = .ok (.iload_n 3, 1) := by decide +kernel
theorem he_bid : decode cL_bid 7 = .ok (.invokevirtual 159, 3) ∧ decode cL_bid 10 = .ok (.i2l, 1) ∧ decode cL_bid 11 = .ok (.lastore, 1) ∧ decode cL_bid 12 = .ok (.goto 15, 3) ∧ decode cL_bid 27 = .ok (.iconst 0, 1) ∧ decode cL_bid 28 = .ok (.ireturn, 1) := by decide +kernel
theorem hw_bid : eh_ok RL 159 3 mi_X10_bid ∧ Cond.instanceMethod yX10_bid ∈ ev_wd ∧ Cond.selects RX10 yX10_bid yX10_bid ∈ ev_wd := ⟨⟨wd_t (by decide +kernel) (by decide +kernel), wd_i, wd_t (by decide +kernel) (by decide +kernel), by decide +kernel, by decide +kernel⟩, wd_t (by decide +kernel) (by decide +kernel), wd_t (by decide +kernel) (by decide +kernel)⟩
theorem hc_bid_0 : hb_h hy_bid 15 1 := Or.inr ⟨5, by decide, by decide +kernel, by decide +kernel, by decide +kernel⟩
theorem hc_bid_1 : hb_h hy_bid 19 2 := Or.inr ⟨5, by decide, by decide +kernel, by decide +kernel, by decide +kernel⟩
theorem hc_bid_2 : hb_h hy_bid 23 3 := Or.inr ⟨5, by decide, by decide +kernel, by decide +kernel, by decide +kernel⟩
theorem hE_bid : ∀ E ∈ [eI, eO, eA], ∃ h j, hb_x hh_bid 7 E h ∧ hb_h hy_bid h j ∧ nI (hbi [eI, eO, eA] E) = Int32.ofInt j := by
  intro E hE
  simp only [List.mem_cons, List.not_mem_nil, or_false] at hE
  rcases hE with rfl | rfl | rfl
  · exact ⟨15, 1, hbx_1 (by decide) (by decide) cl_21, hc_bid_0, hn_1⟩
  · exact ⟨19, 2, hbx_2 (by decide) (by decide) cl_13 (by decide) hme_I ne_OI cl_21, hc_bid_1, hn_2 ne_OI⟩
  · exact ⟨23, 3, hbx_3 (by decide) (by decide) cl_15 (by decide) hme_I ne_AI cl_21 (by decide) hme_O ne_AO cl_13, hc_bid_2, hn_3 ne_AI ne_AO⟩
theorem hb_bid (hok : ev_ok sh_S G) (hnc : NCs G) (a b c : Int32) {res' : ev_R} (hT : ev_T sh_S G mi_X10_bid (.ref 0 :: [.int a, .int b, .int c]) μ res') (hv : (∃ v μ1, res' = .inl (some (.int v), μ1)) ∨ ∃ E μ1, res' = .inr (E, μ1) ∧ E ∈ [eI, eO, eA]) : hb_T G hy_bid hh_bid [.ref 0, .int a, .int b, .int c, .ref 310] μ (hbn [eI, eO, eA] res') (hbm res') := by
  obtain ⟨d0, d1, d2, d3, d4, d5⟩ := hd_bid
  refine HL_T rfl rfl hok (Nat.le_of_ble_eq_true rfl) ?_
  refine HL_ald d0 (a := 310) rfl ?_
  refine HL_icv d1 (v := 0) rfl ?_
  refine HL_al d2 (a := 0) rfl ?_
  refine HL_il d3 (a := a) rfl ?_
  refine HL_il d4 (a := b) rfl ?_
  refine HL_il d5 (a := c) rfl ?_
  exact hb_A (As := [.int a, .int b, .int c]) hnc hw_bid rfl (Nat.lt_succ_self _) (t := 27) he_bid (by decide) sb_IOA hE_bid hT hv
end Hbs
