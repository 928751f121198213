/-! ===== the helpers with doubles; calls without a helper ===== -/
section Dbl
variable {G : ev_G} {N : Nat → Nat} {μ μ1 μ' : ev_M} {σ : ev_A}
variable {y : ev_Mi} {hh : List (Nat × Nat × Nat × Nat)} {pc : Nat} {l : List (Nat × Value)} {st : List Value} {x : Int32}
/-- the answer goes into the law's row of doubles -/
def ou1 (μ : ev_M) (v : UInt64) : ev_M := (μ.1, ev_up μ.2.1 311 0 v.toInt64, μ.2.2)
theorem ou1_n {v : UInt64} {a k : Nat} (h : a ≠ 311) : (ou1 μ v).2.1 a k = μ.2.1 a k := by
  show (if a = 311 ∧ k = 0 then v.toInt64 else μ.2.1 a k) = _
  rw [if_neg (fun q => h q.1)]
theorem ou1_v {v : UInt64} : (ou1 μ v).2.1 311 0 = v.toInt64 := by
  show (if 311 = 311 ∧ 0 = 0 then v.toInt64 else μ.2.1 311 0) = _
  rw [if_pos ⟨rfl, rfl⟩]
theorem HL_ds {v : UInt64} (hd : decode y.2.1 pc = .ok (.dastore, 1)) (h : HL G y hh (pc + 1) l st (ou1 μ v) x μ') : HL G y hh pc l (.double v :: .int 0 :: .ref 311 :: st) μ x μ' := by
  intro p e R s m args below meth c hB H locs ls hP hS hl
  have h1 : 311 < ev_nc sh_S := by decide +kernel
  have h2 : ev_kd sh_S 311 = 15 := by decide +kernel
  have h9 : ev_ln sh_S 311 = 1 := by decide +kernel
  have h3 : vp_in 0 (ev_ln sh_S 311) := by rw [h9]; exact vp_in_nI (n := 0) (by omega) (by omega)
  refine va_dast hB.2.1 hB.2.2.1 (hb_K hB) hP (ev_D hB.1 μ) hS 311 5 (by rw [ev_ws_at h1, ev_E_15 h2]) rfl h3 hd (fun H1 locs1 hP1 hD1 hS1 => ?_)
  refine h p e R s m args below meth c hB H1 locs1 ls ?_ hS1 hl
  have h0 : (0 : Int32).toNatClampNeg = 0 := by decide
  rw [h0] at hP1
  have e9 : ev_E sh_S G (ou1 μ v) 311 = .inl (G.2.2.2.1 15, ev_ln sh_S 311, .inr (.inr (.inr (.inl (vf_upd (fun k => (μ.2.1 311 k).toUInt64) 0 v))))) := by
    rw [ev_E_15 h2]
    have e8 : (fun k => ((ou1 μ v).2.1 311 k).toUInt64) = vf_upd (fun k => (μ.2.1 311 k).toUInt64) 0 v := by
      funext k
      show ((if 311 = 311 ∧ k = 0 then v.toInt64 else μ.2.1 311 k)).toUInt64 = if k = 0 then v else (μ.2.1 311 k).toUInt64
      by_cases c : k = 0
      · rw [if_pos ⟨rfl, c⟩, if_pos c]; exact UInt64.toUInt64_toInt64 v
      · rw [if_neg (fun q => c q.2), if_neg c]
    rw [e8]
  rw [ev_ws_set (μ := μ) h1 (μ' := ou1 μ v) e9 (fun b hb => ev_E_eq rfl (ev_up_ne hb) rfl)] at hP1
  exact hP1
theorem HL_f2d {v : UInt32} (hd : decode y.2.1 pc = .ok (.f2d, 1)) (hn : vf_n64 (FP.f2d v)) (h : HL G y hh (pc + 1) l (.double (FP.f2d v) :: st) μ x μ') : HL G y hh pc l (.float v :: st) μ x μ' := by
  intro p e R s m args below meth c hB H locs ls hP hS hl
  exact lv_f2d hB.2.1 hB.2.2.1 hd hn (h p e R s m args below meth c hB H locs ls hP hS hl)
abbrev hy_averageScore : ev_Mi := (yL_averageScore, cL_averageScore, 3, some .int, mi_X10_averageScore.2.2.2.2 + 1)
abbrev hh_averageScore : List (Nat × Nat × Nat × Nat) := [(0, 7, 10, 21)]
abbrev hy_seatShare : ev_Mi := (yL_seatShare, cL_seatShare, 3, some .int, mi_X10_seatShare.2.2.2.2 + 1)
abbrev hh_seatShare : List (Nat × Nat × Nat × Nat) := [(0, 8, 11, 21)]
theorem hd_averageScore : decode cL_averageScore 0 = .ok (.aload_n 1, 1) ∧ decode cL_averageScore 1 = .ok (.iconst 0, 1) ∧ decode cL_averageScore 2 = .ok (.aload_n 0, 1) ∧ decode cL_averageScore 3 = .ok (.invokevirtual 139, 3) ∧ decode cL_averageScore 6 = .ok (.dastore, 1) ∧ decode cL_averageScore 7 = .ok (.goto 6, 3) ∧ decode cL_averageScore 13 = .ok (.iconst 0, 1) ∧ decode cL_averageScore 14 = .ok (.ireturn, 1) := by decide +kernel
theorem hd_seatShare : decode cL_seatShare 0 = .ok (.aload_n 1, 1) ∧ decode cL_seatShare 1 = .ok (.iconst 0, 1) ∧ decode cL_seatShare 2 = .ok (.aload_n 0, 1) ∧ decode cL_seatShare 3 = .ok (.invokevirtual 143, 3) ∧ decode cL_seatShare 6 = .ok (.f2d, 1) ∧ decode cL_seatShare 7 = .ok (.dastore, 1) ∧ decode cL_seatShare 8 = .ok (.goto 6, 3) ∧ decode cL_seatShare 14 = .ok (.iconst 0, 1) ∧ decode cL_seatShare 15 = .ok (.ireturn, 1) := by decide +kernel
theorem hw_averageScore : eh_ok RL 139 0 mi_X10_averageScore ∧ Cond.instanceMethod yX10_averageScore ∈ ev_wd ∧ Cond.selects RX10 yX10_averageScore yX10_averageScore ∈ ev_wd := by unfold eh_ok; decide +kernel
theorem hw_seatShare : eh_ok RL 143 0 mi_X10_seatShare ∧ Cond.instanceMethod yX10_seatShare ∈ ev_wd ∧ Cond.selects RX10 yX10_seatShare yX10_seatShare ∈ ev_wd := by unfold eh_ok; decide +kernel
theorem hc_averageScore : hb_h hy_averageScore 10 1 := Or.inl ⟨2, by decide, by decide +kernel, by decide +kernel, by decide +kernel⟩
theorem hc_seatShare : hb_h hy_seatShare 11 1 := Or.inl ⟨2, by decide, by decide +kernel, by decide +kernel, by decide +kernel⟩
theorem hb_averageScore (hok : ev_ok sh_S G) (hnc : NCs G) {e : Nat} {v : UInt64} (hT : ev_T sh_S G mi_X10_averageScore [.ref 0] μ (if e = 0 then .inr (eI, μ) else .inl (some (.double v), μ))) : hb_T G hy_averageScore hh_averageScore [.ref 0, .ref 311] μ (if e = 0 then 1 else 0) (if e = 0 then μ else ou1 μ v) := by
  obtain ⟨d0, d1, d2, d3, d6, d7, d13, d14⟩ := hd_averageScore
  refine HL_T rfl rfl hok (Nat.le_of_ble_eq_true rfl) ?_
  refine HL_al d0 (a := 311) rfl ?_
  refine HL_icv d1 (v := 0) rfl ?_
  refine HL_al d2 (a := 0) rfl ?_
  refine HL_call (As := []) (r := [.int 0, .ref 311]) (b := 0) hnc hw_averageScore.1 hw_averageScore.2.1 hw_averageScore.2.2 (show 0 < ev_nc sh_S by decide +kernel) (fun p R s m meth c hB H hP => hb_rec hB hP) rfl (by decide) (Nat.lt_succ_self _) hT d3 (fun w μ1 q => ?_) (fun E μ1 q => ?_)
  · by_cases c : e = 0
    · rw [if_pos c] at q; cases q
    · rw [if_neg c] at q
      rw [if_neg c, if_neg c]
      cases q
      exact HL_ds d6 (HL_gt (t := 13) d7 (by decide) (HL_icv d13 rfl (HL_ret d14)))
  · by_cases c : e = 0
    · rw [if_pos c] at q
      rw [if_pos c, if_pos c]
      cases q
      exact ⟨hme_I, rfl, 10, 1, hbx_1 (by decide) (by decide) cl_21, hc_averageScore, rfl⟩
    · rw [if_neg c] at q; cases q
theorem hb_seatShare (hok : ev_ok sh_S G) (hnc : NCs G) {e : Nat} {v : UInt32} (hn : vf_n64 (FP.f2d v)) (hT : ev_T sh_S G mi_X10_seatShare [.ref 0] μ (if e = 0 then .inr (eI, μ) else .inl (some (.float v), μ))) : hb_T G hy_seatShare hh_seatShare [.ref 0, .ref 311] μ (if e = 0 then 1 else 0) (if e = 0 then μ else ou1 μ (FP.f2d v)) := by
  obtain ⟨d0, d1, d2, d3, d6, d7, d8, d14, d15⟩ := hd_seatShare
  refine HL_T rfl rfl hok (Nat.le_of_ble_eq_true rfl) ?_
  refine HL_al d0 (a := 311) rfl ?_
  refine HL_icv d1 (v := 0) rfl ?_
  refine HL_al d2 (a := 0) rfl ?_
  refine HL_call (As := []) (r := [.int 0, .ref 311]) (b := 0) hnc hw_seatShare.1 hw_seatShare.2.1 hw_seatShare.2.2 (show 0 < ev_nc sh_S by decide +kernel) (fun p R s m meth c hB H hP => hb_rec hB hP) rfl (by decide) (Nat.lt_succ_self _) hT d3 (fun w μ1 q => ?_) (fun E μ1 q => ?_)
  · by_cases c : e = 0
    · rw [if_pos c] at q; cases q
    · rw [if_neg c] at q
      rw [if_neg c, if_neg c]
      cases q
      exact HL_f2d d6 hn (HL_ds d7 (HL_gt (t := 14) d8 (by decide) (HL_icv d14 rfl (HL_ret d15))))
  · by_cases c : e = 0
    · rw [if_pos c] at q
      rw [if_pos c, if_pos c]
      cases q
      exact ⟨hme_I, rfl, 11, 1, hbx_1 (by decide) (by decide) cl_21, hc_seatShare, rfl⟩
    · rw [if_neg c] at q; cases q
/-- both answers are numbers -/
theorem avg_n (hI : INV N) : vf_n64 (avg N) := by
  have ha := asc_le hI (iv_h hI).1
  have hm := asm_le hI (iv_h hI).1
  unfold avg
  split
  · unfold vf_n64; decide
  · exact fp_d (by omega) (by omega) (by omega)
def fpG : Bool := (List.range 31).all fun a => (List.range 31).all fun b => decide (b = 0) || decide ((FP.f2d (FP.fdiv (FP.i2f (nI a)) (FP.i2f (nI b)))).toNat &&& 9223372036854775807 ≤ 9218868437227405312)
theorem fpG_ok : fpG = true := by decide +kernel
theorem shr_n (hI : INV N) : vf_n64 (FP.f2d (shr N)) := by
  have hk := tkn_lk hI (iv_h hI).2.1
  have h10 := (iv_h hI).2.1
  unfold shr
  split
  · unfold vf_n64; decide +kernel
  · have h1 := List.all_eq_true.mp fpG_ok (tkn N (N 1)) (List.mem_range.mpr (by omega))
    have h2 := List.all_eq_true.mp h1 (3 * N 1) (List.mem_range.mpr (by omega))
    rw [Bool.or_eq_true, decide_eq_true_eq, decide_eq_true_eq] at h2
    unfold vf_n64
    rw [UInt64.le_iff_toNat_le, UInt64.toNat_and]
    exact h2.resolve_left (by omega)
theorem Bo_f (h : Bo σ μ) (h1 : μ'.1 = μ.1) (h2 : ∀ a k, a < 301 → μ'.2.1 a k = μ.2.1 a k) (h3 : μ'.2.2 = μ.2.2) : Bo σ μ' := ⟨XS_f h.1 h.2.2.2.2.1 (fun a k _ => by rw [h1]) h2 (fun a k _ => by rw [h3]), MS_f h.2.1 (fun a k _ => by rw [h1]), h.2.2⟩
theorem Bo_th {t : Nat} (h : Bo σ μ) : Bo σ (th μ t) := ⟨XS_f h.1 h.2.2.2.2.1 (fun a k ha => th_1 (by omega)) (fun _ _ _ => rfl) (fun _ _ _ => rfl), MS_th h.2.1, h.2.2⟩
theorem st_averageScore (hok : ev_ok sh_S G) (hnc : NCs G) (hB : Bo σ μ) : ∃ (n : Int32) (v : UInt64) (μ1 μ2 : ev_M), hb_T G hy_averageScore hh_averageScore [.ref 0, .ref 311] μ n μ1 ∧ ev_T sh_S G mi_X11_averageScore [.ref 301] μ1 (.inl (some (.double v), μ2)) ∧ μ2.1 301 0 = n ∧ (n = 0 → μ2.2.1 311 0 = v.toInt64) ∧ vf_n64 v ∧ Bo σ μ2 := by
  have k1 := hb_averageScore hok hnc (x_X10_averageScore hok sh_34 hq_3 hB.1.1.1 hB.2.2.1 hB.1.1.2 hB.2.2.2.1)
  have he := hB.2.2.2.1
  have hn := avg_n hB.2.2.1
  rcases (show aE σ = 0 ∨ aE σ = 1 by omega) with c | c
  · rw [if_pos c, if_pos c] at k1
    have k2 := m_X11_averageScore hok hB.2.1.1 hB.2.2.1 hB.2.1.2.1 he
    rw [if_pos c, c, thc_1] at k2
    exact ⟨1, _, μ, th μ 1, k1, k2, th_0, fun z => absurd z (by decide), by unfold vf_n64; decide, Bo_th hB⟩
  · rw [if_neg (by omega), if_neg (by omega)] at k1
    have hB1 : Bo σ (ou1 μ (avg (aN σ))) := Bo_f hB rfl (fun a k ha => ou1_n (by omega)) rfl
    have k2 := m_X11_averageScore hok hB1.2.1.1 hB.2.2.1 hB1.2.1.2.1 he
    rw [if_neg (by omega), c, thc_0] at k2
    exact ⟨0, _, _, _, k1, k2, th_0, fun _ => ou1_v, hn, Bo_th hB1⟩
theorem st_seatShare (hok : ev_ok sh_S G) (hnc : NCs G) (hB : Bo σ μ) : ∃ (n : Int32) (v : UInt32) (μ1 μ2 : ev_M), hb_T G hy_seatShare hh_seatShare [.ref 0, .ref 311] μ n μ1 ∧ ev_T sh_S G mi_X11_seatShare [.ref 301] μ1 (.inl (some (.float v), μ2)) ∧ μ2.1 301 0 = n ∧ (n = 0 → μ2.2.1 311 0 = (FP.f2d v).toInt64) ∧ vf_n64 (FP.f2d v) ∧ Bo σ μ2 := by
  have hn := shr_n hB.2.2.1
  have k1 := hb_seatShare hok hnc hn (x_X10_seatShare hok sh_34 hq_3 hB.1.1.1 hB.2.2.1 hB.1.1.2 hB.2.2.2.1)
  have he := hB.2.2.2.1
  rcases (show aE σ = 0 ∨ aE σ = 1 by omega) with c | c
  · rw [if_pos c, if_pos c] at k1
    have k2 := m_X11_seatShare hok hB.2.1.1 hB.2.2.1 hB.2.1.2.1 he
    rw [if_pos c, c, thc_1] at k2
    exact ⟨1, _, μ, th μ 1, k1, k2, th_0, fun z => absurd z (by decide), by unfold vf_n64; decide +kernel, Bo_th hB⟩
  · rw [if_neg (by omega), if_neg (by omega)] at k1
    have hB1 : Bo σ (ou1 μ (FP.f2d (shr (aN σ)))) := Bo_f hB rfl (fun a k ha => ou1_n (by omega)) rfl
    have k2 := m_X11_seatShare hok hB1.2.1.1 hB.2.2.1 hB1.2.1.2.1 he
    rw [if_neg (by omega), c, thc_0] at k2
    exact ⟨0, _, _, _, k1, k2, th_0, fun _ => ou1_v, hn, Bo_th hB1⟩
/-- a call without a helper -/
def stp0 (G : ev_G) (yx ym : ev_Mi) (args : List Value) (μ : ev_M) : Prop := ∃ (v : Int32) (μ1 μ2 : ev_M) (σ' : ev_A), ev_T sh_S G yx (.ref 0 :: args) μ (.inl (some (.int v), μ1)) ∧ ev_T sh_S G ym (.ref 301 :: args) μ1 (.inl (some (.int v), μ2)) ∧ Bo σ' μ2
theorem st_p {yx ym : ev_Mi} {args : List Value} {r : Nat × Int32 × ev_A} (hB : Bo σ μ) (hr : r.1 = 0) (hx : x_res yx (.ref 0 :: args) μ G r) (hm : ∀ μ1, MS σ μ1 → s_res ym (.ref 301 :: args) μ1 G r) (hO : OKA r.2.2) : stp0 G yx ym args μ := by
  obtain ⟨μa, a1, a2, a3⟩ := hx
  rw [hr, xR_0] at a1
  obtain ⟨μ2, b1, b2, b3, b4⟩ := hm μa (MS_f hB.2.1 (fun a k ha => (a3 a k ha).1))
  exact ⟨r.2.1, μa, μ2, r.2.2, a1, b1, XS_f a2 hO.2.2.1 (fun a k ha => b3.1 a k (Or.inl ha)) (fun a k ha => by rw [b3.2]) (fun a k ha => by rw [b3.2]), b2, hO⟩
theorem sn_append {a b c d e : Int32} : (s_append σ a b c d e).1 = 0 := by unfold s_append; split <;> rfl
theorem st_append (hok : ev_ok sh_S G) (hB : Bo σ μ) (a b c d e : Int32) : stp0 G mi_X10_append mi_X11_append [.int a, .int b, .int c, .int d, .int e] μ := st_p hB sn_append (x_X10_append hok hB.1 hB.2.2 a b c d e) (fun μ1 h1 => M_append hok h1 hB.2.2 a b c d e) (OKA_append hB.2.2 a b c d e)
theorem st_parseErrorCode (hok : ev_ok sh_S G) (hB : Bo σ μ) : stp0 G mi_X10_parseErrorCode mi_X11_parseErrorCode [] μ := st_p (r := (0, nI (aPc σ), σ)) hB rfl (x_X10_parseErrorCode hok hB.1) (fun μ1 h1 => M_parseErrorCode hok h1) hB.2.2
theorem st_parseErrorPosition (hok : ev_ok sh_S G) (hB : Bo σ μ) : stp0 G mi_X10_parseErrorPosition mi_X11_parseErrorPosition [] μ := st_p (r := (0, aPa σ, σ)) hB rfl (x_X10_parseErrorPosition hok hB.1) (fun μ1 h1 => M_parseErrorPosition hok h1) hB.2.2
theorem st_bufferLength (hok : ev_ok sh_S G) (hB : Bo σ μ) : stp0 G mi_X10_bufferLength mi_X11_bufferLength [] μ := st_p (r := (0, nI (aBn σ), σ)) hB rfl (x_X10_bufferLength hok hB.1) (fun μ1 h1 => M_bufferLength hok h1) hB.2.2
theorem st_undoCount (hok : ev_ok sh_S G) (hB : Bo σ μ) : stp0 G mi_X10_undoCount mi_X11_undoCount [] μ := st_p (r := (0, nI (aK σ), σ)) hB rfl (x_X10_undoCount hok hB.1) (fun μ1 h1 => M_undoCount hok h1) hB.2.2
end Dbl
