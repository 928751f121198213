/-! ===== the law's loop ===== -/
section LLoop
variable {G : ev_G} {μ : ev_M} {σ : ev_A} {p : Program} {e : Env} {s : State} {m : MethodId} {below : List Frame} {meth : Method} {c : Code} {b L : Nat} {xs : Nat → Int32} {Q : State → Prop} {k i : Nat} {l : List (Nat × Value)} {st : List Value}
def lw_tl : List Nat := [304, 377, 433, 446, 459, 472, 516, 572, 628, 696, 740, 808, 864, 927, 983, 1051, 1119, 1187, 1255, 1311, 1367, 1423, 1491, 1547, 1615, 1671, 1715, 1759, 1827, 1883, 1939, 1983, 2039, 2107, 2163, 2219, 2282, 2338, 2394, 2450, 2513, 2557, 2601, 2645, 2689, 2754, 2820, 2864, 2920, 2976, 3032, 3112, 3180, 3248, 3292, 3372, 3428, 3531, 3575, 3588, 3644]
def lw_tg (j : Nat) : Nat := lw_tl.getD j 3700
def lw_os : Array Int := #[259, 332, 388, 401, 414, 427, 471, 527, 583, 651, 695, 763, 819, 882, 938, 1006, 1074, 1142, 1210, 1266, 1322, 1378, 1446, 1502, 1570, 1626, 1670, 1714, 1782, 1838, 1894, 1938, 1994, 2062, 2118, 2174, 2237, 2293, 2349, 2405, 2468, 2512, 2556, 2600, 2644, 2709, 2775, 2819, 2875, 2931, 2987, 3067, 3135, 3203, 3247, 3327, 3383, 3486, 3530, 3543, 3599]
theorem lw_os_ok : ((List.range 61).all fun j => decide (lw_os[j]? = some ((lw_tg j : Int) - 45))) = true := by decide +kernel
theorem lw_tg_ok : ((List.range 64).all fun j => decide (45 ≤ lw_tg j) && (decide (j < 61) || decide (lw_tg j = 3700))) = true := by decide +kernel
theorem lw_and (x : Int32) : ∃ j, j < 64 ∧ x &&& 63 = nI j := by
  refine ⟨(x &&& 63).toBitVec.toNat, ?_, ?_⟩
  · have h : (x &&& 63).toBitVec.toNat = x.toBitVec.toNat &&& 63 := by
      show (x.toBitVec &&& (63 : Int32).toBitVec).toNat = _
      rw [BitVec.toNat_and]
      rfl
    rw [h]
    exact Nat.lt_of_le_of_lt Nat.and_le_right (by decide)
  · apply Int32.toBitVec_inj.mp
    show _ = BitVec.ofNat 32 _
    simp
theorem nI_toI {n : Nat} (h : n < 2 ^ 31) : (nI n).toInt = (n : Int) := by
  rw [← iI_n]
  exact iI_toInt (by omega)
theorem LW_tb (hB : lw_B G p s m c b L xs) {j : Nat} (hd : decode code 45 = .ok (.tableswitch 3655 0 60 lw_os, 259)) (hj : j < 64) (h : LW G p e s m below meth c b Q k (lw_tg j) l st μ) : LW G p e s m below meth c b Q k 45 l (.int (nI j) :: st) μ := by
  intro H locs ls hP hS hl
  have h1 := List.all_eq_true.mp lw_tg_ok j (List.mem_range.mpr hj)
  rw [Bool.and_eq_true, Bool.or_eq_true, decide_eq_true_eq, decide_eq_true_eq, decide_eq_true_eq] at h1
  by_cases hj9 : j < 61
  · have h2 := of_decide_eq_true (List.all_eq_true.mp lw_os_ok j (List.mem_range.mpr hj9))
    refine lv_tableIn (x := nI j) hB.2.1 hB.2.2.1 hd (by rw [nI_toI (by omega)]; omega) (by rw [nI_toI (by omega)]; omega) (off := (lw_tg j : Int) - 45) (tgt := lw_tg j) (by rw [nI_toI (by omega), show ((j : Int) - 0).toNat = j by omega]; exact h2) (by omega) (h H locs ls hP hS hl)
  · have h3 : lw_tg j = 3700 := h1.2.resolve_left hj9
    rw [h3] at h
    exact lv_tableOut (x := nI j) hB.2.1 hB.2.2.1 hd (tgt := 3700) (by rw [nI_toI (by omega)]; omega) (by decide) (h H locs ls hP hS hl)
theorem lw_case (hok : ev_ok sh_S G) (hnc : NCs G) (hkw : KW G) (hks : KS G) (hB : lw_B G p s m c b L xs) (hi : i + 5 < L) (hk : k < 599) (hBo : Bo σ μ) (h : ∀ (σ : ev_A) (μ2 : ev_M), Bo σ μ2 → LW G p e s m below meth c b Q (k + 1) 3700 (lw_l i) [] μ2) : ∀ j, j < 64 → LW G p e s m below meth c b Q k (lw_tg j) (lw_l i) [] μ := by
  intro j hj
  match j, hj with
  | 0, _ => exact lc_append hok hnc hkw hks hB hi hk hBo h
  | 1, _ => exact lc_parseSetup hok hnc hkw hks hB hi hk hBo h
  | 2, _ => exact lc_parseErrorCode hok hnc hkw hks hB hi hk hBo h
  | 3, _ => exact lc_parseErrorPosition hok hnc hkw hks hB hi hk hBo h
  | 4, _ => exact lc_bufferLength hok hnc hkw hks hB hi hk hBo h
  | 5, _ => exact lc_pancakeCount hok hnc hkw hks hB hi hk hBo h
  | 6, _ => exact lc_topicOf hok hnc hkw hks hB hi hk hBo h
  | 7, _ => exact lc_cookCount hok hnc hkw hks hB hi hk hBo h
  | 8, _ => exact lc_cookAt hok hnc hkw hks hB hi hk hBo h
  | 9, _ => exact lc_personCount hok hnc hkw hks hB hi hk hBo h
  | 10, _ => exact lc_nameLetter hok hnc hkw hks hB hi hk hBo h
  | 11, _ => exact lc_kitchenOf hok hnc hkw hks hB hi hk hBo h
  | 12, _ => exact lc_isTaster hok hnc hkw hks hB hi hk hBo h
  | 13, _ => exact lc_limitOf hok hnc hkw hks hB hi hk hBo h
  | 14, _ => exact lc_tasteOf hok hnc hkw hks hB hi hk hBo h
  | 15, _ => exact lc_bidOf hok hnc hkw hks hB hi hk hBo h
  | 16, _ => exact lc_preference hok hnc hkw hks hB hi hk hBo h
  | 17, _ => exact lc_conflict hok hnc hkw hks hB hi hk hBo h
  | 18, _ => exact lc_conflictCount hok hnc hkw hks hB hi hk hBo h
  | 19, _ => exact lc_favoriteOf hok hnc hkw hks hB hi hk hBo h
  | 20, _ => exact lc_seatCount hok hnc hkw hks hB hi hk hBo h
  | 21, _ => exact lc_seatAt hok hnc hkw hks hB hi hk hBo h
  | 22, _ => exact lc_loadOf hok hnc hkw hks hB hi hk hBo h
  | 23, _ => exact lc_refusal hok hnc hkw hks hB hi hk hBo h
  | 24, _ => exact lc_bestTaster hok hnc hkw hks hB hi hk hBo h
  | 25, _ => exact lc_lacking hok hnc hkw hks hB hi hk hBo h
  | 26, _ => exact lc_lackingAfterFilling hok hnc hkw hks hB hi hk hBo h
  | 27, _ => exact lc_scoreOf hok hnc hkw hks hB hi hk hBo h
  | 28, _ => exact lc_scoreCount hok hnc hkw hks hB hi hk hBo h
  | 29, _ => exact lc_meanOf hok hnc hkw hks hB hi hk hBo h
  | 30, _ => exact lc_harshest hok hnc hkw hks hB hi hk hBo h
  | 31, _ => exact lc_disagreement hok hnc hkw hks hB hi hk hBo h
  | 32, _ => exact lc_adjustedScore hok hnc hkw hks hB hi hk hBo h
  | 33, _ => exact lc_totalOf hok hnc hkw hks hB hi hk hBo h
  | 34, _ => exact lc_spreadOf hok hnc hkw hks hB hi hk hBo h
  | 35, _ => exact lc_needsTalk hok hnc hkw hks hB hi hk hBo h
  | 36, _ => exact lc_spreadAfterTalk hok hnc hkw hks hB hi hk hBo h
  | 37, _ => exact lc_rankOf hok hnc hkw hks hB hi hk hBo h
  | 38, _ => exact lc_pancakeAt hok hnc hkw hks hB hi hk hBo h
  | 39, _ => exact lc_isAccepted hok hnc hkw hks hB hi hk hBo h
  | 40, _ => exact lc_fillCount hok hnc hkw hks hB hi hk hBo h
  | 41, _ => exact lc_moveCount hok hnc hkw hks hB hi hk hBo h
  | 42, _ => exact lc_talkCount hok hnc hkw hks hB hi hk hBo h
  | 43, _ => exact lc_changeCount hok hnc hkw hks hB hi hk hBo h
  | 44, _ => exact lc_averageScore hok hnc hkw hks hB hi hk hBo h
  | 45, _ => exact lc_seatShare hok hnc hkw hks hB hi hk hBo h
  | 46, _ => exact lc_imbalance hok hnc hkw hks hB hi hk hBo h
  | 47, _ => exact lc_writePancake hok hnc hkw hks hB hi hk hBo h
  | 48, _ => exact lc_writeBids hok hnc hkw hks hB hi hk hBo h
  | 49, _ => exact lc_outputByte hok hnc hkw hks hB hi hk hBo h
  | 50, _ => exact lc_bid hok hnc hkw hks hB hi hk hBo h
  | 51, _ => exact lc_assign hok hnc hkw hks hB hi hk hBo h
  | 52, _ => exact lc_unassign hok hnc hkw hks hB hi hk hBo h
  | 53, _ => exact lc_fill hok hnc hkw hks hB hi hk hBo h
  | 54, _ => exact lc_score hok hnc hkw hks hB hi hk hBo h
  | 55, _ => exact lc_talk hok hnc hkw hks hB hi hk hBo h
  | 56, _ => exact lc_declare hok hnc hkw hks hB hi hk hBo h
  | 57, _ => exact lc_undo hok hnc hkw hks hB hi hk hBo h
  | 58, _ => exact lc_undoCount hok hnc hkw hks hB hi hk hBo h
  | 59, _ => exact lc_saveState hok hnc hkw hks hB hi hk hBo h
  | 60, _ => exact lc_restoreState hok hnc hkw hks hB hi hk hBo h
  | 61, _ => exact LW_k (Nat.le_succ k) (h σ μ hBo)
  | 62, _ => exact LW_k (Nat.le_succ k) (h σ μ hBo)
  | 63, _ => exact LW_k (Nat.le_succ k) (h σ μ hBo)
  | j + 64, hj => omega
def lw_hd : List (Nat × Instr × Nat) := [(28, .iload 5, 2), (30, .aload_n 0, 1), (31, .arraylength, 1), (32, .bipush 6, 2), (34, .isub, 1), (35, .if_icmp .gt 3671, 3), (38, .aload_n 0, 1), (39, .iload 5, 2), (41, .iaload, 1), (42, .bipush 63, 2), (44, .iand, 1), (45, .tableswitch 3655 0 60 lw_os, 259), (3700, .iinc 5 6, 3), (3703, .goto (-3675), 3)]
theorem lw_hd_ok : lw_okd lw_hd = true := by decide +kernel
theorem lw_loop (hok : ev_ok sh_S G) (hnc : NCs G) (hkw : KW G) (hks : KS G) (hB : lw_B G p s m c b L xs) (hend : ∀ (k : Nat) (l : List (Nat × Value)) (μ : ev_M), k < 599 → LW G p e s m below meth c b Q k 3706 l [] μ) : ∀ (j t : Nat) (σ : ev_A) (μ : ev_M), t + j = 520 → t ≤ 512 → Bo σ μ → LW G p e s m below meth c b Q t 28 (lw_l (6 * t)) [] μ := by
  have hL := hB.2.2.2.2.2.2.2.2.2
  intro j
  induction j with
  | zero => intro t σ μ h1 h2; omega
  | succ j ih =>
    intro t σ μ h1 h2 hBo
    refine LW_il hB (lw_d lw_hd_ok 0 rfl) (x := nI (6 * t)) rfl ?_
    refine LW_al hB (lw_d lw_hd_ok 1 rfl) (a := 400) rfl ?_
    refine LW_sn hB (lw_d lw_hd_ok 2 rfl) ?_
    refine LW_bi (v := nI 6) hB (lw_d lw_hd_ok 3 rfl) (by decide) ?_
    refine LW_isu hB (lw_d lw_hd_ok 4 rfl) ?_
    have e1 : Int32.ofNat L - nI 6 = iI ((L : Int) - 6) := iI_dif L 6
    rw [e1]
    refine LW_cg (t := 3706) hB (lw_d lw_hd_ok 5 rfl) (by decide) (fun _ => hend t _ _ (by omega)) (fun q => ?_)
    rw [← iI_n, iI_lt (by omega) (by omega)] at q
    have hi : 6 * t + 5 < L := by omega
    refine LW_al hB (lw_d lw_hd_ok 6 rfl) (a := 400) rfl ?_
    refine LW_il hB (lw_d lw_hd_ok 7 rfl) (x := nI (6 * t)) rfl ?_
    refine LW_sl hB (lw_d lw_hd_ok 8 rfl) (vp_in_nI (by omega) (by omega)) ?_
    rw [nI_clamp (by omega)]
    refine LW_bi (v := 63) hB (lw_d lw_hd_ok 9 rfl) (by decide) ?_
    refine LW_ian hB (lw_d lw_hd_ok 10 rfl) ?_
    obtain ⟨j9, g1, g2⟩ := lw_and (xs (6 * t))
    rw [g2]
    refine LW_tb hB (lw_d lw_hd_ok 11 rfl) g1 ?_
    refine lw_case hok hnc hkw hks hB hi (by omega) hBo (fun σ' μ2 hBo2 => ?_) j9 g1
    refine LW_ii (kp := 0) (x := nI (6 * t)) (v := nI (6 * (t + 1))) hB (lw_d lw_hd_ok 12 rfl) rfl (by rw [show Int32.ofInt 6 = nI 6 by decide, nI_add]; exact congrArg nI (by omega)) (by decide) ?_
    refine LW_gt (t := 28) hB (lw_d lw_hd_ok 13 rfl) (by decide) ?_
    exact LW_sub (fun q hq => hq) (ih (t + 1) σ' μ2 (by omega) (by omega) hBo2)
end LLoop
