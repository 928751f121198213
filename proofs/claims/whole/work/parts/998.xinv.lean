/-! ===== an item leaves a panel ===== -/
section XInv
variable {G : ev_G} {N : Nat → Nat} {B : Nat → Nat} {n m p : Nat} {μ μ' : ev_M}
theorem INV_fld (hI : INV N) {i f v : Nat} (hi : i < N 0) (hv : (f = 0 ∧ v < 128) ∨ (f = 1 ∧ 1 ≤ v ∧ v ≤ 6) ∨ (2 ≤ f ∧ f < 6 ∧ v ≤ 9) ∨ (43 ≤ f ∧ f < 59 ∧ v ≤ 1)) : INV (up N (8 + 59 * i + f) v) := by
  have hh := iv_h hI
  have e : ∀ k, k ≠ 8 + 59 * i + f → up N (8 + 59 * i + f) v k = N k := fun k hk => up_ne hk
  have ek : up N (8 + 59 * i + f) v (8 + 59 * i + f) = v := up_eq rfl
  have e0 := e 0 (by omega)
  have e1 := e 1 (by omega)
  have e2 := e 2 (by omega)
  have e3 := e 3 (by omega)
  have hc : ∀ k, 952 ≤ k → up N (8 + 59 * i + f) v k = N k := fun k hk => e k (by omega)
  have esP : ∀ q' i', sP (up N (8 + 59 * i + f) v) q' i' = sP N q' i' := fun q' i' => by
    unfold sP
    rw [hc (952 + 9 * q' + 5) (by omega)]
    exact fx_ext fun k _ => hc _ (by omega)
  refine ⟨by rw [e0, e1, e2, e3]; exact hh, ?_, ?_, ?_, ?_, ?_, ?_, ?_, ?_, ?_, ?_, ?_, ?_, ?_, ?_, ?_⟩
  · intro k hk
    by_cases hs : k = 8 + 59 * i + f
    · rw [hs, ek]; omega
    · rw [e k hs]; exact iv_b hI k hk
  · intro q' hq'; rw [hc _ (by omega), hc _ (by omega), hc _ (by omega)]; exact iv_q hI q' hq'
  · intro q' k hq' hk; rw [hc _ (by omega)] at hk; rw [hc _ (by omega), e0]; exact iv_ck hI q' k hq' hk
  · intro q' k hq' hk; rw [hc _ (by omega)] at hk; rw [hc _ (by omega), e0]; exact iv_st hI q' k hq' hk
  · intro q' k l hq' hk hl; rw [hc _ (by omega)] at hl; rw [hc _ (by omega), hc _ (by omega)]; exact iv_di hI q' k l hq' hk hl
  · intro i' hi'
    have g := iv_p hI i' hi'
    rw [e (8 + 59 * i' + 6) (by omega)]
    refine ⟨?_, g.2⟩
    by_cases hs : 8 + 59 * i' + 1 = 8 + 59 * i + f
    · rw [hs, ek]; omega
    · rw [e _ hs]; exact g.1
  · intro i' t hi' ht
    by_cases hs : 8 + 59 * i' + (2 + t) = 8 + 59 * i + f
    · rw [hs, ek]; omega
    · rw [e _ hs]; exact iv_t hI i' t hi' ht
  · intro i' q' hi' hq'
    rw [e _ (by omega), e _ (by omega), e _ (by omega)]; exact iv_pq hI i' q' hi' hq'
  · intro i' j hi' hj
    by_cases hs : 8 + 59 * i' + (43 + j) = 8 + 59 * i + f
    · rw [hs, ek]; omega
    · rw [e _ hs]; exact iv_w hI i' j hi' hj
  · intro i' w h1 h2 h3; rw [e0] at h1; rw [e _ (by omega)]; exact iv_z1 hI i' w h1 h2 h3
  · intro q' w h1 h2 h3; rw [e1] at h1; rw [hc _ (by omega)]; exact iv_z2 hI q' w h1 h2 h3
  · intro i' q' h1 h2 h3; rw [e1] at h2; rw [e _ (by omega), e _ (by omega), e _ (by omega)]; exact iv_z3 hI i' q' h1 h2 h3
  · intro i' q' h1 h2 h3; rw [e _ (by omega)] at h3; rw [esP, hc _ (by omega)]; exact iv_sc hI i' q' h1 h2 h3
  · intro q' k h1 h2
    rw [hc _ (by omega)] at h2
    rw [hc (952 + 9 * q' + (6 + k)) (by omega)]
    by_cases hs : 8 + 59 * N (952 + 9 * q' + (6 + k)) + 1 = 8 + 59 * i + f
    · rw [hs, ek]; omega
    · rw [e _ hs]; exact iv_ts hI q' k h1 h2
  · intro i' k h1
    rw [e0] at h1
    have g := iv_nm hI i' k h1
    rw [e _ (by omega)]
    refine ⟨g.1, fun h2 => ?_⟩
    have g6 := (iv_p hI i' (by omega)).2
    rw [e _ (by omega)]
    exact g.2 h2
theorem INV_ts (hI : INV N) {i a : Nat} (hi : i < N 0) : ∀ k, k ≤ 4 → (∀ j, j < k → tvl B n (a + j) ≤ 9) → INV (tsN B n N i a k) ∧ tsN B n N i a k 0 = N 0
  | 0, _, _ => ⟨hI, rfl⟩
  | k + 1, hk, h => by
    have h1 := INV_ts hI hi k (by omega) (fun j hj => h j (by omega))
    refine ⟨INV_fld h1.1 (i := i) (f := 2 + k) (by rw [h1.2]; exact hi) (Or.inr (Or.inr (Or.inl ⟨by omega, by omega, h k (by omega)⟩))), ?_⟩
    show up (tsN B n N i a k) (8 + 59 * i + (2 + k)) (tvl B n (a + k)) 0 = N 0
    rw [up_ne (by omega)]
    exact h1.2
theorem INV_limit {a : Nat} (hI : INV N) (h : (q_limit B n N a).1 = 0) : INV (up N (8 + 59 * (pv B n N a) + 1) (tvl B n (a + 1))) := by
  have h1 := rN_0 h
  have h2 := nmc_0 h1.2.1
  have h3 := rP_0 (er_0 h1.1 (by decide)).1
  exact INV_fld hI h3.2.2.2.1 (Or.inr (Or.inl ⟨rfl, by omega, by omega⟩))
theorem INV_kitchen {a : Nat} (hI : INV N) (h : (q_kitchen B n N a).1 = 0) : INV (up N (8 + 59 * (pv B n N a) + 0) (tvl B n (a + 1))) := by
  have h1 := rN_0 h
  have h2 := nmc_0 h1.2.1
  have h3 := rP_0 h1.1
  exact INV_fld hI h3.2.2.2.1 (Or.inl ⟨rfl, by omega⟩)
theorem tsE_0 {e : Nat × Int32} {a : Nat} : ∀ k, (tsE B n e a k).1 = 0 → e.1 = 0 ∧ ∀ j, j < k → tvl B n (a + j) ≤ 9
  | 0, h => ⟨h, fun j hj => absurd hj (Nat.not_lt_zero j)⟩
  | k + 1, h => by
    have h1 := rN_0 (show (rN B n (tsE B n e a k) (a + k) 0 10).1 = 0 from h)
    have h2 := nmc_0 h1.2.1
    have h3 := tsE_0 k h1.1
    refine ⟨h3.1, fun j hj => ?_⟩
    by_cases c : j = k
    · rw [c]; omega
    · exact h3.2 j (by omega)
theorem INV_taster {a : Nat} (hI : INV N) (h : (q_taster B n N a).1 = 0) : INV (up (tsN B n N (pv B n N a) (a + 1 + 1) 4) (8 + 59 * pv B n N a + 1) (tvl B n (a + 1))) := by
  have h0 := tsE_0 4 h
  have h1 := rN_0 h0.1
  have h2 := nmc_0 h1.2.1
  have h3 := rP_0 (er_0 h1.1 (by decide)).1
  have h4 := INV_ts (B := B) (n := n) (a := a + 1 + 1) hI h3.2.2.2.1 4 (Nat.le_refl _) h0.2
  exact INV_fld h4.1 (by rw [h4.2]; exact h3.2.2.2.1) (Or.inr (Or.inl ⟨rfl, by omega, by omega⟩))
theorem INV_bid9 {a : Nat} (hI : INV N) (h : (q_bid B n N a).1 = 0) : INV (up N (8 + 59 * (pv B n N a) + (13 + (tvl B n (a + 1)))) (tvl B n (a + 1 + 1))) := by
  have h1 := rN_0 h
  have h2 := nmc_0 h1.2.1
  have h3 := rN_0 h1.1
  have h4 := nmc_0 h3.2.1
  have h5 := rP_0 (er_0 h3.1 (by decide)).1
  exact INV_bd hI h5.2.2.2.1 h4.2.2 (Or.inl ⟨rfl, by omega⟩)
theorem INV_conflict {a : Nat} (hI : INV N) (h : (q_conflict B n N a).1 = 0) : INV (up N (8 + 59 * (pv B n N a) + (33 + (tvl B n (a + 1)))) 1) := by
  have h1 := rN_0 (er_0 h (by decide)).1
  have h2 := nmc_0 h1.2.1
  have h3 := rP_0 h1.1
  exact INV_bd hI h3.2.2.2.1 h2.2.2 (Or.inr ⟨rfl, by omega⟩)
theorem INV_leave {a : Nat} (hI : INV N) (h : (q_leave B n N a).1 = 0) : INV (lvN N (pv B n N a) (tvl B n (a + 1))) := by
  have h0 := er_0 h (by decide)
  have h1 := rN_0 h0.1
  have h2 := nmc_0 h1.2.1
  have h3 := rP_0 h1.1
  have hh := iv_h hI
  exact INV_lv hI (by omega) (by omega) (Classical.not_not.mp h0.2.1)
theorem INV_score {a : Nat} (hI : INV N) (h : (q_score B n N a).1 = 0) : INV (up N (8 + 59 * (pv B n N a) + (23 + (tvl B n (a + 1)))) (tvl B n (a + 1 + 1))) := by
  have h9 := rN_0 h
  have h8 := nmc_0 h9.2.1
  have h0 := er_0 h9.1 (by decide)
  have h1 := rN_0 h0.1
  have h2 := nmc_0 h1.2.1
  have h3 := rP_0 h1.1
  exact INV_s1 hI h3.2.2.2.1 h2.2.2 (by omega) (Classical.not_not.mp h0.2.1)
theorem INV_talk {a : Nat} (hI : INV N) (h : (q_talk B n N a).1 = 0) : INV (tlN N (tvl B n a)) := by
  have h2 := nmc_0 (rN_0 (er_0 h (by decide)).1).2.1
  have hh := iv_h hI
  exact INV_tl hI (by omega)
theorem INV_clear {a : Nat} (hI : INV N) (h : (q_clear B n N a).1 = 0) : INV (rclN N (tvl B n a)) := by
  have h2 := nmc_0 (rN_0 h).2.1
  have hh := iv_h hI
  exact INV_rcl hI (by omega)
end XInv
