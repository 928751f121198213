/-! ===== an item leaves a panel, the rest ===== -/
section XInv2
variable {G : ev_G} {N : Nat → Nat} {B : Nat → Nat} {n m p : Nat} {μ μ' : ev_M}
theorem INV_together {a : Nat} (hI : INV N) (h : (q_together B n N a).1 = 0) : INV (jcN N (pv B n N a) (pv B n N (a + 1))) := by
  have h1 := rP_0 (er_0 h (by decide)).1
  have h2 := rP_0 h1.1
  have hh := iv_h hI
  have g1 := h1.2.2.2.1
  have g2 := h2.2.2.2.1
  have k1 := INV_fld hI g2 (f := 43 + pv B n N (a + 1)) (v := 1) (Or.inr (Or.inr (Or.inr ⟨by omega, by omega, by omega⟩)))
  exact INV_fld k1 (i := pv B n N (a + 1)) (f := 43 + pv B n N a) (v := 1) (by rw [up_ne (by omega)]; exact g1) (Or.inr (Or.inr (Or.inr ⟨by omega, by omega, by omega⟩)))
theorem INV_cy (hI : INV N) {i j : Nat} (hi : i < N 0) (hj : j < N 0) : ∀ k, k ≤ N 1 → INV (cyN N i j k)
  | 0, _ => hI
  | k + 1, hk => by
    have hh := iv_h hI
    have ih := INV_cy hI hi hj k (by omega)
    have e0 : cyN N i j k 0 = N 0 := cyN_ne (Or.inl (by omega))
    have e1 : cyN N i j k 1 = N 1 := cyN_ne (Or.inl (by omega))
    have hb := (iv_pq hI i k (by omega) (by omega)).1
    exact INV_bd ih (i := j) (q := k) (f := 13) (by rw [e0]; exact hj) (by rw [e1]; omega) (Or.inl ⟨rfl, hb⟩)
theorem INV_copy {a : Nat} (hI : INV N) (h : (q_copy B n N a).1 = 0) : INV (cyN N (pv B n N a) (pv B n N (a + 1)) (N 1)) := by
  have h1 := rP_0 (er_0 (er_0 h (by decide)).1 (by decide)).1
  have h2 := rP_0 (er_0 h1.1 (by decide)).1
  exact INV_cy hI h2.2.2.2.1 h1.2.2.2.1 (N 1) (Nat.le_refl _)
theorem INV_even {a : Nat} (hI : INV N) (h : (q_even B n N a).1 = 0) : INV (evN N (tvl B n a) (mid N (tvl B n a)) (N 0)) := by
  have h2 := nmc_0 (rN_0 (er_0 h (by decide)).1).2.1
  have hh := iv_h hI
  exact INV_ev hI (by omega) (mid_le N _) hh.1
theorem INV_seat {a : Nat} (hI : INV N) (h : (q_seat B n N a).1 = 0) : INV (stN N (pv B n N a) (tvl B n (a + 1))) := by
  have h0 := er_0 h (by decide)
  have h1 := rN_0 h0.1
  have h2 := nmc_0 h1.2.1
  have h3 := rP_0 h1.1
  have hh := iv_h hI
  have hw := why_z (Classical.not_not.mp h0.2.1)
  have hq := (iv_q hI (tvl B n (a + 1)) (by omega)).2.2
  exact INV_st hI h3.2.2.2.1 h2.2.2 hw.2.1 (by omega) hw.1
theorem INV_top (hI : INV N) {q v : Nat} (hq : q < N 1) (hv : v ≤ 3) : INV (up N (952 + 9 * q + 0) v) := by
  have hh := iv_h hI
  have e : ∀ k, k ≠ 952 + 9 * q + 0 → up N (952 + 9 * q + 0) v k = N k := fun k hk => up_ne hk
  have ek : up N (952 + 9 * q + 0) v (952 + 9 * q + 0) = v := up_eq rfl
  have e0 := e 0 (by omega)
  have e1 := e 1 (by omega)
  have e2 := e 2 (by omega)
  have e3 := e 3 (by omega)
  have esP : ∀ q' i', q' < 10 → sP (up N (952 + 9 * q + 0) v) q' i' = sP N q' i' := fun q' i' hq' => by
    unfold sP
    have g := (iv_q hI q' hq').2.2
    rw [e (952 + 9 * q' + 5) (by omega)]
    exact fx_ext fun k hk => e _ (by omega)
  refine ⟨by rw [e0, e1, e2, e3]; exact hh, ?_, ?_, ?_, ?_, ?_, ?_, ?_, ?_, ?_, ?_, ?_, ?_, ?_, ?_, ?_⟩
  · intro k hk
    by_cases hs : k = 952 + 9 * q + 0
    · rw [hs, ek]; omega
    · rw [e k hs]; exact iv_b hI k hk
  · intro q' hq'
    have g := iv_q hI q' hq'
    rw [e (952 + 9 * q' + 1) (by omega), e (952 + 9 * q' + 5) (by omega)]
    refine ⟨?_, g.2⟩
    by_cases hs : 952 + 9 * q' + 0 = 952 + 9 * q + 0
    · rw [hs, ek]; omega
    · rw [e _ hs]; exact g.1
  · intro q' k hq' hk
    have g := iv_q hI q' hq'
    rw [e _ (by omega)] at hk; rw [e _ (by omega), e0]; exact iv_ck hI q' k hq' hk
  · intro q' k hq' hk
    have g := iv_q hI q' hq'
    rw [e _ (by omega)] at hk; rw [e _ (by omega), e0]; exact iv_st hI q' k hq' hk
  · intro q' k l hq' hk hl
    have g := iv_q hI q' hq'
    rw [e _ (by omega)] at hl; rw [e _ (by omega), e _ (by omega)]; exact iv_di hI q' k l hq' hk hl
  · intro i' hi'; rw [e _ (by omega), e _ (by omega)]; exact iv_p hI i' hi'
  · intro i' t hi' ht; rw [e _ (by omega)]; exact iv_t hI i' t hi' ht
  · intro i' q' hi' hq'; rw [e _ (by omega), e _ (by omega), e _ (by omega)]; exact iv_pq hI i' q' hi' hq'
  · intro i' j hi' hj; rw [e _ (by omega)]; exact iv_w hI i' j hi' hj
  · intro i' w h1 h2 h3; rw [e0] at h1; rw [e _ (by omega)]; exact iv_z1 hI i' w h1 h2 h3
  · intro q' w h1 h2 h3; rw [e1] at h1; rw [e _ (by omega)]; exact iv_z2 hI q' w h1 h2 h3
  · intro i' q' h1 h2 h3; rw [e1] at h2; rw [e _ (by omega), e _ (by omega), e _ (by omega)]; exact iv_z3 hI i' q' h1 h2 h3
  · intro i' q' h1 h2 h3; rw [e _ (by omega)] at h3; rw [esP q' i' h2, e _ (by omega)]; exact iv_sc hI i' q' h1 h2 h3
  · intro q' k h1 h2
    have g := iv_q hI q' h1
    rw [e _ (by omega)] at h2
    have g2 := iv_st hI q' k h1 h2
    rw [e (952 + 9 * q' + (6 + k)) (by omega), e _ (by omega)]; exact iv_ts hI q' k h1 h2
  · intro i' k h1
    rw [e0] at h1
    have g := iv_nm hI i' k h1
    rw [e _ (by omega)]
    refine ⟨g.1, fun h2 => ?_⟩
    have g6 := (iv_p hI i' (by omega)).2
    rw [e _ (by omega)]
    exact g.2 h2
theorem INV_swap {a : Nat} (hI : INV N) (h : (q_swap B n N a).1 = 0) : INV (swN N (tvl B n a) (tvl B n (a + 1))) := by
  have h1 := rN_0 (er_0 h (by decide)).1
  have h2 := nmc_0 h1.2.1
  have h3 := nmc_0 (rN_0 h1.1).2.1
  have hh := iv_h hI
  have g1 := (iv_q hI (tvl B n a) (by omega)).1
  have g2 := (iv_q hI (tvl B n (a + 1)) (by omega)).1
  have k1 := INV_top hI h3.2.2 g2
  exact INV_top k1 (q := tvl B n (a + 1)) (by rw [up_ne (by omega)]; exact h2.2.2) g1
end XInv2
