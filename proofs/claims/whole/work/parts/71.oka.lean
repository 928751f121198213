/-! ===== an abstract state stays in order ===== -/
section OkA
variable {N : Nat → Nat} {σ : ev_A}
theorem INV_bd (hI : INV N) {i q f v : Nat} (hi : i < N 0) (hq : q < N 1) (hv : (f = 13 ∧ v ≤ 3) ∨ (f = 33 ∧ v ≤ 1)) : INV (up N (8 + 59 * i + (f + q)) v) := by
  have hh := iv_h hI
  have e : ∀ k, k ≠ 8 + 59 * i + (f + q) → up N (8 + 59 * i + (f + q)) v k = N k := fun k hk => up_ne hk
  have ek : up N (8 + 59 * i + (f + q)) v (8 + 59 * i + (f + q)) = v := up_eq rfl
  have e0 := e 0 (by omega)
  have e1 := e 1 (by omega)
  have e2 := e 2 (by omega)
  have e3 := e 3 (by omega)
  have hc : ∀ k, 952 ≤ k → up N (8 + 59 * i + (f + q)) v k = N k := fun k hk => e k (by omega)
  have esP : ∀ q' i', sP (up N (8 + 59 * i + (f + q)) v) q' i' = sP N q' i' := fun q' i' => by
    unfold sP
    rw [hc (952 + 9 * q' + 5) (by omega)]
    exact fx_ext fun k _ => hc _ (by omega)
  refine ⟨by rw [e0, e1, e2, e3]; exact hh, ?_, ?_, ?_, ?_, ?_, ?_, ?_, ?_, ?_, ?_, ?_, ?_, ?_, ?_, ?_⟩
  · intro k hk
    by_cases hs : k = 8 + 59 * i + (f + q)
    · rw [hs, ek]; omega
    · rw [e k hs]; exact iv_b hI k hk
  · intro q' hq'; rw [hc _ (by omega), hc _ (by omega), hc _ (by omega)]; exact iv_q hI q' hq'
  · intro q' k hq' hk; rw [hc _ (by omega)] at hk; rw [hc _ (by omega), e0]; exact iv_ck hI q' k hq' hk
  · intro q' k hq' hk; rw [hc _ (by omega)] at hk; rw [hc _ (by omega), e0]; exact iv_st hI q' k hq' hk
  · intro q' k l hq' hk hl; rw [hc _ (by omega)] at hl; rw [hc _ (by omega), hc _ (by omega)]; exact iv_di hI q' k l hq' hk hl
  · intro i' hi'; rw [e _ (by omega), e _ (by omega)]; exact iv_p hI i' hi'
  · intro i' t hi' ht; rw [e _ (by omega)]; exact iv_t hI i' t hi' ht
  · intro i' q' hi' hq'
    have g := iv_pq hI i' q' hi' hq'
    refine ⟨?_, ?_, ?_⟩
    · by_cases hs : 8 + 59 * i' + (13 + q') = 8 + 59 * i + (f + q)
      · rw [hs, ek]; omega
      · rw [e _ hs]; exact g.1
    · rw [e _ (by omega)]; exact g.2.1
    · by_cases hs : 8 + 59 * i' + (33 + q') = 8 + 59 * i + (f + q)
      · rw [hs, ek]; omega
      · rw [e _ hs]; exact g.2.2
  · intro i' j hi' hj; rw [e _ (by omega)]; exact iv_w hI i' j hi' hj
  · intro i' w h1 h2 h3; rw [e0] at h1; rw [e _ (by omega)]; exact iv_z1 hI i' w h1 h2 h3
  · intro q' w h1 h2 h3; rw [e1] at h1; rw [hc _ (by omega)]; exact iv_z2 hI q' w h1 h2 h3
  · intro i' q' h1 h2 h3; rw [e1] at h2; rw [e _ (by omega), e _ (by omega), e _ (by omega)]; exact iv_z3 hI i' q' h1 h2 h3
  · intro i' q' h1 h2 h3; rw [e _ (by omega)] at h3; rw [esP, hc _ (by omega)]; exact iv_sc hI i' q' h1 h2 h3
  · intro q' k h1 h2; rw [hc _ (by omega)] at h2; rw [hc (952 + 9 * q' + (6 + k)) (by omega), e _ (by omega)]; exact iv_ts hI q' k h1 h2
  · intro i' k h1
    rw [e0] at h1
    have g := iv_nm hI i' k h1
    rw [e _ (by omega)]
    refine ⟨g.1, fun h2 => ?_⟩
    have g6 := (iv_p hI i' (by omega)).2
    rw [e _ (by omega)]
    exact g.2 h2
theorem INV_s1 (hI : INV N) {i q v : Nat} (hi : i < N 0) (hq : q < N 1) (hv : v ≤ 9) (hs : sP N q i < N (952 + 9 * q + 5)) : INV (up N (8 + 59 * i + (23 + q)) v) := by
  have hh := iv_h hI
  refine INV_sc hI (fun k _ hk => up_ne (hk i q (by omega) (by omega))) (fun i' q' hi' hq' => ?_)
  by_cases c : i' = i ∧ q' = q
  · rw [c.1, c.2, up_eq rfl]; exact ⟨hv, fun _ => hs⟩
  · rw [up_ne (by omega)]; exact ⟨(iv_pq hI i' q' hi' hq').2.1, iv_sc hI i' q' hi' hq'⟩
end OkA
