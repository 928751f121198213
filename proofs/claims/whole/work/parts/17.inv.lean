/-! ===== seats, mathematically ===== -/
section InvSeats
variable {N : Nat → Nat}
def sd (N : Nat → Nat) (i q : Nat) : Prop := ∃ k, k < N (952 + 9 * q + 5) ∧ N (952 + 9 * q + (6 + k)) = i
theorem sd_iff {i q : Nat} : sP N q i < N (952 + 9 * q + 5) ↔ sd N i q := ⟨fun h => ⟨_, h, fx_is (f := fun k => N (952 + 9 * q + (6 + k))) h⟩, fun ⟨k, h1, h2⟩ => fx_of ⟨k, h1, h2⟩⟩
theorem stN_lo {i q k : Nat} (h : k < 952) : stN N i q k = N k := by unfold stN; rw [up_ne (by omega), up_ne (by omega)]
theorem stN_ne {i q q' w : Nat} (h : q' ≠ q) (hw : w < 9) (hs : N (952 + 9 * q + 5) < 3) : stN N i q (952 + 9 * q' + w) = N (952 + 9 * q' + w) := by unfold stN; rw [up_ne (by omega), up_ne (by omega)]
theorem stN_w {i q w : Nat} (hw : w < 5) : stN N i q (952 + 9 * q + w) = N (952 + 9 * q + w) := by unfold stN; rw [up_ne (by omega), up_ne (by omega)]
theorem stN_5 {i q : Nat} : stN N i q (952 + 9 * q + 5) = N (952 + 9 * q + 5) + 1 := by unfold stN; rw [up_eq rfl]
theorem stN_6 {i q k : Nat} : stN N i q (952 + 9 * q + (6 + k)) = if k = N (952 + 9 * q + 5) then i else N (952 + 9 * q + (6 + k)) := by
  unfold stN
  rw [up_ne (by omega)]
  by_cases h : k = N (952 + 9 * q + 5)
  · rw [up_eq (by omega), if_pos h]
  · rw [up_ne (by omega), if_neg h]
theorem stN_sd {i q i' q' : Nat} (hs : N (952 + 9 * q + 5) < 3) (hT : N (952 + 9 * q' + 5) ≤ 3) : sd (stN N i q) i' q' ↔ sd N i' q' ∨ (i' = i ∧ q' = q) := by
  by_cases h : q' = q
  · subst h
    constructor
    · rintro ⟨k, h1, h2⟩
      rw [stN_5] at h1
      rw [stN_6] at h2
      split at h2
      · exact Or.inr ⟨h2.symm, rfl⟩
      · exact Or.inl ⟨k, by omega, h2⟩
    · rintro (⟨k, h1, h2⟩ | ⟨rfl, -⟩)
      · exact ⟨k, by rw [stN_5]; omega, by rw [stN_6, if_neg (by omega)]; exact h2⟩
      · exact ⟨N (952 + 9 * q' + 5), by rw [stN_5]; omega, by rw [stN_6, if_pos rfl]⟩
  · constructor
    · rintro ⟨k, h1, h2⟩
      rw [stN_ne h (by omega) hs] at h1
      rw [stN_ne h (by omega) hs] at h2
      exact Or.inl ⟨k, h1, h2⟩
    · rintro (⟨k, h1, h2⟩ | ⟨-, h3⟩)
      · exact ⟨k, by rw [stN_ne h (by omega) hs]; exact h1, by rw [stN_ne h (by omega) hs]; exact h2⟩
      · exact absurd h3 h
theorem INV_st (hI : INV N) {i q : Nat} (hi : i < N 0) (hq : q < N 1) (hn : ¬ sP N q i < N (952 + 9 * q + 5)) (hs : N (952 + 9 * q + 5) < 3) (hl : N (8 + 59 * i + 1) ≠ 0) : INV (stN N i q) := by
  have hh := iv_h hI
  have hnd : ¬ sd N i q := fun h => hn (sd_iff.mpr h)
  have lo : ∀ k, k < 952 → stN N i q k = N k := fun k hk => stN_lo hk
  refine ⟨by rw [lo 0 (by omega), lo 1 (by omega), lo 2 (by omega), lo 3 (by omega)]; exact hh, ?_, ?_, ?_, ?_, ?_, ?_, ?_, ?_, ?_, ?_, ?_, ?_, ?_, ?_, ?_⟩
  · intro k hk
    unfold stN up
    have := iv_b hI k hk
    split
    · omega
    · split <;> omega
  · intro q' hq'
    by_cases h : q' = q
    · subst h
      rw [stN_w (by omega), stN_w (by omega), stN_5]
      have := iv_q hI q' hq'
      omega
    · rw [stN_ne h (by omega) hs, stN_ne h (by omega) hs, stN_ne h (by omega) hs]
      exact iv_q hI q' hq'
  · intro q' k hq' hk
    rw [lo 0 (by omega)]
    have h3 := iv_q hI q' hq'
    by_cases h : q' = q
    · subst h
      rw [stN_w (by omega)] at hk
      rw [stN_w (by omega)]
      exact iv_ck hI q' k hq' hk
    · rw [stN_ne h (by omega) hs] at hk
      rw [stN_ne h (by omega) hs]
      exact iv_ck hI q' k hq' hk
  · intro q' k hq' hk
    rw [lo 0 (by omega)]
    have h3 := iv_q hI q' hq'
    by_cases h : q' = q
    · subst h
      rw [stN_5] at hk
      rw [stN_6]
      split
      · exact hi
      · exact iv_st hI q' k hq' (by omega)
    · rw [stN_ne h (by omega) hs] at hk
      rw [stN_ne h (by omega) hs]
      exact iv_st hI q' k hq' hk
  · intro q' k l hq' hkl hl'
    have h3 := iv_q hI q' hq'
    by_cases h : q' = q
    · subst h
      rw [stN_5] at hl'
      rw [stN_6, stN_6, if_neg (by omega)]
      split
      · intro h4
        exact hnd ⟨k, by omega, h4⟩
      · exact iv_di hI q' k l hq' hkl (by omega)
    · rw [stN_ne h (by omega) hs] at hl'
      rw [stN_ne h (by omega) hs, stN_ne h (by omega) hs]
      exact iv_di hI q' k l hq' hkl hl'
  · intro j hj
    rw [lo _ (by omega), lo _ (by omega)]
    exact iv_p hI j hj
  · intro j t hj ht
    rw [lo _ (by omega)]
    exact iv_t hI j t hj ht
  · intro j q' hj hq'
    rw [lo _ (by omega), lo _ (by omega), lo _ (by omega)]
    exact iv_pq hI j q' hj hq'
  · intro j j' hj hj'
    rw [lo _ (by omega)]
    exact iv_w hI j j' hj hj'
  · intro j w h1 hj hw
    rw [lo _ (by omega)] at h1
    rw [lo _ (by omega)]
    exact iv_z1 hI j w h1 hj hw
  · intro q' w h1 hq' hw
    rw [lo _ (by omega)] at h1
    rw [stN_ne (by omega) hw hs]
    exact iv_z2 hI q' w h1 hq' hw
  · intro j q' hj h1 hq'
    rw [lo _ (by omega)] at h1
    rw [lo _ (by omega), lo _ (by omega), lo _ (by omega)]
    exact iv_z3 hI j q' hj h1 hq'
  · intro j q' hj hq' h1
    rw [lo _ (by omega)] at h1
    exact sd_iff.mpr ((stN_sd hs (iv_q hI q' hq').2.2).mpr (Or.inl (sd_iff.mp (iv_sc hI j q' hj hq' h1))))
  · intro q' k hq' hk
    have h3 := iv_q hI q' hq'
    by_cases h : q' = q
    · subst h
      rw [stN_5] at hk
      rw [stN_6]
      split
      · rw [lo _ (by omega)]; exact hl
      · have := iv_st hI q' k hq' (by omega)
        rw [lo _ (by omega)]
        exact iv_ts hI q' k hq' (by omega)
    · rw [stN_ne h (by omega) hs] at hk
      have := iv_st hI q' k hq' hk
      rw [stN_ne h (by omega) hs, lo _ (by omega)]
      exact iv_ts hI q' k hq' hk
  · intro j k hj
    rw [lo _ (by omega)] at hj
    have h4 := iv_p hI j (by omega)
    have h5 := iv_nm hI j k hj
    rw [lo (8 + 59 * j + 6) (by omega)]
    refine ⟨h5.1, fun h6 => ?_⟩
    rw [lo _ (by omega)]
    exact h5.2 h6
theorem lvN_lo {i q k : Nat} (h : k < 952) (h2 : k ≠ 8 + 59 * i + (23 + q)) : lvN N i q k = N k := by unfold lvN; rw [up_ne h2, up_ne (by omega)]; exact shN_at (by omega)
theorem lvN_sc {i q : Nat} : lvN N i q (8 + 59 * i + (23 + q)) = 0 := by unfold lvN; rw [up_eq rfl]
theorem lvN_ne {i q q' w : Nat} (hi : i < 16) (hq : q < 10) (h : q' ≠ q) (hw : w < 9) (hs : N (952 + 9 * q + 5) ≤ 3) : lvN N i q (952 + 9 * q' + w) = N (952 + 9 * q' + w) := by
  unfold lvN; rw [up_ne (by omega), up_ne (by omega)]; exact shN_at (by omega)
theorem lvN_w {i q w : Nat} (hi : i < 16) (hq : q < 10) (hw : w < 5) : lvN N i q (952 + 9 * q + w) = N (952 + 9 * q + w) := by
  unfold lvN; rw [up_ne (by omega), up_ne (by omega)]; exact shN_at (by omega)
theorem lvN_5 {i q : Nat} (hi : i < 16) (hq : q < 10) : lvN N i q (952 + 9 * q + 5) = N (952 + 9 * q + 5) - 1 := by
  unfold lvN; rw [up_ne (by omega), up_eq rfl]
theorem lvN_6 {i q k : Nat} (hi : i < 16) (hq : q < 10) : lvN N i q (952 + 9 * q + (6 + k)) = if sP N q i ≤ k ∧ k < N (952 + 9 * q + 5) - 1 then N (952 + 9 * q + (6 + (k + 1))) else N (952 + 9 * q + (6 + k)) := by
  unfold lvN; rw [up_ne (by omega), up_ne (by omega)]
  unfold shN
  by_cases h : sP N q i ≤ k ∧ k < N (952 + 9 * q + 5) - 1
  · rw [if_pos (by omega), if_pos h]; exact congrArg N (by omega)
  · rw [if_neg (by omega), if_neg h]
theorem lvN_sd (hI : INV N) {i q i' q' : Nat} (hi : i < 16) (hq : q < 10) (hq' : q' < 10) (hs : sP N q i < N (952 + 9 * q + 5)) : sd (lvN N i q) i' q' ↔ sd N i' q' ∧ ¬ (i' = i ∧ q' = q) := by
  have h0 := (iv_q hI q hq).2.2
  have h1 := (iv_q hI q' hq').2.2
  have hat : N (952 + 9 * q + (6 + sP N q i)) = i := fx_is (f := fun k => N (952 + 9 * q + (6 + k))) hs
  by_cases h : q' = q
  · subst h
    constructor
    · rintro ⟨k, h2, h3⟩
      rw [lvN_5 hi hq] at h2
      rw [lvN_6 hi hq] at h3
      split at h3
      · refine ⟨⟨k + 1, by omega, h3⟩, fun h4 => ?_⟩
        exact iv_di hI q' (sP N q' i) (k + 1) hq (by omega) (by omega) (by rw [hat, h3, h4.1])
      · refine ⟨⟨k, by omega, h3⟩, fun h4 => ?_⟩
        exact iv_di hI q' k (sP N q' i) hq (by omega) (by omega) (by rw [hat, h3, h4.1])
    · rintro ⟨⟨k, h2, h3⟩, h4⟩
      rcases Nat.lt_trichotomy k (sP N q' i) with h5 | h5 | h5
      · exact ⟨k, by rw [lvN_5 hi hq]; omega, by rw [lvN_6 hi hq, if_neg (by omega)]; exact h3⟩
      · exact absurd ⟨by rw [← h3, h5, hat], rfl⟩ h4
      · refine ⟨k - 1, by rw [lvN_5 hi hq]; omega, ?_⟩
        rw [lvN_6 hi hq, if_pos (by omega), ← h3]
        exact congrArg N (by omega)
  · constructor
    · rintro ⟨k, h2, h3⟩
      rw [lvN_ne hi hq h (by omega) h0] at h2
      rw [lvN_ne hi hq h (by omega) h0] at h3
      exact ⟨⟨k, h2, h3⟩, fun h4 => h h4.2⟩
    · rintro ⟨⟨k, h2, h3⟩, -⟩
      exact ⟨k, by rw [lvN_ne hi hq h (by omega) h0]; exact h2, by rw [lvN_ne hi hq h (by omega) h0]; exact h3⟩
theorem lvN_le {i q k : Nat} (h : k < 952) : lvN N i q k ≤ N k := by
  by_cases h2 : k = 8 + 59 * i + (23 + q)
  · rw [h2, lvN_sc]; exact Nat.zero_le _
  · rw [lvN_lo h h2]; exact Nat.le_refl _
theorem INV_lv (hI : INV N) {i q : Nat} (hi : i < 16) (hq : q < 10) (hs : sP N q i < N (952 + 9 * q + 5)) : INV (lvN N i q) := by
  have hh := iv_h hI
  have h0 := (iv_q hI q hq).2.2
  have lo : ∀ k, k < 952 → k ≠ 8 + 59 * i + (23 + q) → lvN N i q k = N k := fun k hk h2 => lvN_lo hk h2
  refine ⟨by rw [lo 0 (by omega) (by omega), lo 1 (by omega) (by omega), lo 2 (by omega) (by omega), lo 3 (by omega) (by omega)]; exact hh, ?_, ?_, ?_, ?_, ?_, ?_, ?_, ?_, ?_, ?_, ?_, ?_, ?_, ?_, ?_⟩
  · intro k hk
    unfold lvN up shN
    have := iv_b hI k hk
    have := iv_b hI (k + 1) (by omega)
    repeat' split
    all_goals omega
  · intro q' hq'
    have := iv_q hI q' hq'
    by_cases h : q' = q
    · subst h
      rw [lvN_w hi hq (by omega), lvN_w hi hq (by omega), lvN_5 hi hq]
      omega
    · rw [lvN_ne hi hq h (by omega) h0, lvN_ne hi hq h (by omega) h0, lvN_ne hi hq h (by omega) h0]
      exact this
  · intro q' k hq' hk
    rw [lo 0 (by omega) (by omega)]
    have h3 := iv_q hI q' hq'
    by_cases h : q' = q
    · subst h
      rw [lvN_w hi hq (by omega)] at hk
      rw [lvN_w hi hq (by omega)]
      exact iv_ck hI q' k hq' hk
    · rw [lvN_ne hi hq h (by omega) h0] at hk
      rw [lvN_ne hi hq h (by omega) h0]
      exact iv_ck hI q' k hq' hk
  · intro q' k hq' hk
    rw [lo 0 (by omega) (by omega)]
    have h3 := iv_q hI q' hq'
    by_cases h : q' = q
    · subst h
      rw [lvN_5 hi hq] at hk
      rw [lvN_6 hi hq]
      split
      · exact iv_st hI q' (k + 1) hq' (by omega)
      · exact iv_st hI q' k hq' (by omega)
    · rw [lvN_ne hi hq h (by omega) h0] at hk
      rw [lvN_ne hi hq h (by omega) h0]
      exact iv_st hI q' k hq' hk
  · intro q' k l hq' hkl hl'
    have h3 := iv_q hI q' hq'
    by_cases h : q' = q
    · subst h
      rw [lvN_5 hi hq] at hl'
      rw [lvN_6 hi hq, lvN_6 hi hq]
      split <;> split
      · exact iv_di hI q' (k + 1) (l + 1) hq' (by omega) (by omega)
      · omega
      · exact iv_di hI q' k (l + 1) hq' (by omega) (by omega)
      · exact iv_di hI q' k l hq' (by omega) (by omega)
    · rw [lvN_ne hi hq h (by omega) h0] at hl'
      rw [lvN_ne hi hq h (by omega) h0, lvN_ne hi hq h (by omega) h0]
      exact iv_di hI q' k l hq' hkl hl'
  · intro j hj
    rw [lo _ (by omega) (by omega), lo _ (by omega) (by omega)]
    exact iv_p hI j hj
  · intro j t hj ht
    rw [lo _ (by omega) (by omega)]
    exact iv_t hI j t hj ht
  · intro j q' hj hq'
    rw [lo _ (by omega) (by omega), lo (8 + 59 * j + (33 + q')) (by omega) (by omega)]
    have h1 := iv_pq hI j q' hj hq'
    have h2 := lvN_le (N := N) (i := i) (q := q) (k := 8 + 59 * j + (23 + q')) (by omega)
    omega
  · intro j j' hj hj'
    rw [lo _ (by omega) (by omega)]
    exact iv_w hI j j' hj hj'
  · intro j w h1 hj hw
    rw [lo _ (by omega) (by omega)] at h1
    have h2 := lvN_le (N := N) (i := i) (q := q) (k := 8 + 59 * j + w) (by omega)
    have := iv_z1 hI j w h1 hj hw
    omega
  · intro q' w h1 hq' hw
    rw [lo _ (by omega) (by omega)] at h1
    have h4 := iv_z2 hI q' w h1 hq' hw
    have h5 := iv_z2 hI q' 5 h1 hq' (by omega)
    rw [lvN_ne hi hq (by intro h; subst h; omega) hw h0]
    exact h4
  · intro j q' hj h1 hq'
    rw [lo _ (by omega) (by omega)] at h1
    have h3 := iv_z3 hI j q' hj h1 hq'
    have h2 := lvN_le (N := N) (i := i) (q := q) (k := 8 + 59 * j + (23 + q')) (by omega)
    rw [lo _ (by omega) (by omega), lo (8 + 59 * j + (33 + q')) (by omega) (by omega)]
    omega
  · intro j q' hj hq' h1
    by_cases h : j = i ∧ q' = q
    · rw [h.1, h.2, lvN_sc] at h1
      exact absurd rfl h1
    · have h2 := lvN_le (N := N) (i := i) (q := q) (k := 8 + 59 * j + (23 + q')) (by omega)
      exact sd_iff.mpr ((lvN_sd hI hi hq hq' hs).mpr ⟨sd_iff.mp (iv_sc hI j q' hj hq' (by omega)), h⟩)
  · intro q' k hq' hk
    have h3 := iv_q hI q' hq'
    have h4 : sd (lvN N i q) (lvN N i q (952 + 9 * q' + (6 + k))) q' := ⟨k, hk, rfl⟩
    obtain ⟨⟨k', h5, h6⟩, -⟩ := (lvN_sd hI hi hq hq' hs).mp h4
    have := iv_st hI q' k' hq' h5
    rw [← h6, lo _ (by omega) (by omega)]
    exact iv_ts hI q' k' hq' h5
  · intro j k hj
    rw [lo _ (by omega) (by omega)] at hj
    have h4 := iv_p hI j (by omega)
    have h5 := iv_nm hI j k hj
    rw [lo (8 + 59 * j + 6) (by omega) (by omega)]
    refine ⟨h5.1, fun h6 => ?_⟩
    rw [lo _ (by omega) (by omega)]
    exact h5.2 h6
end InvSeats
