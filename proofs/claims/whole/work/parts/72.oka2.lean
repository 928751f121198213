/-! ===== an abstract state stays in order: the changes ===== -/
section OkA2
variable {N : Nat → Nat} {σ : ev_A}
theorem OKA_bid (hA : OKA σ) (x y z : Int32) : OKA (s_bid σ x y z).2.2 := by
  have hI : INV (aN σ) := hA.1
  have hh := iv_h hI
  unfold s_bid
  by_cases h0 : aE σ = 0
  · rw [if_pos h0]; exact hA
  · rw [if_neg h0]
    cases h1 : rx (aN σ 0) x with
    | none => exact hA
    | some i =>
      have hi := (rx_s (by omega) h1).1
      cases h2 : rx (aN σ 1) y with
      | none => exact hA
      | some j =>
        have hj := (rx_s (by omega) h2).1
        show OKA (if aN σ (8 + 59 * i + 1) = 0 then _ else _ : Nat × Int32 × ev_A).2.2
        by_cases h3 : aN σ (8 + 59 * i + 1) = 0
        · rw [if_pos h3]; exact hA
        · rw [if_neg h3]
          cases h4 : rx 4 z with
          | none => exact hA
          | some b =>
            have hb := (rx_s (by omega) h4).1
            exact OKA_ch hA (INV_bd hI hi hj (Or.inl ⟨rfl, by omega⟩))
theorem OKA_declare (hA : OKA σ) (x y : Int32) {z : Nat} (hz : z < 2) : OKA (s_declare σ x y z).2.2 := by
  have hI : INV (aN σ) := hA.1
  have hh := iv_h hI
  unfold s_declare
  by_cases h0 : aE σ = 0
  · rw [if_pos h0]; exact hA
  · rw [if_neg h0]
    cases h1 : rx (aN σ 0) x with
    | none => exact hA
    | some i =>
      have hi := (rx_s (by omega) h1).1
      cases h2 : rx (aN σ 1) y with
      | none => exact hA
      | some j =>
        have hj := (rx_s (by omega) h2).1
        exact OKA_ch hA (INV_bd hI hi hj (Or.inr ⟨rfl, by omega⟩))
theorem OKA_assign (hA : OKA σ) (x y : Int32) : OKA (s_assign σ x y).2.2 := by
  have hI : INV (aN σ) := hA.1
  have hh := iv_h hI
  unfold s_assign
  by_cases h0 : aE σ = 0
  · rw [if_pos h0]; exact hA
  · rw [if_neg h0]
    cases h1 : rx (aN σ 0) x with
    | none => exact hA
    | some i =>
      have hi := (rx_s (by omega) h1).1
      cases h2 : rx (aN σ 1) y with
      | none => exact hA
      | some j =>
        have hj := (rx_s (by omega) h2).1
        show OKA (if why (aN σ) i j = 0 then _ else _ : Nat × Int32 × ev_A).2.2
        by_cases h3 : why (aN σ) i j = 0
        · rw [if_pos h3]
          obtain ⟨w1', w2, w3, w4, w5⟩ := why_0 h3
          have hT := iv_q hI j (by omega)
          exact OKA_ch hA (INV_st hI hi hj w2 (by omega) w1')
        · rw [if_neg h3]; exact hA
theorem OKA_unassign (hA : OKA σ) (x y : Int32) : OKA (s_unassign σ x y).2.2 := by
  have hI : INV (aN σ) := hA.1
  have hh := iv_h hI
  unfold s_unassign
  by_cases h0 : aE σ = 0
  · rw [if_pos h0]; exact hA
  · rw [if_neg h0]
    cases h1 : rx (aN σ 0) x with
    | none => exact hA
    | some i =>
      have hi := (rx_s (by omega) h1).1
      cases h2 : rx (aN σ 1) y with
      | none => exact hA
      | some j =>
        have hj := (rx_s (by omega) h2).1
        show OKA (if sP (aN σ) j i < aN σ (952 + 9 * j + 5) then _ else _ : Nat × Int32 × ev_A).2.2
        by_cases h3 : sP (aN σ) j i < aN σ (952 + 9 * j + 5)
        · rw [if_pos h3]
          exact OKA_ch hA (INV_lv hI (by omega) (by omega) h3)
        · rw [if_neg h3]; exact hA
theorem OKA_score (hA : OKA σ) (x y z : Int32) : OKA (s_score σ x y z).2.2 := by
  have hI : INV (aN σ) := hA.1
  have hh := iv_h hI
  unfold s_score
  by_cases h0 : aE σ = 0
  · rw [if_pos h0]; exact hA
  · rw [if_neg h0]
    cases h1 : rx (aN σ 0) x with
    | none => exact hA
    | some i =>
      have hi := (rx_s (by omega) h1).1
      cases h2 : rx (aN σ 1) y with
      | none => exact hA
      | some j =>
        have hj := (rx_s (by omega) h2).1
        show OKA (if sP (aN σ) j i < aN σ (952 + 9 * j + 5) then _ else _ : Nat × Int32 × ev_A).2.2
        by_cases h3 : sP (aN σ) j i < aN σ (952 + 9 * j + 5)
        · rw [if_pos h3]
          cases h4 : rx 10 z with
          | none => exact hA
          | some b =>
            have hb := (rx_s (by omega) h4).1
            show OKA (if b = 0 then _ else _ : Nat × Int32 × ev_A).2.2
            by_cases h5 : b = 0
            · rw [if_pos h5]; exact hA
            · rw [if_neg h5]; exact OKA_ch hA (INV_s1 hI hi hj (by omega) h3)
        · rw [if_neg h3]; exact hA
theorem OKA_fill (hA : OKA σ) : OKA (s_fill σ).2.2 := by
  unfold s_fill
  by_cases h0 : aE σ = 0
  · rw [if_pos h0]; exact hA
  · rw [if_neg h0]; exact OKA_ch hA (flN_ok hA.1).1
theorem OKA_talk (hA : OKA σ) (x : Int32) : OKA (s_talk σ x).2.2 := by
  have hI : INV (aN σ) := hA.1
  have hh := iv_h hI
  unfold s_talk
  by_cases h0 : aE σ = 0
  · rw [if_pos h0]; exact hA
  · rw [if_neg h0]
    cases h2 : rx (aN σ 1) x with
    | none => exact hA
    | some j =>
      have hj := (rx_s (by omega) h2).1
      show OKA (if scs (aN σ) j (aN σ 0) < 2 then _ else _ : Nat × Int32 × ev_A).2.2
      by_cases h3 : scs (aN σ) j (aN σ 0) < 2
      · rw [if_pos h3]; exact hA
      · rw [if_neg h3]; exact OKA_ch hA (INV_tl hI (by omega))
theorem OKA_undo (hA : OKA σ) : OKA (s_undo σ).2.2 := by
  unfold s_undo
  by_cases h0 : aK σ = 0
  · rw [if_pos h0]; exact hA
  · rw [if_neg h0]
    obtain ⟨h1, h2, h3, h4, h5⟩ := hA
    exact ⟨h4 0 (by omega), h2, Nat.le_trans (Nat.sub_le _ _) h3, fun i hi => h4 (i + 1) (by have hi : i < aK σ - 1 := hi; omega), h5⟩
theorem OKA_saveState (hA : OKA σ) (x : Int32) : OKA (s_saveState σ x).2.2 := by
  unfold s_saveState
  by_cases h0 : aE σ = 0
  · rw [if_pos h0]; exact hA
  · rw [if_neg h0]
    cases h2 : rx 2 x with
    | none => exact hA
    | some s =>
      obtain ⟨h1, h2, h3, h4, h5, h6, h7⟩ := hA
      refine ⟨h1, h2, h3, h4, fun s' hs' => ?_, fun s' hs' hv => ?_, h7⟩
      · show (if s' = s then 1 else aS σ s') < 2
        split
        · omega
        · exact h5 s' hs'
      · have hv : (if s' = s then 1 else aS σ s') = 1 := hv
        show INV (if s' = s then aN σ else aV σ s')
        by_cases c : s' = s
        · rw [if_pos c]; exact h1
        · rw [if_neg c] at hv ⊢
          exact h6 s' hs' hv
theorem OKA_restoreState (hA : OKA σ) (x : Int32) : OKA (s_restoreState σ x).2.2 := by
  unfold s_restoreState
  cases h2 : rx 2 x with
  | none => exact hA
  | some s =>
    have hs := (rx_s (by omega) h2).1
    show OKA (if aS σ s = 0 then _ else _ : Nat × Int32 × ev_A).2.2
    by_cases c : aS σ s = 0
    · rw [if_pos c]; exact hA
    · rw [if_neg c]
      obtain ⟨h1, h2, h3, h4, h5, h6, h7⟩ := hA
      have := h5 s hs
      exact ⟨h6 s hs (by omega), h2, Nat.zero_le _, fun i hi => absurd hi (Nat.not_lt_zero i), h5, h6, h7⟩
end OkA2
