/-! ===== an item leaves a panel: persons and pancakes ===== -/
section XInv3
variable {G : ev_G} {N : Nat → Nat} {B : Nat → Nat} {n m p : Nat} {μ μ' : ev_M}
theorem INV_ap (hI : INV N) {len k : Nat} {f : Nat → Nat} (h16 : N 0 < 16) (hl1 : 1 ≤ len) (hl : len ≤ 6) (hk : k ≤ 9) (hf : ∀ j, j < len → 97 ≤ f j ∧ f j ≤ 122) : INV (apN N len f k) := by
  have hh := iv_h hI
  have e : ∀ x, x ≠ 0 → (x < 8 + 59 * N 0 ∨ 8 + 59 * N 0 + 13 ≤ x ∨ (8 + 59 * N 0 + 1 ≤ x ∧ x < 8 + 59 * N 0 + 6)) → apN N len f k x = N x := fun x h1 h2 => apN_ne h1 (by omega)
  have e0 : apN N len f k 0 = N 0 + 1 := apN_0
  have e6 : apN N len f k (8 + 59 * N 0 + 6) = len := apN_6
  have el : ∀ j, j < len → apN N len f k (8 + 59 * N 0 + (7 + j)) = f j := fun j h => apN_l h
  have hlt : ∀ x, 8 ≤ x → apN N len f k x < 128 := fun x hx => by
    unfold apN
    rw [if_neg (by omega)]
    split
    · omega
    · split
      · omega
      · split
        · next h => have := hf (x - (8 + 59 * N 0 + 7)) (by omega); omega
        · exact iv_b hI x hx
  generalize apN N len f k = P at e e0 e6 el hlt ⊢
  have e1 := e 1 (by omega) (by omega)
  have e2 := e 2 (by omega) (by omega)
  have e3 := e 3 (by omega) (by omega)
  have hc : ∀ x, 952 ≤ x → P x = N x := fun x hx => e x (by omega) (by omega)
  have esP : ∀ q' i', sP P q' i' = sP N q' i' := fun q' i' => by
    unfold sP
    rw [hc (952 + 9 * q' + 5) (by omega)]
    exact fx_ext fun k _ => hc _ (by omega)
  refine ⟨by rw [e0, e1, e2, e3]; omega, hlt, ?_, ?_, ?_, ?_, ?_, ?_, ?_, ?_, ?_, ?_, ?_, ?_, ?_, ?_⟩
  · intro q' hq'; rw [hc _ (by omega), hc _ (by omega), hc _ (by omega)]; exact iv_q hI q' hq'
  · intro q' j hq' hj; rw [hc _ (by omega)] at hj; rw [hc _ (by omega), e0]; have := iv_ck hI q' j hq' hj; omega
  · intro q' j hq' hj; rw [hc _ (by omega)] at hj; rw [hc _ (by omega), e0]; have := iv_st hI q' j hq' hj; omega
  · intro q' j l hq' hj hl; rw [hc _ (by omega)] at hl; rw [hc _ (by omega), hc _ (by omega)]; exact iv_di hI q' j l hq' hj hl
  · intro i hi
    have g := iv_p hI i hi
    rw [e (8 + 59 * i + 1) (by omega) (by omega)]
    refine ⟨g.1, ?_⟩
    by_cases c : i = N 0
    · rw [c, e6]; exact hl
    · rw [e (8 + 59 * i + 6) (by omega) (by omega)]; exact g.2
  · intro i t hi ht; rw [e _ (by omega) (by omega)]; exact iv_t hI i t hi ht
  · intro i q' hi hq'; rw [e _ (by omega) (by omega), e _ (by omega) (by omega), e _ (by omega) (by omega)]; exact iv_pq hI i q' hi hq'
  · intro i j hi hj; rw [e _ (by omega) (by omega)]; exact iv_w hI i j hi hj
  · intro i w h1 h2 h3; rw [e0] at h1; rw [e _ (by omega) (by omega)]; exact iv_z1 hI i w (by omega) h2 h3
  · intro q' w h1 h2 h3; rw [e1] at h1; rw [hc _ (by omega)]; exact iv_z2 hI q' w h1 h2 h3
  · intro i q' h1 h2 h3; rw [e1] at h2; rw [e _ (by omega) (by omega), e _ (by omega) (by omega), e _ (by omega) (by omega)]; exact iv_z3 hI i q' h1 h2 h3
  · intro i q' h1 h2 h3; rw [e _ (by omega) (by omega)] at h3; rw [esP, hc _ (by omega)]; exact iv_sc hI i q' h1 h2 h3
  · intro q' j h1 h2; rw [hc _ (by omega)] at h2; rw [hc (952 + 9 * q' + (6 + j)) (by omega), e _ (by omega) (by omega)]; exact iv_ts hI q' j h1 h2
  · intro i j h1
    rw [e0] at h1
    by_cases c : i = N 0
    · subst c
      rw [e6]
      exact ⟨hl1, fun h2 => by rw [el j h2]; exact hf j h2⟩
    · have g := iv_nm hI i j (by omega)
      rw [e _ (by omega) (by omega)]
      refine ⟨g.1, fun h2 => ?_⟩
      have g6 := (iv_p hI i (by omega)).2
      rw [e _ (by omega) (by omega)]
      exact g.2 h2
theorem isL_1 {b : Nat} (h : isL b = 1) : 97 ≤ b ∧ b ≤ 122 := by
  unfold isL at h
  split at h
  · next h1 => exact h1
  · omega
theorem INV_person {a : Nat} (hI : INV N) (h16 : N 0 < 16) (h : (q_person B n N a).1 = 0) : INV (apN N (tln B n a) (fun k => B (tst B n a + k)) (tvl B n (a + 1))) := by
  have h1 := rN_0 h
  have h2 := nmc_0 h1.2.1
  have h3 := cmc_0 (rC_0 (er_0 h1.1 (by decide)).1).2.1
  have h4 := tkd_1 h3.1
  exact INV_ap hI h16 h4.2.2.2.2.1 h3.2 (by omega) (fun j hj => isL_1 (h4.2.2.2.2.2.1 j hj))
theorem INV_pk (hI : INV N) {t k : Nat} {f : Nat → Nat} (h10 : N 1 < 10) (ht : t ≤ 3) (hk : k ≤ 3) (hf : ∀ j, j < k → f j < N 0) : INV (pkN N t k f) := by
  have hh := iv_h hI
  have e : ∀ x, x ≠ 1 → (x < 952 + 9 * N 1 ∨ 952 + 9 * N 1 + 5 ≤ x) → pkN N t k f x = N x := fun x h1 h2 => pkN_ne h1 (by omega)
  have e1 : pkN N t k f 1 = N 1 + 1 := pkN_1
  have et : pkN N t k f (952 + 9 * N 1 + 0) = t := pkN_t
  have ek : pkN N t k f (952 + 9 * N 1 + 1) = k := pkN_k
  have ef : ∀ j, j < k → pkN N t k f (952 + 9 * N 1 + (2 + j)) = f j := fun j h => pkN_f h
  have hlt : ∀ x, 8 ≤ x → pkN N t k f x < 128 := fun x hx => by
    unfold pkN
    rw [if_neg (by omega)]
    split
    · omega
    · split
      · omega
      · split
        · next h => have := hf (x - (952 + 9 * N 1 + 2)) (by omega); omega
        · exact iv_b hI x hx
  generalize pkN N t k f = P at e e1 et ek ef hlt ⊢
  have e0 := e 0 (by omega) (by omega)
  have e2 := e 2 (by omega) (by omega)
  have e3 := e 3 (by omega) (by omega)
  have hc : ∀ x, x ≠ 1 → x < 952 → P x = N x := fun x h1 hx => e x h1 (by omega)
  have h5 : ∀ q' j, 5 ≤ j → j < 9 → P (952 + 9 * q' + j) = N (952 + 9 * q' + j) := fun q' j h1 h2 => e _ (by omega) (by omega)
  have esP : ∀ q' i', q' < 10 → sP P q' i' = sP N q' i' := fun q' i' hq' => by
    unfold sP
    have g := (iv_q hI q' hq').2.2
    rw [h5 q' 5 (by omega) (by omega)]
    exact fx_ext fun j hj => h5 q' (6 + j) (by omega) (by omega)
  refine ⟨by rw [e0, e1, e2, e3]; omega, hlt, ?_, ?_, ?_, ?_, ?_, ?_, ?_, ?_, ?_, ?_, ?_, ?_, ?_, ?_⟩
  · intro q' hq'
    have g := iv_q hI q' hq'
    rw [h5 q' 5 (by omega) (by omega)]
    by_cases c : q' = N 1
    · subst c
      rw [et, ek]
      exact ⟨ht, hk, g.2.2⟩
    · rw [e _ (by omega) (by omega), e _ (by omega) (by omega)]; exact g
  · intro q' j hq' hj
    have g := iv_q hI q' hq'
    rw [e0]
    by_cases c : q' = N 1
    · subst c
      rw [ek] at hj
      rw [ef j hj]
      exact hf j hj
    · rw [e _ (by omega) (by omega)] at hj; rw [e _ (by omega) (by omega)]; exact iv_ck hI q' j hq' hj
  · intro q' j hq' hj
    have g := iv_q hI q' hq'
    rw [h5 q' 5 (by omega) (by omega)] at hj
    rw [h5 q' (6 + j) (by omega) (by omega), e0]; exact iv_st hI q' j hq' hj
  · intro q' j l hq' hj hl
    have g := iv_q hI q' hq'
    rw [h5 q' 5 (by omega) (by omega)] at hl
    rw [h5 q' (6 + j) (by omega) (by omega), h5 q' (6 + l) (by omega) (by omega)]; exact iv_di hI q' j l hq' hj hl
  · intro i hi; rw [hc _ (by omega) (by omega), hc _ (by omega) (by omega)]; exact iv_p hI i hi
  · intro i t hi ht; rw [hc _ (by omega) (by omega)]; exact iv_t hI i t hi ht
  · intro i q' hi hq'; rw [hc _ (by omega) (by omega), hc _ (by omega) (by omega), hc _ (by omega) (by omega)]; exact iv_pq hI i q' hi hq'
  · intro i j hi hj; rw [hc _ (by omega) (by omega)]; exact iv_w hI i j hi hj
  · intro i w h1 h2 h3; rw [e0] at h1; rw [hc _ (by omega) (by omega)]; exact iv_z1 hI i w h1 h2 h3
  · intro q' w h1 h2 h3; rw [e1] at h1; rw [e _ (by omega) (by omega)]; exact iv_z2 hI q' w (by omega) h2 h3
  · intro i q' h1 h2 h3; rw [e1] at h2; rw [hc _ (by omega) (by omega), hc _ (by omega) (by omega), hc _ (by omega) (by omega)]; exact iv_z3 hI i q' h1 (by omega) h3
  · intro i q' h1 h2 h3; rw [hc _ (by omega) (by omega)] at h3; rw [esP q' i h2, h5 q' 5 (by omega) (by omega)]; exact iv_sc hI i q' h1 h2 h3
  · intro q' j h1 h2
    have g := iv_q hI q' h1
    rw [h5 q' 5 (by omega) (by omega)] at h2
    have g2 := iv_st hI q' j h1 h2
    rw [h5 q' (6 + j) (by omega) (by omega), hc _ (by omega) (by omega)]; exact iv_ts hI q' j h1 h2
  · intro i j h1
    rw [e0] at h1
    have g := iv_nm hI i j h1
    rw [hc _ (by omega) (by omega)]
    refine ⟨g.1, fun h2 => ?_⟩
    have g6 := (iv_p hI i (by omega)).2
    rw [hc _ (by omega) (by omega)]
    exact g.2 h2
theorem pkE_0 {A : Nat} : ∀ d c, c + d = 4 → c ≤ 3 → (pkE B n N A d c).1.1 = 0 → (pkE B n N A d c).2 ≤ 3 ∧ ∀ j, c ≤ j → j < (pkE B n N A d c).2 → pv B n N (A + j) < N 0
  | 0, c, h1, h2, _ => by omega
  | d + 1, c, h1, h2, h => by
    unfold pkE at h ⊢
    by_cases h3 : 0 < c ∧ tkd B n (A + c) ≠ 1
    · rw [if_pos h3]; exact ⟨h2, fun j hj hj2 => absurd hj2 (Nat.not_lt_of_le hj)⟩
    · rw [if_neg h3] at h ⊢
      by_cases h4 : (pkS B n N A c).1 = 0
      · rw [if_pos h4] at h ⊢
        have h5 := er_0 (show (er (er (rP B n N (0, -1) (A + c)) (fx (fun k => pv B n N (A + k)) (pv B n N (A + c)) c < c) 3 (A + c) B n) (c = 3) 4 (A + c) B n).1 = 0 from h4) (by decide)
        have h6 := rP_0 (er_0 h5.1 (by decide)).1
        have h7 := pkE_0 d (c + 1) (by omega) (by omega) h
        refine ⟨h7.1, fun j hj hj2 => ?_⟩
        by_cases c9 : j = c
        · rw [c9]; exact h6.2.2.2.1
        · exact h7.2 j (by omega) hj2
      · rw [if_neg h4] at h
        exact absurd h h4
theorem INV_pancake {a : Nat} (hI : INV N) (h10 : N 1 < 10) (h : (q_pancake B n N a).1 = 0) : INV (pkN N (tvl B n a) (pkE B n N (a + 1) 4 0).2 (fun k => pv B n N (a + 1 + k))) := by
  unfold q_pancake at h
  by_cases h1 : (rN B n (0, -1) a 0 4).1 = 0
  · rw [if_pos h1] at h
    have h2 := nmc_0 (rN_0 h1).2.1
    have h3 := pkE_0 4 0 rfl (by omega) h
    exact INV_pk hI h10 (by omega) h3.1 (fun j hj => h3.2 j (Nat.zero_le j) hj)
  · rw [if_neg h1] at h
    exact absurd h h1
end XInv3
