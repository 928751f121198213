/-! ===== tokens, mathematically ===== -/
section Lex
variable {B : Nat → Nat} {n : Nat}
/-- the end of a run -/
def ren (P : Nat → Nat) (c : Nat) : Nat → Nat
  | 0 => c
  | k + 1 => if P c = 0 then c else ren P (c + 1) k
theorem ren_is {P : Nat → Nat} {e m : Nat} (d : Nat) : ∀ c, e - c = d → c ≤ e → e ≤ m → (∀ j, c ≤ j → j < e → P j ≠ 0) → (e = m ∨ P e = 0) → ren P c (m - c) = e := by
  induction d with
  | zero =>
    intro c h1 h2 h3 h4 h5
    have : c = e := by omega
    subst this
    rcases h5 with h5 | h5
    · subst h5
      rw [Nat.sub_self]
      rfl
    · cases h : m - c with
      | zero => rfl
      | succ k => exact if_pos h5
  | succ d ih =>
    intro c h1 h2 h3 h4 h5
    obtain ⟨k, hk⟩ : ∃ k, m - c = k + 1 := ⟨m - c - 1, by omega⟩
    rw [hk]
    show (if P c = 0 then c else ren P (c + 1) k) = e
    rw [if_neg (h4 c (Nat.le_refl _) (by omega)), show k = m - (c + 1) by omega]
    exact ih (c + 1) (by omega) (by omega) h3 (fun j hj hj2 => h4 j (by omega) hj2) h5
theorem ren_ok {P : Nat → Nat} {m : Nat} (k : Nat) : ∀ c, m - c = k → c ≤ m → c ≤ ren P c k ∧ ren P c k ≤ m ∧ (∀ j, c ≤ j → j < ren P c k → P j ≠ 0) ∧ (ren P c k = m ∨ P (ren P c k) = 0) := by
  induction k with
  | zero => exact fun c h1 h2 => ⟨Nat.le_refl _, h2, fun j h3 h4 => absurd h4 (by show ¬ j < c; omega), Or.inl (by show c = m; omega)⟩
  | succ k ih =>
    intro c h1 h2
    by_cases h : P c = 0
    · have e : ren P c (k + 1) = c := if_pos h
      rw [e]
      exact ⟨Nat.le_refl _, h2, fun j h3 h4 => absurd h4 (by omega), Or.inr h⟩
    · have e : ren P c (k + 1) = ren P (c + 1) k := if_neg h
      rw [e]
      obtain ⟨a1, a2, a3, a4⟩ := ih (c + 1) (by omega) (by omega)
      refine ⟨by omega, a2, fun j h3 h4 => ?_, a4⟩
      by_cases h5 : j = c
      · rw [h5]; exact h
      · exact a3 j (by omega) h4
def isS (b : Nat) : Nat := if b = 32 then 1 else 0
def isL (b : Nat) : Nat := if 97 ≤ b ∧ b ≤ 122 then 1 else 0
def isD (b : Nat) : Nat := if 48 ≤ b ∧ b ≤ 57 then 1 else 0
def sgn (b : Nat) : Nat := if b = 59 then 3 else if b = 40 then 4 else if b = 41 then 5 else 6
def lxs (B : Nat → Nat) (n c : Nat) : Nat := ren (fun j => isS (B j)) c (n - c)
def lxL (B : Nat → Nat) (n c : Nat) : Nat := ren (fun j => isL (B j)) c (n - c)
def lxD (B : Nat → Nat) (n c : Nat) : Nat := ren (fun j => isD (B j)) c (n - c)
/-- the kind of the token that starts here, and its end -/
def lxk (B : Nat → Nat) (n s : Nat) : Nat := if s = n then 0 else if isL (B s) = 1 then (if lxL B n s - s ≤ 8 then 1 else 6) else if isD (B s) = 1 then (if lxD B n s - s ≤ 3 then 2 else 6) else sgn (B s)
def lxe (B : Nat → Nat) (n s : Nat) : Nat := if s = n then n else if isL (B s) = 1 then lxL B n s else if isD (B s) = 1 then lxD B n s else s + 1
/-- the tokens in their order: where each begins to be looked for, its start, its kind -/
def ps (B : Nat → Nat) (n : Nat) : Nat → Nat
  | 0 => 0
  | i + 1 => lxe B n (lxs B n (ps B n i))
def tst (B : Nat → Nat) (n i : Nat) : Nat := lxs B n (ps B n i)
def tkd (B : Nat → Nat) (n i : Nat) : Nat := lxk B n (tst B n i)
def tln (B : Nat → Nat) (n i : Nat) : Nat := ps B n (i + 1) - tst B n i
def dN (f : Nat → Nat) : Nat → Nat
  | 0 => 0
  | k + 1 => dN f k * 10 + (f k - 48)
def tvl (B : Nat → Nat) (n i : Nat) : Nat := if tst B n i = n then 0 else if isL (B (tst B n i)) = 1 then wN (fun k => B (tst B n i + k)) (tln B n i) else if isD (B (tst B n i)) = 1 then dN (fun k => B (tst B n i + k)) (tln B n i) else 0
theorem lxs_ok {c : Nat} (h : c ≤ n) : c ≤ lxs B n c ∧ lxs B n c ≤ n ∧ (∀ j, c ≤ j → j < lxs B n c → B j = 32) ∧ (lxs B n c = n ∨ B (lxs B n c) ≠ 32) := by
  obtain ⟨h1, h2, h3, h4⟩ := ren_ok (P := fun j => isS (B j)) (m := n) (n - c) c rfl h
  refine ⟨h1, h2, fun j h5 h6 => ?_, ?_⟩
  · have := h3 j h5 h6
    unfold isS at this
    try dsimp only at this
    split at this
    · assumption
    · exact absurd rfl this
  · rcases h4 with h4 | h4
    · exact Or.inl h4
    · refine Or.inr (fun q => ?_)
      have h4 : isS (B (lxs B n c)) = 0 := h4
      unfold isS at h4
      rw [if_pos q] at h4
      exact absurd h4 (by omega)
theorem lxs_sp {c : Nat} (h : c < n) (h2 : B c = 32) : lxs B n (c + 1) = lxs B n c := by
  show ren (fun j => isS (B j)) (c + 1) (n - (c + 1)) = ren (fun j => isS (B j)) c (n - c)
  rw [show n - c = n - (c + 1) + 1 by omega]
  have e : isS (B c) = 1 := if_pos h2
  exact (if_neg (show ¬ isS (B c) = 0 by rw [e]; omega)).symm
theorem lxs_no {c : Nat} (h : c < n) (h2 : B c ≠ 32) : lxs B n c = c := by
  show ren (fun j => isS (B j)) c (n - c) = c
  rw [show n - c = n - (c + 1) + 1 by omega]
  have e : isS (B c) = 0 := if_neg h2
  exact if_pos e
theorem lxs_n : lxs B n n = n := by
  show ren (fun j => isS (B j)) n (n - n) = n
  rw [Nat.sub_self]
  rfl
theorem isL_01 (b : Nat) : isL b = 0 ∨ isL b = 1 := by unfold isL; split <;> omega
theorem isD_01 (b : Nat) : isD b = 0 ∨ isD b = 1 := by unfold isD; split <;> omega
theorem isL_iff {b : Nat} : isL b = 1 ↔ 97 ≤ b ∧ b ≤ 122 := by unfold isL; split <;> omega
theorem isD_iff {b : Nat} : isD b = 1 ↔ 48 ≤ b ∧ b ≤ 57 := by unfold isD; split <;> omega
theorem lxL_ok {c : Nat} (h : c ≤ n) : c ≤ lxL B n c ∧ lxL B n c ≤ n ∧ (∀ j, c ≤ j → j < lxL B n c → isL (B j) = 1) ∧ (lxL B n c = n ∨ isL (B (lxL B n c)) = 0) := by
  obtain ⟨h1, h2, h3, h4⟩ := ren_ok (P := fun j => isL (B j)) (m := n) (n - c) c rfl h
  exact ⟨h1, h2, fun j h5 h6 => (isL_01 (B j)).resolve_left (h3 j h5 h6), h4⟩
theorem lxD_ok {c : Nat} (h : c ≤ n) : c ≤ lxD B n c ∧ lxD B n c ≤ n ∧ (∀ j, c ≤ j → j < lxD B n c → isD (B j) = 1) ∧ (lxD B n c = n ∨ isD (B (lxD B n c)) = 0) := by
  obtain ⟨h1, h2, h3, h4⟩ := ren_ok (P := fun j => isD (B j)) (m := n) (n - c) c rfl h
  exact ⟨h1, h2, fun j h5 h6 => (isD_01 (B j)).resolve_left (h3 j h5 h6), h4⟩
theorem lxL_gt {c : Nat} (h : c < n) (h2 : isL (B c) = 1) : c < lxL B n c := by
  obtain ⟨h3, h4, h5, h6⟩ := lxL_ok (B := B) (Nat.le_of_lt h)
  rcases Nat.lt_or_ge c (lxL B n c) with g | g
  · exact g
  · have e : lxL B n c = c := by omega
    rcases h6 with h6 | h6
    · omega
    · rw [e] at h6; omega
theorem lxD_gt {c : Nat} (h : c < n) (h2 : isD (B c) = 1) : c < lxD B n c := by
  obtain ⟨h3, h4, h5, h6⟩ := lxD_ok (B := B) (Nat.le_of_lt h)
  rcases Nat.lt_or_ge c (lxD B n c) with g | g
  · exact g
  · have e : lxD B n c = c := by omega
    rcases h6 with h6 | h6
    · omega
    · rw [e] at h6; omega
theorem lxe_ok {s : Nat} (h : s ≤ n) : s ≤ lxe B n s ∧ lxe B n s ≤ n ∧ (s < n → s < lxe B n s) := by
  unfold lxe
  by_cases h1 : s = n
  · rw [if_pos h1]; omega
  · rw [if_neg h1]
    by_cases h2 : isL (B s) = 1
    · rw [if_pos h2]
      have h3 := lxL_ok (B := B) h
      exact ⟨h3.1, h3.2.1, fun h4 => lxL_gt h4 h2⟩
    · rw [if_neg h2]
      by_cases h3 : isD (B s) = 1
      · rw [if_pos h3]
        have h4 := lxD_ok (B := B) h
        exact ⟨h4.1, h4.2.1, fun h5 => lxD_gt h5 h3⟩
      · rw [if_neg h3]; omega
theorem ps_le (B : Nat → Nat) (n i : Nat) : ps B n i ≤ n := by
  induction i with
  | zero => exact Nat.zero_le _
  | succ i ih => exact (lxe_ok (lxs_ok ih).2.1).2.1
theorem tst_le (B : Nat → Nat) (n i : Nat) : ps B n i ≤ tst B n i ∧ tst B n i ≤ ps B n (i + 1) ∧ tst B n i ≤ n ∧ (tst B n i < n → tst B n i < ps B n (i + 1)) := by
  have h1 := lxs_ok (B := B) (ps_le B n i)
  have h2 := lxe_ok (B := B) h1.2.1
  exact ⟨h1.1, h2.1, h1.2.1, h2.2.2⟩
theorem sgn_ne (b : Nat) : 3 ≤ sgn b ∧ sgn b ≤ 6 := by unfold sgn; (repeat' split) <;> omega
theorem tkd_0 {i : Nat} : tkd B n i = 0 ↔ tst B n i = n := by
  unfold tkd lxk
  constructor
  · intro h
    by_cases h1 : tst B n i = n
    · exact h1
    · rw [if_neg h1] at h
      split at h
      · split at h <;> omega
      · split at h
        · split at h <;> omega
        · have := sgn_ne (B (tst B n i)); omega
  · intro h
    rw [if_pos h]
theorem tkd_le (B : Nat → Nat) (n i : Nat) : tkd B n i ≤ 6 := by
  unfold tkd lxk
  have := sgn_ne (B (tst B n i))
  (repeat' split) <;> omega
/-- a word's token -/
theorem tkd_1 {i : Nat} (h : tkd B n i = 1) : tst B n i < n ∧ isL (B (tst B n i)) = 1 ∧ ps B n (i + 1) = lxL B n (tst B n i) ∧ tln B n i ≤ 8 ∧ 0 < tln B n i ∧ (∀ k, k < tln B n i → isL (B (tst B n i + k)) = 1) ∧ tvl B n i = wN (fun k => B (tst B n i + k)) (tln B n i) := by
  have h0 : tst B n i ≠ n := fun q => by rw [tkd_0.mpr q] at h; omega
  have h1 := tst_le B n i
  have e1 : isL (B (tst B n i)) = 1 := by
    unfold tkd lxk at h
    rw [if_neg h0] at h
    by_cases g : isL (B (tst B n i)) = 1
    · exact g
    · rw [if_neg g] at h
      split at h
      · split at h <;> omega
      · have := sgn_ne (B (tst B n i)); omega
  have e2 : ps B n (i + 1) = lxL B n (tst B n i) := by
    show lxe B n (tst B n i) = _
    unfold lxe
    rw [if_neg h0, if_pos e1]
  have e3 : tln B n i ≤ 8 := by
    unfold tkd lxk at h
    rw [if_neg h0, if_pos e1] at h
    unfold tln
    rw [e2]
    split at h <;> omega
  have h2 := lxL_gt (B := B) (c := tst B n i) (Nat.lt_of_le_of_ne h1.2.2.1 h0) e1
  have h3 := lxL_ok (B := B) (c := tst B n i) h1.2.2.1
  have e5 : tln B n i = lxL B n (tst B n i) - tst B n i := by unfold tln; rw [e2]
  refine ⟨Nat.lt_of_le_of_ne h1.2.2.1 h0, e1, e2, e3, by omega, fun k hk => h3.2.2.1 _ (by omega) (by omega), ?_⟩
  unfold tvl
  rw [if_neg h0, if_pos e1]
/-- a number's token -/
theorem tkd_2 {i : Nat} (h : tkd B n i = 2) : tst B n i < n ∧ isD (B (tst B n i)) = 1 ∧ isL (B (tst B n i)) = 0 ∧ ps B n (i + 1) = lxD B n (tst B n i) ∧ tln B n i ≤ 3 ∧ 0 < tln B n i ∧ (∀ k, k < tln B n i → isD (B (tst B n i + k)) = 1) ∧ tvl B n i = dN (fun k => B (tst B n i + k)) (tln B n i) := by
  have h0 : tst B n i ≠ n := fun q => by rw [tkd_0.mpr q] at h; omega
  have h1 := tst_le B n i
  have e0 : isL (B (tst B n i)) = 0 := by
    rcases isL_01 (B (tst B n i)) with g | g
    · exact g
    · unfold tkd lxk at h
      rw [if_neg h0, if_pos g] at h
      split at h <;> omega
  have e1 : isD (B (tst B n i)) = 1 := by
    unfold tkd lxk at h
    rw [if_neg h0, if_neg (by omega)] at h
    by_cases g : isD (B (tst B n i)) = 1
    · exact g
    · rw [if_neg g] at h
      have := sgn_ne (B (tst B n i)); omega
  have e2 : ps B n (i + 1) = lxD B n (tst B n i) := by
    show lxe B n (tst B n i) = _
    unfold lxe
    rw [if_neg h0, if_neg (by omega), if_pos e1]
  have e3 : tln B n i ≤ 3 := by
    unfold tkd lxk at h
    rw [if_neg h0, if_neg (by omega), if_pos e1] at h
    unfold tln
    rw [e2]
    split at h <;> omega
  have h2 := lxD_gt (B := B) (c := tst B n i) (Nat.lt_of_le_of_ne h1.2.2.1 h0) e1
  have h3 := lxD_ok (B := B) (c := tst B n i) h1.2.2.1
  have e5 : tln B n i = lxD B n (tst B n i) - tst B n i := by unfold tln; rw [e2]
  refine ⟨Nat.lt_of_le_of_ne h1.2.2.1 h0, e1, e0, e2, e3, by omega, fun k hk => h3.2.2.1 _ (by omega) (by omega), ?_⟩
  unfold tvl
  rw [if_neg h0, if_neg (by omega), if_pos e1]
theorem dN_lt {f : Nat → Nat} {k : Nat} (h : ∀ j, j < k → 48 ≤ f j ∧ f j ≤ 57) : dN f k < 10 ^ k := by
  induction k with
  | zero => exact Nat.one_pos
  | succ k ih =>
    have h1 := ih (fun j hj => h j (by omega))
    have h2 := h k (by omega)
    show dN f k * 10 + (f k - 48) < 10 ^ k * 10
    omega
theorem tvl_2 {i : Nat} (h : tkd B n i = 2) : tvl B n i < 1000 := by
  obtain ⟨-, -, -, -, h4, -, h5, h6⟩ := tkd_2 h
  rw [h6]
  have h7 := dN_lt (f := fun k => B (tst B n i + k)) (k := tln B n i) (fun j hj => isD_iff.mp (h5 j hj))
  have h8 : 10 ^ tln B n i ≤ 10 ^ 3 := Nat.pow_le_pow_right (by omega) h4
  omega
end Lex
