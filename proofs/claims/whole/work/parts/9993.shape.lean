/-! ===== items by their tokens: how far they reach, how many turns they take ===== -/
section Shape
variable {B : Nat → Nat} {n : Nat}
/-- k + 1 items, where single ones go from a to a' in c turns -/
def ShK (B : Nat → Nat) (n : Nat) (P : Nat → Nat → Nat → Prop) : Nat → Nat → Nat → Nat → Prop
  | 0 => fun a a' c => P a a' c ∧ tkd B n a' ≠ 3
  | k + 1 => fun a a' c => ∃ a1 c1 c2, P a a1 c1 ∧ tkd B n a1 = 3 ∧ ShK B n P k (a1 + 1) a' c2 ∧ c = c1 + 1 + c2
def Sh (B : Nat → Nat) (n : Nat) (P : Nat → Nat → Nat → Prop) (a a' c : Nat) : Prop := ∃ k, ShK B n P k a a' c
/-- one item, with r repeats still allowed; S: simple items -/
def It (B : Nat → Nat) (n : Nat) (S : Nat → Nat → Prop) : Nat → Nat → Nat → Nat → Prop
  | 0 => fun a a' c => kwi B n a ≠ 18 ∧ S a a' ∧ c = 1
  | r + 1 => fun a a' c => (kwi B n a ≠ 18 ∧ S a a' ∧ c = 1) ∨ (kwi B n a = 18 ∧ ∃ e c', Sh B n (It B n S r) (a + 1 + 1 + 1) e c' ∧ tkd B n e = 5 ∧ 1 ≤ tvl B n (a + 1) ∧ tvl B n (a + 1) < 10 ∧ a' = e + 1 ∧ c = 1 + tvl B n (a + 1) * (c' + 1))
theorem ShK_fn {P : Nat → Nat → Nat → Prop} (hP : ∀ a a1 c1 a2 c2, P a a1 c1 → P a a2 c2 → a1 = a2 ∧ c1 = c2) : ∀ k l a a1 c1 a2 c2, ShK B n P k a a1 c1 → ShK B n P l a a2 c2 → a1 = a2 ∧ c1 = c2
  | 0, 0, a, a1, c1, a2, c2, h, g => hP _ _ _ _ _ h.1 g.1
  | 0, l + 1, a, a1, c1, a2, c2, h, g => by
    obtain ⟨b, d1, d2, g1, g2, g3, g4⟩ := g
    obtain ⟨h1, h2⟩ := h
    rw [(hP _ _ _ _ _ h1 g1).1] at h2
    exact absurd g2 h2
  | k + 1, 0, a, a1, c1, a2, c2, h, g => by
    obtain ⟨b, d1, d2, g1, g2, g3, g4⟩ := h
    obtain ⟨h1, h2⟩ := g
    rw [(hP _ _ _ _ _ h1 g1).1] at h2
    exact absurd g2 h2
  | k + 1, l + 1, a, a1, c1, a2, c2, h, g => by
    obtain ⟨b, d1, d2, h1, h2, h3, h4⟩ := h
    obtain ⟨b', d1', d2', g1, g2, g3, g4⟩ := g
    obtain ⟨e1, e2⟩ := hP _ _ _ _ _ h1 g1
    subst e1
    subst e2
    obtain ⟨e3, e4⟩ := ShK_fn hP k l _ _ _ _ _ h3 g3
    exact ⟨e3, by rw [h4, g4, e4]⟩
theorem Sh_fn {P : Nat → Nat → Nat → Prop} (hP : ∀ a a1 c1 a2 c2, P a a1 c1 → P a a2 c2 → a1 = a2 ∧ c1 = c2) {a a1 c1 : Nat} (h : Sh B n P a a1 c1) (a2 c2 : Nat) (g : Sh B n P a a2 c2) : a1 = a2 ∧ c1 = c2 := by
  obtain ⟨k, h⟩ := h
  obtain ⟨l, g⟩ := g
  exact ShK_fn hP k l _ _ _ _ _ h g
theorem It_fn {S : Nat → Nat → Prop} (hS : ∀ a a1 a2, S a a1 → S a a2 → a1 = a2) : ∀ r a a1 c1 a2 c2, It B n S r a a1 c1 → It B n S r a a2 c2 → a1 = a2 ∧ c1 = c2
  | 0, a, a1, c1, a2, c2, h, g => ⟨hS a a1 a2 h.2.1 g.2.1, h.2.2.trans g.2.2.symm⟩
  | r + 1, a, a1, c1, a2, c2, h, g => by
    rcases h with h | ⟨h18, e, c', h1, h2, h3, h4, h5, h6⟩
    · rcases g with g | g
      · exact ⟨hS a a1 a2 h.2.1 g.2.1, h.2.2.trans g.2.2.symm⟩
      · exact absurd g.1 h.1
    · rcases g with g | ⟨g18, e', c'', g1, g2, g3, g4, g5, g6⟩
      · exact absurd h18 g.1
      · obtain ⟨e1, e2⟩ := Sh_fn (It_fn hS r) h1 _ _ g1
        subst e1
        subst e2
        exact ⟨h5.trans g5.symm, h6.trans g6.symm⟩
/-- turns of a list of items, from those of one -/
theorem ShK_le {P : Nat → Nat → Nat → Prop} {K : Nat} (hP : ∀ a a1 c, P a a1 c → a < a1 ∧ c ≤ K * (a1 - a)) (hK : 1 ≤ K) : ∀ k a a1 c, ShK B n P k a a1 c → a < a1 ∧ c ≤ K * (a1 - a)
  | 0, a, a1, c, h => hP _ _ _ h.1
  | k + 1, a, a2, c, h => by
    obtain ⟨a1, c1, c2, h1, h2, h3, h4⟩ := h
    obtain ⟨g1, g2⟩ := hP _ _ _ h1
    obtain ⟨i1, i2⟩ := ShK_le hP hK k _ _ _ h3
    refine ⟨by omega, ?_⟩
    have e : a2 - a = (a1 - a) + 1 + (a2 - (a1 + 1)) := by omega
    rw [e, Nat.mul_add, Nat.mul_add, Nat.mul_one]
    omega
theorem Sh_le {P : Nat → Nat → Nat → Prop} {K : Nat} (hP : ∀ a a1 c, P a a1 c → a < a1 ∧ c ≤ K * (a1 - a)) (hK : 1 ≤ K) {a a1 c : Nat} (h : Sh B n P a a1 c) : a < a1 ∧ c ≤ K * (a1 - a) := by
  obtain ⟨k, h⟩ := h
  exact ShK_le hP hK k _ _ _ h
theorem It_le {S : Nat → Nat → Prop} (hS : ∀ a a1, S a a1 → a < a1) : ∀ r a a1 c, It B n S r a a1 c → a < a1 ∧ c ≤ 9 ^ r * 2 * (a1 - a)
  | 0, a, a1, c, h => by
    have := hS a a1 h.2.1
    have e : 9 ^ 0 * 2 * (a1 - a) = 2 * (a1 - a) := by rw [Nat.pow_zero, Nat.one_mul]
    rw [e, h.2.2]
    omega
  | r + 1, a, a1, c, h => by
    have hp : 1 ≤ 9 ^ r := Nat.one_le_pow _ _ (by omega)
    have e9 : 9 ^ (r + 1) = 9 * 9 ^ r := by rw [Nat.pow_succ, Nat.mul_comm]
    rw [e9]
    generalize hx : 9 ^ r = x at hp ⊢
    rcases h with h | ⟨h18, e, c', h1, h2, h3, h4, h5, h6⟩
    · have g := hS a a1 h.2.1
      refine ⟨g, ?_⟩
      rw [h.2.2]
      exact Nat.le_trans (show 1 ≤ 9 * x * 2 * 1 by omega) (Nat.mul_le_mul_left _ (by omega))
    · have g := Sh_le (K := 9 ^ r * 2) (It_le hS r) (by omega) h1
      rw [hx] at g
      obtain ⟨g1, g2⟩ := g
      refine ⟨by omega, ?_⟩
      have k1 : tvl B n (a + 1) * (c' + 1) ≤ 9 * (c' + 1) := Nat.mul_le_mul_right _ (by omega)
      have k2 : a1 - a = (e - (a + 1 + 1 + 1)) + 4 := by omega
      have k3 : 9 * x * 2 * (a1 - a) = 9 * (x * 2 * (e - (a + 1 + 1 + 1))) + 72 * x := by
        rw [k2, Nat.mul_add, Nat.mul_assoc 9 x 2, Nat.mul_assoc 9 (x * 2)]
        omega
      rw [h6, k3]
      generalize x * 2 * (e - (a + 1 + 1 + 1)) = y at g2 ⊢
      omega
end Shape
