/-! ===== where an item ends, by its tokens ===== -/
section ATok
variable {N : Nat → Nat} {B : Nat → Nat} {n : Nat}
/-- how many cooks there are -/
def wcN (B : Nat → Nat) (n A : Nat) : Nat → Nat → Nat
  | 0, c => c
  | d + 1, c => if 0 < c ∧ tkd B n (A + c) ≠ 1 then c else wcN B n A d (c + 1)
theorem pkE_w {A : Nat} : ∀ d c, (pkE B n N A d c).1.1 = 0 → (pkE B n N A d c).2 = wcN B n A d c
  | 0, c, _ => rfl
  | d + 1, c, h => by
    unfold pkE at h ⊢
    unfold wcN
    by_cases h3 : 0 < c ∧ tkd B n (A + c) ≠ 1
    · rw [if_pos h3, if_pos h3]
    · rw [if_neg h3] at h ⊢
      rw [if_neg h3]
      by_cases h4 : (pkS B n N A c).1 = 0
      · rw [if_pos h4] at h ⊢
        exact pkE_w d (c + 1) h
      · rw [if_neg h4] at h
        exact absurd h h4
/-- where a simple item ends -/
def aT (B : Nat → Nat) (n a k : Nat) : Nat := match k with
  | 1 => a + 1 + 1 + 1
  | 2 => a + 1 + 1 + 1 + 4
  | 3 => a + 1 + 1 + wcN B n (a + 1 + 1) 4 0
  | 4 => a + 1 + 1 + 1 + 1
  | 5 => a + 1 + 1 + 1
  | 6 => a + 1 + 1 + 1
  | 7 => a + 1 + 1 + 1
  | 9 => a + 1 + 1 + 1
  | 10 => a + 1 + 1 + 1 + 1
  | 11 => a + 1 + 1
  | 12 => a + 1 + 1 + 1
  | 13 => a + 1 + 1 + 1
  | 14 => a + 1 + 1 + 1
  | 15 => a + 1 + 1
  | 16 => a + 1 + 1
  | 17 => a + 1 + 1 + 1
  | _ => a + 1
theorem aT_lt (a k : Nat) : a < aT B n a k := by
  unfold aT
  split <;> omega
theorem aT_ok {a k : Nat} (hk : k ≤ 19) (h : (qI B n N a k).1 = 0) : aI9 B n N a k = aT B n a k := by
  rcases (show k = 0 ∨ k = 1 ∨ k = 2 ∨ k = 3 ∨ k = 4 ∨ k = 5 ∨ k = 6 ∨ k = 7 ∨ k = 8 ∨ k = 9 ∨ k = 10 ∨ k = 11 ∨ k = 12 ∨ k = 13 ∨ k = 14 ∨ k = 15 ∨ k = 16 ∨ k = 17 ∨ k = 18 ∨ k = 19 by omega) with rfl | rfl | rfl | rfl | rfl | rfl | rfl | rfl | rfl | rfl | rfl | rfl | rfl | rfl | rfl | rfl | rfl | rfl | rfl | rfl
  · rfl
  · rfl
  · rfl
  · have h : (q_pancake B n N (a + 1)).1 = 0 := h
    unfold q_pancake at h
    by_cases h1 : (rN B n (0, -1) (a + 1) 0 4).1 = 0
    · rw [if_pos h1] at h
      show a + 1 + 1 + (pkE B n N (a + 1 + 1) 4 0).2 = a + 1 + 1 + wcN B n (a + 1 + 1) 4 0
      rw [pkE_w 4 0 h]
    · rw [if_neg h1] at h
      exact absurd h h1
  · rfl
  · rfl
  · rfl
  · rfl
  · rfl
  · rfl
  · rfl
  · rfl
  · rfl
  · rfl
  · rfl
  · rfl
  · rfl
  · rfl
  · rfl
  · rfl
end ATok
