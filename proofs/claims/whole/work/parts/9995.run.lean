/-! ===== turns of the class's parser, put together ===== -/
section Run9
variable {B : Nat → Nat} {n : Nat}
theorem itr_add : ∀ (j k : Nat) (s : PS), itr B n (j + k) s = itr B n k (itr B n j s)
  | 0, k, s => by rw [Nat.zero_add]; rfl
  | j + 1, k, s => by
    rw [show j + 1 + k = (j + k) + 1 by omega]
    exact itr_add j k (stp B n s)
/-- k turns lead from s to t, none of them from an end -/
def Run (B : Nat → Nat) (n k : Nat) (s t : PS) : Prop := itr B n k s = t ∧ ∀ j, j < k → (itr B n j s).e.1 = 0 ∧ ¬ AC B n (itr B n j s)
theorem Run_0 (s : PS) : Run B n 0 s s := ⟨rfl, fun j h => absurd h (Nat.not_lt_zero j)⟩
theorem Run_tr {j k : Nat} {s t u : PS} (h : Run B n j s t) (g : Run B n k t u) : Run B n (j + k) s u := by
  refine ⟨by rw [itr_add, h.1, g.1], fun i hi => ?_⟩
  by_cases c : i < j
  · exact h.2 i c
  · have e : i = j + (i - j) := by omega
    rw [e, itr_add, h.1]
    exact g.2 (i - j) (by omega)
theorem Run_1 {s : PS} (h : s.e.1 = 0) (hA : ¬ AC B n s) : Run B n 1 s (stp B n s) := ⟨rfl, fun j hj => by
    have e : j = 0 := by omega
    rw [e]
    exact ⟨h, hA⟩⟩
end Run9
