/-! ===== the class's parser, its panels always in order ===== -/
section XIni
variable {G : ev_G} {N : Nat → Nat} {B : Nat → Nat} {n m p : Nat} {μ μ' : ev_M}
theorem INI_k (hI : INV N) {a k d : Nat} (hk : k ≤ 19) (ho : otm N d k = 0) (h : (qI B n N a k).1 = 0) : INV (nI9 B n N a k) := by
  rcases (show k = 0 ∨ k = 1 ∨ k = 2 ∨ k = 3 ∨ k = 4 ∨ k = 5 ∨ k = 6 ∨ k = 7 ∨ k = 8 ∨ k = 9 ∨ k = 10 ∨ k = 11 ∨ k = 12 ∨ k = 13 ∨ k = 14 ∨ k = 15 ∨ k = 16 ∨ k = 17 ∨ k = 18 ∨ k = 19 by omega) with rfl | rfl | rfl | rfl | rfl | rfl | rfl | rfl | rfl | rfl | rfl | rfl | rfl | rfl | rfl | rfl | rfl | rfl | rfl | rfl
  · exact hI
  · exact INV_person hI (Nat.lt_of_not_le (fun q => by unfold otm at ho; rw [if_pos (Or.inl ⟨rfl, q⟩)] at ho; cases ho)) h
  · exact INV_taster hI h
  · exact INV_pancake hI (Nat.lt_of_not_le (fun q => by unfold otm at ho; rw [if_pos (Or.inr (Or.inl ⟨rfl, q⟩))] at ho; cases ho)) h
  · exact INV_bid9 hI h
  · exact INV_together hI h
  · exact INV_conflict hI h
  · exact INV_seat hI h
  · exact (flN_ok hI).1
  · exact INV_leave hI h
  · exact INV_score hI h
  · exact INV_talk hI h
  · exact INV_limit hI h
  · exact INV_kitchen hI h
  · exact INV_swap hI h
  · exact INV_clear hI h
  · exact INV_even hI h
  · exact INV_copy hI h
  · exact hI
  · exact hI
theorem INI_ok {s : PS} (hI : INV s.Q) : INI B n s := fun _ ho _ h => INI_k hI (kwi_le B n s.a) ho h
theorem INV_stp {s : PS} (hI : INV s.Q) (h : (stp B n s).e.1 = 0) : INV (stp B n s).Q := by
  obtain ⟨Q, a, d, bd, pl, due, e⟩ := s
  have hI : INV Q := hI
  unfold stp at h ⊢
  by_cases c : due = 1
  · rw [if_pos c] at h ⊢
    by_cases c1 : otm Q d (kwi B n a) = 1
    · rw [if_pos c1]; exact hI
    · rw [if_neg c1] at h ⊢
      by_cases c2 : kwi B n a = 18
      · rw [if_pos c2]; exact hI
      · rw [if_neg c2] at h ⊢
        have c0 : otm Q d (kwi B n a) = 0 := by
          have : otm Q d (kwi B n a) ≤ 1 := by unfold otm; split <;> omega
          omega
        exact INI_k hI (kwi_le B n a) c0 h
  · rw [if_neg c]
    by_cases c3 : tkd B n a = 3
    · rw [if_pos c3]; exact hI
    · rw [if_neg c3]
      by_cases c5 : tkd B n a = 5 ∧ 0 < d
      · rw [if_pos c5]
        by_cases cp : 2 ≤ pl (d - 1)
        · rw [if_pos cp]; exact hI
        · rw [if_neg cp]; exact hI
      · rw [if_neg c5]; exact hI
theorem INI_all : ∀ (k : Nat) (s : PS), INV s.Q → (∀ j, j < k → (itr B n j s).e.1 = 0) → ∀ j, j < k → INI B n (itr B n j s)
  | 0, _, _, _, j, hj => absurd hj (Nat.not_lt_zero j)
  | k + 1, s, hI, h, 0, _ => INI_ok hI
  | k + 1, s, hI, h, j + 1, hj => INI_all k (stp B n s) (INV_stp hI (h 1 (by omega))) (fun i hi => h (i + 1) (by omega)) j (by omega)
theorem m_parse9 (hok : ev_ok sh_S G) (hkw : KW G) (hn : n ≤ 500) (hB0 : ∀ j, j < n → μ.1 2 j = nI (B j)) (hB : ∀ j, B j < 256) : ∃ m, m ≤ n ∧ tkd B n m = 0 ∧ (∀ k, k < m → tkd B n k ≠ 0) ∧ ∀ k, k + 1 < 1000000 → (∀ j, j < k → (itr B n j (s0 B n)).e.1 = 0 ∧ ¬ AC B n (itr B n j (s0 B n))) → ((itr B n k (s0 B n)).e.1 = 0 → AC B n (itr B n k (s0 B n))) →
    ∃ μ', ev_T sh_S G mi_X7_parse [.ref 5, .ref 1, .int (nI n)] μ (.inl (some (.int (nI (if (itr B n k (s0 B n)).e.1 = 0 then 1 else 0))), μ')) ∧ Fz μ μ' ∧ SR B n m (itr B n k (s0 B n)) μ' := by
  obtain ⟨m, h1, h2, h3, h4⟩ := m_parse hok hkw hn hB0 hB
  refine ⟨m, h1, h2, h3, fun k hk hj hE => h4 k hk (fun j hj2 => ⟨(hj j hj2).1, (hj j hj2).2, INI_all k (s0 B n) ?_ (fun i hi => (hj i hi).1) j hj2⟩) hE⟩
  have z : (q_head B n).1 = 0 := (hj 0 (by omega)).1
  have h5 := rN_0 z
  have h6 := nmc_0 h5.2.1
  have h7 := nmc_0 (rN_0 h5.1).2.1
  exact INV_hd (by omega) (by omega)
end XIni
