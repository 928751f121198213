/-! ===== the state that the constructors leave ===== -/
section Ini
def ct_m : ev_M := (fun a k => if (a = 5 ∧ k = 2) ∨ (a = 301 ∧ k = 11) then -1 else 0, fun _ _ => 0, fun a k => if a = 79 then 80 + 22 * k else if a = 256 then 257 + 22 * k else 0)
def ct_s : ev_A := (fun _ => 0, 0, fun _ _ => 0, 0, fun _ _ => 0, fun _ => 0, fun _ => 0, 0, 0, -1, fun _ => 0, 0)
theorem cm_0 {a k : Nat} (h1 : a ≠ 5 ∨ k ≠ 2) (h2 : a ≠ 301 ∨ k ≠ 11) : ct_m.1 a k = 0 := by
  show (if (a = 5 ∧ k = 2) ∨ (a = 301 ∧ k = 11) then (-1 : Int32) else 0) = 0
  rw [if_neg (by omega)]
theorem cm_n {a k : Nat} (h1 : a ≠ 5 ∨ k ≠ 2) (h2 : a ≠ 301 ∨ k ≠ 11) : ct_m.1 a k = nI 0 := cm_0 h1 h2
theorem cm_l {a k : Nat} : ct_m.2.1 a k = 0 := rfl
theorem cm_79 {k : Nat} : ct_m.2.2 79 k = 80 + 22 * k := rfl
theorem cm_hx {i : Nat} : hx ct_m i = 80 + 22 * ((0 + 8 - i) % 8) := by
  unfold hx
  rw [hxl_e (l := 0) (by omega) (cm_n (by omega) (by omega)), cm_79]
theorem cm_256 {k : Nat} : ct_m.2.2 256 k = 257 + 22 * k := rfl
theorem PR_z {p : Nat} (h : 6 ≤ p) (h2 : p + 22 ≤ 301) : PR p (fun _ => 0) ct_m := by
  refine ⟨⟨?_, ?_, ?_, ?_, ?_, ?_⟩, fun i hi => ?_, fun i hi => ?_, fun i hi => ?_, fun q hq => ?_, fun i t hi ht => ?_, fun i j hi hj => ?_, fun i q hi hq => ?_, fun i q hi hq => ?_, ⟨fun q hq => ?_, fun q k hq hk => absurd hk (Nat.not_lt_zero k)⟩, ⟨fun q hq => ?_, fun q k hq hk => absurd hk (Nat.not_lt_zero k)⟩, ⟨?_, ?_, ?_, ?_⟩, fun i q hi hq => ?_⟩
  case refine_7 => exact rfl
  all_goals exact (cm_n (by omega) (by omega)).trans rfl
theorem INV_z : INV (fun _ => 0) := INV_ag (INV_hd (a := 0) (b := 0) (by omega) (by omega)) (fun k _ => by
  show 0 = up (up (fun _ => 0) 2 0) 3 0 k
  unfold up
  repeat' split
  all_goals rfl)
theorem sh_B_h : ∀ i, i < 8 → 80 + 22 * i ∈ sh_B ∧ 80 ≤ 80 + 22 * i ∧ 80 + 22 * i ≤ 234 := by decide +kernel
theorem Bo_z : Bo ct_s ct_m := by
  refine ⟨⟨⟨PR_z (by omega) (by omega), cm_n (by omega) (by omega)⟩, ⟨⟨fun i hi => ?_, fun i j hi hj hij => ?_, ⟨0, by omega, cm_n (by omega) (by omega)⟩⟩, cm_n (by omega) (by omega), fun i hi => Or.inl ?_, fun i hi => absurd hi (Nat.not_lt_zero i), fun h => ?_⟩, fun s hs => ⟨rfl, cm_n (by omega) (by omega), fun hv => absurd hv (show ¬ (0 : Nat) = 1 by decide)⟩, ⟨cm_n (by omega) (by omega), fun i hi => absurd hi (Nat.not_lt_zero i)⟩, ⟨cm_n (by omega) (by omega), rfl⟩, ⟨cm_n (by omega) (by omega), fun i hi => absurd hi (Nat.not_lt_zero i)⟩, Or.inl (cm_n (by omega) (by omega))⟩, ⟨fun k hk => cm_n (by omega) (by omega), cm_n (by omega) (by omega), cm_n (by omega) (by omega), fun i hi => absurd hi (Nat.not_lt_zero i), fun s hs => cm_n (by omega) (by omega), fun s hs hv => absurd hv (show ¬ (0 : Nat) = 1 by decide), cm_n (by omega) (by omega), fun i hi => absurd hi (Nat.not_lt_zero i), cm_n (by omega) (by omega), rfl, cm_n (by omega) (by omega), fun i hi => absurd hi (Nat.not_lt_zero i)⟩, INV_z, by decide, by decide, fun i hi => absurd hi (Nat.not_lt_zero i), fun s hs => (show (0 : Nat) < 2 by decide), fun s hs hv => absurd hv (show ¬ (0 : Nat) = 1 by decide), by decide, fun i => (show (0 : Nat) < 256 by decide), by decide, by decide, fun i => (show (0 : Nat) < 128 by decide)⟩
  · rw [cm_hx]; exact sh_B_h _ (by omega)
  · rw [cm_hx, cm_hx]; omega
  · rw [cm_hx]; exact cm_n (by omega) (by omega)
  · rcases h with h | h | h
    · exact absurd h (by decide)
    · exact absurd h (by decide)
    · exact absurd h (by decide)
end Ini
