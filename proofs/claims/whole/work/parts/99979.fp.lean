/-! ===== quotients are numbers ===== -/
section FpQ
theorem fp_a (e t : Nat) : Jvm.FP.Core.assemble Jvm.FP.Core.b64 false e t = (0 * 2048 + e) * 4503599627370496 + t := rfl
theorem fp_t : Jvm.FP.Core.Fmt.tails Jvm.FP.Core.b64 = 4503599627370496 := by decide +kernel
theorem fp_q : Jvm.FP.Core.Fmt.qmin Jvm.FP.Core.b64 = -1074 := by decide +kernel
theorem fp_x : Jvm.FP.Core.Fmt.qmax Jvm.FP.Core.b64 = 971 := by decide +kernel
theorem fp_fin {c : Nat} {q : Int} (hc : c < 9007199254740992) (hq : q ≤ 971) : Jvm.FP.Core.encode Jvm.FP.Core.b64 (.fin false c q) ≤ 9218868437227405312 := by
  show (if c < Jvm.FP.Core.Fmt.tails Jvm.FP.Core.b64 then Jvm.FP.Core.assemble Jvm.FP.Core.b64 false 0 c else Jvm.FP.Core.assemble Jvm.FP.Core.b64 false ((q - Jvm.FP.Core.Fmt.qmin Jvm.FP.Core.b64).toNat + 1) (c - Jvm.FP.Core.Fmt.tails Jvm.FP.Core.b64)) ≤ _
  rw [fp_a, fp_a, fp_t, fp_q]
  split <;> omega
theorem fp_inf : Jvm.FP.Core.encode Jvm.FP.Core.b64 (.inf false) ≤ 9218868437227405312 := by decide +kernel
theorem fp_bd {c : Nat} {q : Int} (hc : c < 9007199254740992) : Jvm.FP.Core.encode Jvm.FP.Core.b64 (Jvm.FP.Core.bound Jvm.FP.Core.b64 false c q) ≤ 9218868437227405312 := by
  unfold Jvm.FP.Core.bound
  rw [fp_x]
  split
  · exact fp_fin hc (by assumption)
  · exact fp_inf
theorem fp_set (c : Nat) (q : Int) : Jvm.FP.Core.encode Jvm.FP.Core.b64 (Jvm.FP.Core.settle Jvm.FP.Core.b64 false c q) ≤ 9218868437227405312 := by
  have e : Jvm.FP.Core.settle Jvm.FP.Core.b64 false c q = if c < 9007199254740992 then Jvm.FP.Core.bound Jvm.FP.Core.b64 false c q else Jvm.FP.Core.bound Jvm.FP.Core.b64 false (Jvm.FP.Core.Fmt.tails Jvm.FP.Core.b64) (q + 1) := rfl
  rw [e]
  split
  · exact fp_bd (by assumption)
  · exact fp_bd (by rw [fp_t]; omega)
theorem fp_rr (n d : Nat) (e : Int) : Jvm.FP.Core.encode Jvm.FP.Core.b64 (Jvm.FP.Core.roundRatio Jvm.FP.Core.b64 false n d e) ≤ 9218868437227405312 := by
  unfold Jvm.FP.Core.roundRatio
  split
  · exact fp_fin (by omega) (by rw [fp_q]; omega)
  · exact fp_set _ _
def fpB (a : Nat) : Bool := match Jvm.FP.Core.decode Jvm.FP.Core.b64 (Jvm.FP.Core.i2d (nI a)).toNat with
  | .fin s c _ => !s && (decide (a = 0) || decide (c ≠ 0))
  | _ => false
theorem fpB_ok : ∀ a : Fin 1441, fpB a.1 = true := by decide +kernel
theorem fp_i {a : Nat} (h : a ≤ 1440) : ∃ c q, Jvm.FP.Core.decode Jvm.FP.Core.b64 (Jvm.FP.Core.i2d (nI a)).toNat = .fin false c q ∧ (0 < a → c ≠ 0) := by
  have h1 := fpB_ok ⟨a, by omega⟩
  unfold fpB at h1
  (try dsimp only at h1)
  split at h1
  · rename_i s c q hd
    rw [Bool.and_eq_true, Bool.or_eq_true, decide_eq_true_eq, decide_eq_true_eq] at h1
    obtain ⟨h2, h3⟩ := h1
    cases s with
    | true => exact absurd h2 (by decide)
    | false => exact ⟨c, q, hd, fun h4 => h3.elim (fun z => absurd z (by omega)) id⟩
  · exact absurd h1 (by decide)
theorem fp_d {a b : Nat} (ha : a ≤ 1440) (hb : 0 < b) (hb2 : b ≤ 1440) : vf_n64 (FP.ddiv (FP.i2d (nI a)) (FP.i2d (nI b))) := by
  obtain ⟨c, q, h1, -⟩ := fp_i ha
  obtain ⟨d, r, h2, h3⟩ := fp_i hb2
  have e : FP.ddiv (FP.i2d (nI a)) (FP.i2d (nI b)) = UInt64.ofNat (Jvm.FP.Core.encode Jvm.FP.Core.b64 (Jvm.FP.Core.roundRatio Jvm.FP.Core.b64 false c d (q - r))) := by
    show UInt64.ofNat (Jvm.FP.Core.encode Jvm.FP.Core.b64 (Jvm.FP.Core.quotient Jvm.FP.Core.b64 (Jvm.FP.Core.decode Jvm.FP.Core.b64 (Jvm.FP.Core.i2d (nI a)).toNat) (Jvm.FP.Core.decode Jvm.FP.Core.b64 (Jvm.FP.Core.i2d (nI b)).toNat))) = _
    rw [h1, h2]
    show UInt64.ofNat (Jvm.FP.Core.encode Jvm.FP.Core.b64 (if d = 0 then (if c = 0 then .nan else .inf (false != false)) else Jvm.FP.Core.roundRatio Jvm.FP.Core.b64 (false != false) c d (q - r))) = _
    rw [if_neg (h3 hb)]
    rfl
  rw [e]
  unfold vf_n64
  have h4 := fp_rr c d (q - r)
  generalize Jvm.FP.Core.encode Jvm.FP.Core.b64 (Jvm.FP.Core.roundRatio Jvm.FP.Core.b64 false c d (q - r)) = n at h4
  rw [UInt64.le_iff_toNat_le, UInt64.toNat_and, UInt64.toNat_ofNat_of_lt' (show n < 2 ^ 64 by omega)]
  exact Nat.le_trans Nat.and_le_left h4
def fpF : Bool := (List.range 31).all fun a => (List.range 31).all fun b => decide (b = 0) || decide ((FP.fdiv (FP.i2f (nI a)) (FP.i2f (nI b))).toNat &&& 2147483647 ≤ 2139095040)
theorem fpF_ok : fpF = true := by decide +kernel
theorem fp_f {a b : Nat} (ha : a ≤ 30) (hb : 0 < b) (hb2 : b ≤ 30) : vf_n32 (FP.fdiv (FP.i2f (nI a)) (FP.i2f (nI b))) := by
  have h1 := List.all_eq_true.mp fpF_ok a (List.mem_range.mpr (by omega))
  have h2 := List.all_eq_true.mp h1 b (List.mem_range.mpr (by omega))
  rw [Bool.or_eq_true, decide_eq_true_eq, decide_eq_true_eq] at h2
  unfold vf_n32
  rw [UInt32.le_iff_toNat_le, UInt32.toNat_and]
  exact h2.resolve_left (by omega)
end FpQ
