section Leaf1
variable {G : ev_G}
/-- a table's element, 0 outside -/
def sp_rd (f : Nat → Int32) (R C : Nat) (x y : Int32) : Int32 := if (0 ≤ x.toInt ∧ x.toInt < R) ∧ (0 ≤ y.toInt ∧ y.toInt < C) then f (x.toNatClampNeg * C + y.toNatClampNeg) else 0
theorem sp_lt0 {x : Int32} : x < 0 ↔ x.toInt < 0 := Int32.lt_iff_toInt_lt
theorem sp_leN {x : Int32} {n : Nat} (hn : n < 2 ^ 31) : nI n ≤ x ↔ (n : Int) ≤ x.toInt := by rw [Int32.le_iff_toInt_le, nI_toInt hn]
theorem sp_is {x : Int32} {n : Nat} (h0 : 0 ≤ x.toInt) (h : x.toInt < n) (hn : n < 2 ^ 31) : ∃ i : Nat, i < n ∧ x = nI i := vp_in_of (vp_in_iff.mpr ⟨h0, h⟩) hn
theorem sp_rd_nI {f : Nat → Int32} {R C i j : Nat} (hi : i < R) (hj : j < C) (hR : R < 2 ^ 31) (hC : C < 2 ^ 31) : sp_rd f R C (nI i) (nI j) = f (i * C + j) := by
  unfold sp_rd
  rw [nI_toInt (by omega), nI_toInt (by omega), nI_clamp (by omega), nI_clamp (by omega), if_pos (by omega)]
theorem sp_ix {i j R C : Nat} (hi : i < R) (hj : j < C) : i * C + j < R * C := by
  have : (i + 1) * C ≤ R * C := Nat.mul_le_mul_right C hi
  have e : (i + 1) * C = i * C + C := Nat.succ_mul i C
  omega
theorem sp_sm {R C : Nat} (hR : R ≤ 16) (hC : C ≤ 16) : R * C ≤ 256 := Nat.mul_le_mul hR hC
set_option maxRecDepth 20000 in
theorem m_X8_get (hok : ev_ok sh_S G) {t R C : Nat} (ht : sh_T t R C) (x y : Int32) (μ : ev_M) : ev_T sh_S G mi_X8_get [.ref t, .int x, .int y] μ (.inl (some (.int (sp_rd (μ.1 (t + 1)) R C x y)), μ)) := by
  refine ev_tri hok okM_X8_get (Nat.le_of_ble_eq_true rfl) 200 ?_
  obtain ⟨h1, h2, h3, h4, h5, h6, h7, h8⟩ := ht
  have hpt : sh_pt t 2 = t + 1 := by unfold sh_pt; rw [h1]; rfl
  have hsm := sp_sm h7 h8
  rw [at_X8_get_0]
  simp only [ev_run_c, ev_run_n, ev_fj, ev_stp, ev_lk, ev_fv, ev_as, ev_sz, ev_st1, ev_st2, ev_rm, ev_pk, ev_Jof, ev_go, lv_args, List.map_cons, List.map_nil, List.zip_cons_cons, List.zip_nil_left, List.zip_nil_right, List.nil_append, List.cons_append, ↓reduceIte, reduceCtorEq, Int.reduceToNat, Nat.reduceEqDiff, Nat.reduceAdd, Nat.reduceLT, Nat.reduceLeDiff, Nat.reduceMul, Value.category, OfNat.ofNat_ne_zero, OfNat.zero_ne_ofNat, false_implies, true_and, and_true, Bool.false_eq_true, Option.some.injEq, exists_eq_left', Option.toList_some, Option.toList_none, ev_k0, ev_k1, ev_km, ev_k2, ev_k3, ev_k4, ev_k5, ev_l0, ev_l1, sh_1, sh_2, sh_3, sh_4, sh_5, at_X8_get_40, at_X8_get_41, cd_X8_get_0, cd_X8_get_40, cd_X8_get_41, fl_X8_13, fl_X8_19, fl_X8_22, h1, h4, h5, hpt, h2, h3, Sum.inl.injEq, Prod.mk.injEq, Value.int.injEq, sp_lt0, sp_leN (show R < 2 ^ 31 by omega), sp_leN (show C < 2 ^ 31 by omega)]
  refine ⟨fun q => ?_, fun q => ⟨by omega, fun q2 => ?_, fun q2 => ⟨fun q3 => ?_, fun q3 => ⟨by omega, fun q4 => ?_, fun q4 => ⟨by omega, by omega, by omega, ?_⟩⟩⟩⟩⟩
  · exact if_neg (by omega)
  · exact if_neg (by omega)
  · exact if_neg (by omega)
  · exact if_neg (by omega)
  · obtain ⟨i, hi, rfl⟩ := sp_is (by omega) (by omega) (show R < 2 ^ 31 by omega)
    obtain ⟨j, hj, rfl⟩ := sp_is (by omega) (by omega) (show C < 2 ^ 31 by omega)
    have hij := sp_ix hi hj
    rw [pk_mul, nI_add, sp_rd_nI hi hj (by omega) (by omega), nI_clamp (by omega)]
    exact ⟨vp_in_nI hij (by omega), rfl⟩
end Leaf1
