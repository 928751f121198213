/-! ===== the class's parser: one turn ===== -/
section XStp
variable {G : ev_G} {N : Nat → Nat} {B : Nat → Nat} {n m p : Nat} {μ μ' : ev_M}
theorem er_yc {a c : Nat} : (er (0, -1) True c a B n).1 = c := by
  unfold er
  rw [if_pos ⟨rfl, trivial⟩]
theorem w9_e {b k : Nat} {v : Int32} : (w1 μ b k v).1 b k = v := by show (if b = b ∧ k = k then v else _) = v; rw [if_pos ⟨rfl, rfl⟩]
theorem w9_n {b k b' k' : Nat} {v : Int32} (h : b' ≠ b ∨ k' ≠ k) : (w1 μ b k v).1 b' k' = μ.1 b' k' := by show (if b' = b ∧ k' = k then v else _) = _; rw [if_neg (by omega)]
theorem Fm9_pe {e : Nat × Int32} {a : Nat} : Fm9 μ (pe e a μ) := Fm9_s Fs_pe
theorem Fm9_w {b k : Nat} {v : Int32} (h : b = 32 ∨ b = 33 ∨ b = 5) (h6 : b ≠ 6 ∨ k ≠ 0) : Fm9 μ (w1 μ b k v) := ⟨fun b' k' hb => by
    by_cases c : b' = 5
    · omega
    · exact w9_n (by omega), fun _ _ _ => rfl, rfl, w9_n (by omega), fun b' k' h1 h2 => w9_n (by omega)⟩
theorem PR_w {b k : Nat} {v : Int32} (h : b = 32 ∨ b = 33 ∨ b = 5) (hP : PR 6 N μ) : PR 6 N (w1 μ b k v) := PR_fr hP (fun a k h1 h2 => w9_n (by omega)) (fun k => rfl)
set_option maxHeartbeats 1000000 in
theorem sr_item (hok : ev_ok sh_S G) (hkw : KW G) {Q : Nat → Nat} {a d due : Nat} {bd pl : Nat → Nat} {e : Nat × Int32} (hS : SR B n m (Q, a, d, bd, pl, due, e) μ) (h0 : e.1 = 0) (hdue : due = 1) (hIN : otm Q d (kwi B n a) = 0 → kwi B n a ≠ 18 → (qI B n Q a (kwi B n a)).1 = 0 → INV (nI9 B n Q a (kwi B n a))) : ∃ μ1, Fm9 μ μ1 ∧ SR B n m (stp B n (Q, a, d, bd, pl, due, e)) μ1 ∧ ∀ L i v μ', i + 1 < 1000000 → LTp G L (stp B n (Q, a, d, bd, pl, due, e)).due (i + 1) v μ1 μ' → LTp G L due i v μ μ' := by
  obtain ⟨hT, g1, g2, g5, gd, hz⟩ := hS
  obtain ⟨e1, hP, hI, g7, ha, g6, hd2, hst⟩ := hz h0
  have e1 : e = (0, -1) := e1
  have hP : PR 6 Q μ := hP
  have hI : INV Q := hI
  have g7 : μ.1 5 7 = nI a := g7
  have ha : a ≤ m := ha
  have g6 : μ.1 5 6 = nI d := g6
  have hd2 : d ≤ 2 := hd2
  have hst : ∀ r, r < d → μ.1 32 r = nI (bd r) ∧ μ.1 33 r = nI (pl r) ∧ bd r ≤ m ∧ 1 ≤ pl r ∧ pl r < 10 := hst
  subst e1
  subst hdue
  have hpe : pe (0, -1) a μ = μ := pe_self g1 g2 g7
  by_cases c1 : otm Q d (kwi B n a) = 1
  · have hs : stp B n (Q, a, d, bd, pl, 1, (0, -1)) = (Q, a, d, bd, pl, 0, er (0, -1) True 4 a B n) := by
      unfold stp
      rw [if_pos rfl, if_pos c1]
    rw [hs]
    refine ⟨pe (er (0, -1) True 4 a B n) a μ, Fm9_pe, ⟨TT_pe hT, pe_1, pe_2, er_c (by decide) (by decide), Nat.zero_le _, fun z => absurd (er_yc.symm.trans z) (by decide)⟩, fun L i v μ' hi hn => ?_⟩
    have h := ps_due (L := L) (v := v) hok hT hi ha (r := 0) (by decide) (m_item_o hok hkw hT rfl hP hI ha g6 hd2 c1) hn
    rw [hpe] at h
    exact h
  · have c0 : otm Q d (kwi B n a) = 0 := by
      have : otm Q d (kwi B n a) ≤ 1 := by unfold otm; split <;> omega
      omega
    by_cases c2 : kwi B n a = 18
    · have hs : stp B n (Q, a, d, bd, pl, 1, (0, -1)) = (Q, a + 1 + 1 + 1, d + 1, u1 bd d (a + 1 + 1 + 1), u1 pl d (tvl B n (a + 1)), 1, q_repeat B n (a + 1)) := by
        unfold stp
        rw [if_pos rfl, if_neg c1, if_pos c2]
      rw [hs]
      obtain ⟨hdd, v0, hv0, hit⟩ := rd_rep hok hkw hT rfl hP hI ha g6 hd2 c0 c2
      have ha1 : a + 1 ≤ m := tk_nxt hT ha (fun q => by unfold kwi at c2; rw [if_neg (by omega)] at c2; cases c2)
      have hF : Fm9 μ (x_rep d (a + 1 + 1 + 1) 0 v0 μ) := Fm9_tr (Fm9_tr (Fm9_w (Or.inl rfl) (by omega)) (Fm9_w (Or.inr (Or.inl rfl)) (by omega))) (Fm9_w (Or.inr (Or.inr rfl)) (by omega))
      refine ⟨pe (q_repeat B n (a + 1)) (a + 1 + 1 + 1) (x_rep d (a + 1 + 1 + 1) 0 v0 μ), Fm9_tr hF Fm9_pe, ⟨TT_pe (TT_q hT hF), pe_1, pe_2, er_c (rN_c (by decide)) (by decide), Nat.le_refl _, fun z => ?_⟩, fun L i v μ' hi hn => ?_⟩
      · have z : (q_repeat B n (a + 1)).1 = 0 := z
        have z1 := er_0 z (by decide)
        have z2 := rN_0 z1.1
        have z3 := nmc_0 z2.2.1
        have z4 := rN_nx hT (fun _ => ha1) z1.1
        have z5 : tkd B n (a + 1 + 1) = 4 := Classical.byContradiction (fun q => z1.2.1 q)
        have z6 := tk_nxt hT z4 (by omega)
        have hx32 : ∀ r, (pe (q_repeat B n (a + 1)) (a + 1 + 1 + 1) (x_rep d (a + 1 + 1 + 1) 0 v0 μ)).1 32 r = if r = d then nI (a + 1 + 1 + 1) else μ.1 32 r := fun r => by
          rw [pe_n (by omega)]
          unfold x_rep
          rw [w9_n (by omega), w9_n (by omega)]
          split
          · next h => rw [h, w9_e]
          · next h => exact w9_n (by omega)
        have hx33 : ∀ r, (pe (q_repeat B n (a + 1)) (a + 1 + 1 + 1) (x_rep d (a + 1 + 1 + 1) 0 v0 μ)).1 33 r = if r = d then v0 else μ.1 33 r := fun r => by
          rw [pe_n (by omega)]
          unfold x_rep
          rw [w9_n (by omega)]
          split
          · next h => rw [h, w9_e]
          · next h => rw [w9_n (by omega), w9_n (by omega)]
        refine ⟨z1.2.2.trans z2.2.2, PR_pe (PR_w (Or.inr (Or.inr rfl)) (PR_w (Or.inr (Or.inl rfl)) (PR_w (Or.inl rfl) hP))), hI, pe_7, z6, ?_, Nat.succ_le_of_lt hdd, fun r hr => ?_⟩
        · rw [pe_6]; exact w9_e
        · have hr : r < d + 1 := hr
          show _ = nI (u1 bd d (a + 1 + 1 + 1) r) ∧ _ = nI (u1 pl d (tvl B n (a + 1)) r) ∧ u1 bd d (a + 1 + 1 + 1) r ≤ m ∧ 1 ≤ u1 pl d (tvl B n (a + 1)) r ∧ u1 pl d (tvl B n (a + 1)) r < 10
          rw [hx32, hx33]
          unfold u1
          by_cases cr : r = d
          · simp only [if_pos cr]
            exact ⟨trivial, hv0 z, z6, z3.2.1, z3.2.2⟩
          · simp only [if_neg cr]
            exact hst r (Nat.lt_of_le_of_ne (Nat.le_of_lt_succ hr) cr)
      · have h := ps_due (L := L) (v := v) hok hT hi ha (r := 1) (by decide) hit hn
        rw [hpe] at h
        exact h
    · have hs : stp B n (Q, a, d, bd, pl, 1, (0, -1)) = (nI9 B n Q a (kwi B n a), aI9 B n Q a (kwi B n a), d, bd, pl, 0, qI B n Q a (kwi B n a)) := by
        unfold stp
        rw [if_pos rfl, if_neg c1, if_neg c2]
      rw [hs]
      obtain ⟨μ1, hit, hF, f1, f2, f5, fz⟩ := rd_item hok hkw hT rfl hP hI ha g6 hd2 c0 c2
      refine ⟨μ1, Fm9_s hF, ⟨TT_q hT (Fm9_s hF), f1, f2, f5, Nat.zero_le _, fun z => ?_⟩, fun L i v μ' hi hn => ?_⟩
      · have z : (qI B n Q a (kwi B n a)).1 = 0 := z
        have h19 : kwi B n a ≠ 19 := fun q => by rw [q] at z; exact absurd (er_yc.symm.trans z) (by decide)
        have ha1 : a + 1 ≤ m := tk_nxt hT ha (fun q => h19 (by unfold kwi; rw [if_neg (by omega)]))
        have zo := oI9 (N := Q) (k := kwi B n a) hT ha1 z
        refine ⟨zo.1, (fz z).1, hIN c0 c2 z, (fz z).2, zo.2, hF.2.2.2.1.trans g6, hd2, fun r hr => ?_⟩
        have := hst r hr
        exact ⟨(hF.1 32 r (by omega)).trans this.1, (hF.1 33 r (by omega)).trans this.2.1, this.2.2⟩
      · have h := ps_due (L := L) (v := v) hok hT hi ha (r := 0) (by decide) hit hn
        rw [hpe] at h
        exact h
end XStp
