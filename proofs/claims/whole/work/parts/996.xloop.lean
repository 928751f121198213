/-! ===== the class's parser: the other turns, the whole loop ===== -/
section XLoop
variable {G : ev_G} {N : Nat → Nat} {B : Nat → Nat} {n m p : Nat} {μ μ' : ev_M}
set_option maxHeartbeats 1000000 in
theorem sr_other (hok : ev_ok sh_S G) {Q : Nat → Nat} {a d due : Nat} {bd pl : Nat → Nat} {e : Nat × Int32} (hS : SR B n m (Q, a, d, bd, pl, due, e) μ) (h0 : e.1 = 0) (hdue : due = 0) (hA : ¬ (tkd B n a = 0 ∧ d = 0)) : ∃ μ1, Fm9 μ μ1 ∧ SR B n m (stp B n (Q, a, d, bd, pl, due, e)) μ1 ∧ ∀ L i v μ', i + 1 < 1000000 → LTp G L (stp B n (Q, a, d, bd, pl, due, e)).due (i + 1) v μ1 μ' → LTp G L due i v μ μ' := by
  obtain ⟨hT, g1, g2, g5, gd, hz⟩ := hS
  obtain ⟨e1, hP, hI, g7, ha, g6, hd2, hst⟩ := hz h0
  have e1 : e = (0, -1) := e1
  have hP : PR 6 Q μ := hP
  have hI : INV Q := hI
  have g7 : μ.1 5 7 = nI a := g7
  have ha : a ≤ m := ha
  have g6 : μ.1 5 6 = nI d := g6
  have hd2 : d ≤ 2 := hd2
  have hst : ∀ r, r < d → μ.1 32 r = nI (bd r) ∧ μ.1 33 r = nI (pl r) ∧ bd r ≤ m ∧ 1 ≤ pl r ∧ pl r < 10 := hst
  subst e1
  subst hdue
  have hpe : pe (0, -1) a μ = μ := pe_self g1 g2 g7
  have k01 : ¬ ((0 : Nat) = 1) := by decide
  by_cases c3 : tkd B n a = 3
  · have hs : stp B n (Q, a, d, bd, pl, 0, (0, -1)) = (Q, a + 1, d, bd, pl, 1, (0, -1)) := by
      unfold stp
      rw [if_neg k01, if_pos c3]
    rw [hs]
    refine ⟨pe (0, -1) (a + 1) μ, Fm9_pe, ⟨TT_pe hT, pe_1, pe_2, Nat.zero_lt_succ 4, Nat.le_refl _, fun z => ⟨rfl, PR_pe hP, hI, pe_7, tk_nxt hT ha (by omega), pe_6.trans g6, hd2, fun r hr => ?_⟩⟩, fun L i v μ' hi hn => ?_⟩
    · rw [pe_n (by omega), pe_n (by omega)]; exact hst r hr
    · have h := ps_semi (L := L) (v := v) hok hT hi ha c3 hn
      rw [hpe] at h
      exact h
  · by_cases c5 : tkd B n a = 5 ∧ 0 < d
    · obtain ⟨r, rfl⟩ : ∃ r, d = r + 1 := ⟨d - 1, by omega⟩
      have hr2 : r < 2 := Nat.lt_of_succ_le hd2
      obtain ⟨s1, s2, s3, s4, s5⟩ := hst r (Nat.lt_succ_self r)
      have e2 : r + 1 - 1 = r := rfl
      by_cases cp : 2 ≤ pl r
      · have hs : stp B n (Q, a, r + 1, bd, pl, 0, (0, -1)) = (Q, bd r, r + 1, bd, u1 pl r (pl r - 1), 1, (0, -1)) := by
          unfold stp
          rw [if_neg k01, if_neg c3, if_pos c5]
          exact if_pos cp
        rw [hs]
        have hep := m_endPass_y (μ := μ) (a := a) (e := (0, -1)) hok hr2 g6 s2 cp (Nat.lt_trans s5 (by decide)) s1
        have hF : Fm9 μ (w1 μ 33 r (nI (pl r - 1))) := Fm9_w (Or.inr (Or.inl rfl)) (by omega)
        refine ⟨pe (0, -1) (bd r) (w1 μ 33 r (nI (pl r - 1))), Fm9_tr hF Fm9_pe, ⟨TT_pe (TT_q hT hF), pe_1, pe_2, Nat.zero_lt_succ 4, Nat.le_refl _, fun z => ⟨rfl, PR_pe (PR_w (Or.inr (Or.inl rfl)) hP), hI, pe_7, s3, pe_6.trans ((w9_n (Or.inl (by decide))).trans g6), hd2, fun r2 hr => ?_⟩⟩, fun L i v μ' hi hn => ?_⟩
        · have hr : r2 < r + 1 := hr
          show (pe (0, -1) (bd r) (w1 μ 33 r (nI (pl r - 1)))).1 32 r2 = nI (bd r2) ∧ (pe (0, -1) (bd r) (w1 μ 33 r (nI (pl r - 1)))).1 33 r2 = nI (u1 pl r (pl r - 1) r2) ∧ bd r2 ≤ m ∧ 1 ≤ u1 pl r (pl r - 1) r2 ∧ u1 pl r (pl r - 1) r2 < 10
          rw [pe_n (by decide), pe_n (by decide), w9_n (Or.inl (by decide))]
          obtain ⟨t1, t2, t3, t4, t5⟩ := hst r2 hr
          refine ⟨t1, ?_, t3, ?_⟩
          · unfold u1
            by_cases cr : r2 = r
            · rw [if_pos cr, cr]; exact w9_e
            · rw [if_neg cr, w9_n (Or.inr cr)]; exact t2
          · unfold u1
            by_cases cr : r2 = r
            · rw [if_pos cr]
              have q1 : 1 ≤ pl r - 1 := Nat.le_sub_of_add_le cp
              have q2 : pl r - 1 < 10 := Nat.lt_of_le_of_lt (Nat.sub_le _ _) s5
              exact ⟨q1, q2⟩
            · rw [if_neg cr]; exact ⟨t4, t5⟩
        · have h := ps_close (L := L) (v := v) hok hT hi ha c5.1 g6 c5.2 hd2 (r := 1) (by decide) hep hn
          rw [hpe] at h
          exact h
      · have p1 : pl r = 1 := Nat.le_antisymm (Nat.le_of_lt_succ (Nat.lt_of_not_le cp)) s4
        have hs : stp B n (Q, a, r + 1, bd, pl, 0, (0, -1)) = (Q, a + 1, r, bd, pl, 0, (0, -1)) := by
          unfold stp
          rw [if_neg k01, if_neg c3, if_pos c5]
          exact if_neg cp
        rw [hs]
        have s2 : μ.1 33 r = nI 1 := s2.trans (congrArg nI p1)
        have hep := m_endPass_n (μ := μ) (a := a) (e := (0, -1)) hok hr2 g6 s2
        have hF : Fm9 μ (w1 (w1 μ 33 r (nI 0)) 5 6 (nI r)) := Fm9_tr (Fm9_w (Or.inr (Or.inl rfl)) (by omega)) (Fm9_w (Or.inr (Or.inr rfl)) (by omega))
        refine ⟨pe (0, -1) (a + 1) (w1 (w1 μ 33 r (nI 0)) 5 6 (nI r)), Fm9_tr hF Fm9_pe, ⟨TT_pe (TT_q hT hF), pe_1, pe_2, Nat.zero_lt_succ 4, Nat.zero_le _, fun z => ⟨rfl, PR_pe (PR_w (Or.inr (Or.inr rfl)) (PR_w (Or.inr (Or.inl rfl)) hP)), hI, pe_7, tk_nxt hT ha (by omega), pe_6.trans w9_e, Nat.le_of_lt hr2, fun r2 hr => ?_⟩⟩, fun L i v μ' hi hn => ?_⟩
        · have hr : r2 < r := hr
          rw [pe_n (by decide), pe_n (by decide), w9_n (Or.inl (by decide)), w9_n (Or.inl (by decide)), w9_n (Or.inl (by decide)), w9_n (Or.inr (Nat.ne_of_lt hr))]
          exact hst r2 (Nat.lt_succ_of_lt hr)
        · have h := ps_close (L := L) (v := v) hok hT hi ha c5.1 g6 c5.2 hd2 (r := 0) (by decide) hep hn
          rw [hpe] at h
          exact h
    · have hs : stp B n (Q, a, d, bd, pl, 0, (0, -1)) = (Q, a, d, bd, pl, 0, er (0, -1) True 1 a B n) := by
        unfold stp
        rw [if_neg k01, if_neg c3, if_neg c5]
      rw [hs]
      refine ⟨pe (er (0, -1) True 1 a B n) a μ, Fm9_pe, ⟨TT_pe hT, pe_1, pe_2, er_c (by decide) (by decide), Nat.zero_le _, fun z => absurd (er_yc.symm.trans z) (by decide)⟩, fun L i v μ' hi hn => ?_⟩
      have h := ps_bad (L := L) (v := v) hok hT hi ha g6 hd2 c3 c5 hA hn
      rw [hpe] at h
      exact h
/-- what an item leaves is a panel -/
def INI (B : Nat → Nat) (n : Nat) (s : PS) : Prop := s.due = 1 → otm s.Q s.d (kwi B n s.a) = 0 → kwi B n s.a ≠ 18 → (qI B n s.Q s.a (kwi B n s.a)).1 = 0 → INV (nI9 B n s.Q s.a (kwi B n s.a))
theorem sr_stp (hok : ev_ok sh_S G) (hkw : KW G) {s : PS} (hS : SR B n m s μ) (h0 : s.e.1 = 0) (hA : ¬ AC B n s) (hIN : INI B n s) : ∃ μ1, Fm9 μ μ1 ∧ SR B n m (stp B n s) μ1 ∧ ∀ L i v μ', i + 1 < 1000000 → LTp G L (stp B n s).due (i + 1) v μ1 μ' → LTp G L s.due i v μ μ' := by
  obtain ⟨Q, a, d, bd, pl, due, e⟩ := s
  have hd1 : due ≤ 1 := hS.2.2.2.2.1
  by_cases c : due = 1
  · exact sr_item hok hkw hS h0 c (hIN c)
  · have c0 : due = 0 := by omega
    exact sr_other hok hS h0 c0 (fun q => hA ⟨c0, q.1, q.2⟩)
def itr (B : Nat → Nat) (n : Nat) : Nat → PS → PS
  | 0, s => s
  | k + 1, s => itr B n k (stp B n s)
/-- the whole loop -/
theorem ps_loop (hok : ev_ok sh_S G) (hkw : KW G) {L : Nat} : ∀ (k : Nat) (s : PS) (μ : ev_M) (i : Nat), SR B n m s μ → i + k + 1 < 1000000 → (∀ j, j < k → (itr B n j s).e.1 = 0 ∧ ¬ AC B n (itr B n j s) ∧ INI B n (itr B n j s)) → ((itr B n k s).e.1 = 0 → AC B n (itr B n k s)) →
    ∃ μ', Fm9 μ μ' ∧ SR B n m (itr B n k s) μ' ∧ LTp G L s.due i (if (itr B n k s).e.1 = 0 then 1 else 0) μ μ' := by
  intro k
  induction k with
  | zero =>
    intro s μ i hS hi _ hE
    obtain ⟨Q, a, d, bd, pl, due, e⟩ := s
    obtain ⟨hT, g1, g2, g5, gd, hz⟩ := id hS
    refine ⟨μ, Fm9_rf, hS, ?_⟩
    by_cases h0 : e.1 = 0
    · obtain ⟨a1, a2, a3⟩ := hE h0
      obtain ⟨e1, hP, hI, g7, ha, g6, hd2, hst⟩ := hz h0
      have a1 : due = 0 := a1
      have a2 : tkd B n a = 0 := a2
      have a3 : d = 0 := a3
      have e1 : e = (0, -1) := e1
      subst a1
      subst a3
      subst e1
      have h := ps_acc (L := L) hok hT (i := i) (by omega) ha a2 g6
      rw [show pe (0, -1) (PS.a (Q, a, 0, bd, pl, 0, 0, -1)) μ = μ from pe_self g1 g2 g7] at h
      rw [if_pos (show (itr B n 0 (Q, a, 0, bd, pl, 0, (0, -1))).e.1 = 0 from rfl)]
      exact h
    · rw [if_neg (show ¬ (itr B n 0 (Q, a, d, bd, pl, due, e)).e.1 = 0 from h0)]
      exact ps_err (by omega) g1 h0 g5 rfl
  | succ k ih =>
    intro s μ i hS hi hj hE
    obtain ⟨j1, j2, j3⟩ := hj 0 (Nat.succ_pos k)
    obtain ⟨μ1, hF, hS1, hn⟩ := sr_stp hok hkw hS j1 j2 j3
    obtain ⟨μ', hF', hS', hL⟩ := ih (stp B n s) μ1 (i + 1) hS1 (by omega) (fun j h => hj (j + 1) (Nat.succ_lt_succ h)) hE
    exact ⟨μ', Fm9_tr hF hF', hS', hn L i _ μ' (by omega) hL⟩
end XLoop
