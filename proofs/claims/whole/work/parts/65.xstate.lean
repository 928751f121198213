/-! ===== the class: its state ===== -/
section XState
variable {G : ev_G} {N : Nat → Nat} {μ μ' : ev_M} {p : Nat} {σ : ev_A}
/-- a panel's row stays where its cells stay -/
theorem PR_fr (h : PR p N μ) (h1 : ∀ a k, p ≤ a → a < p + 22 → μ'.1 a k = μ.1 a k) (h2 : ∀ k, μ'.2.1 (p + 1) k = μ.2.1 (p + 1) k) : PR p N μ' := by
  have hh := pr_h h
  have hs := pr_sh h
  refine ⟨⟨?_, ?_, ?_, ?_, ?_, ?_⟩, fun i hi => ?_, fun i hi => ?_, fun i hi => ?_, fun q hq => ?_, fun i t hi ht => ?_, fun i j hi hj => ?_, fun i q hi hq => ?_, fun i q hi hq => ?_, ⟨fun q hq => ?_, fun q k hq hk => ?_⟩, ⟨fun q hq => ?_, fun q k hq hk => ?_⟩, ⟨?_, ?_, ?_, ?_⟩, fun i q hi hq => ?_⟩
  · exact (h1 _ _ (by omega) (by omega)).trans (hh.1)
  · exact (h1 _ _ (by omega) (by omega)).trans (hh.2.1)
  · exact (h1 _ _ (by omega) (by omega)).trans (hh.2.2.1)
  · exact (h1 _ _ (by omega) (by omega)).trans (hh.2.2.2.1)
  · exact (h1 _ _ (by omega) (by omega)).trans (hh.2.2.2.2.1)
  · exact (h1 _ _ (by omega) (by omega)).trans (hh.2.2.2.2.2)
  · exact (h2 _).trans (pr_nm h i hi)
  · exact (h1 _ _ (by omega) (by omega)).trans (pr_ki h i hi)
  · exact (h1 _ _ (by omega) (by omega)).trans (pr_li h i hi)
  · exact (h1 _ _ (by omega) (by omega)).trans (pr_to h q hq)
  · exact (h1 _ _ (by omega) (by omega)).trans (pr_ta h i t hi ht)
  · exact (h1 _ _ (by omega) (by omega)).trans (pr_tg h i j hi hj)
  · exact (h1 _ _ (by omega) (by omega)).trans (pr_bi h i q hi hq)
  · exact (h1 _ _ (by omega) (by omega)).trans (pr_de h i q hi hq)
  · exact (h1 _ _ (by omega) (by omega)).trans (pr_cn h q hq)
  · exact (h1 _ _ (by omega) (by omega)).trans (pr_cm h q k hq hk)
  · exact (h1 _ _ (by omega) (by omega)).trans (pr_sn h q hq)
  · exact (h1 _ _ (by omega) (by omega)).trans (pr_sm h q k hq hk)
  · exact (h1 _ _ (by omega) (by omega)).trans (hs.1)
  · exact (h1 _ _ (by omega) (by omega)).trans (hs.2.1)
  · exact (h1 _ _ (by omega) (by omega)).trans (hs.2.2.1)
  · exact (h1 _ _ (by omega) (by omega)).trans (hs.2.2.2)
  · exact (h1 _ _ (by omega) (by omega)).trans (pr_sc h i q hi hq)
/-- the class holds an abstract state: panel, history, slots, input, errors, output, the parser's panel -/
def XP (σ : ev_A) (μ : ev_M) : Prop := PR 34 (aN σ) μ ∧ μ.1 34 0 = nI (aE σ)
def XH (σ : ev_A) (μ : ev_M) : Prop := HR μ ∧ μ.1 78 2 = nI (aK σ) ∧ (∀ i, i < 8 → μ.1 (hx μ i) 0 = nI 0 ∨ μ.1 (hx μ i) 0 = nI 1) ∧ (∀ i, i < aK σ → PR (hx μ i) (aH σ i) μ ∧ μ.1 (hx μ i) 0 = nI 1) ∧ (0 < aK σ ∨ aS σ 0 = 1 ∨ aS σ 1 = 1 → aE σ = 1)
def XV (σ : ev_A) (μ : ev_M) : Prop := ∀ s, s < 2 → μ.2.2 256 s = 257 + 22 * s ∧ μ.1 (257 + 22 * s) 0 = nI (aS σ s) ∧ (aS σ s = 1 → PR (257 + 22 * s) (aV σ s) μ)
def XI (σ : ev_A) (μ : ev_M) : Prop := (μ.1 1 1 = nI (aBn σ) ∧ ∀ i, i < aBn σ → μ.1 2 i = nI (aB σ i)) ∧ (μ.1 5 1 = nI (aPc σ) ∧ μ.1 5 2 = aPa σ) ∧ (μ.1 3 1 = nI (aGn σ) ∧ ∀ i, i < aGn σ → μ.1 4 i = nI (aG σ i)) ∧ (μ.1 6 0 = nI 0 ∨ μ.1 6 0 = nI 1)
def XS (σ : ev_A) (μ : ev_M) : Prop := XP σ μ ∧ XH σ μ ∧ XV σ μ ∧ XI σ μ
/-- what a change of the panel changes (the trial panel is free) -/
def Fx (μ μ' : ev_M) : Prop := (∀ a k, a < 34 ∨ 78 ≤ a → μ'.1 a k = μ.1 a k ∧ μ'.2.1 a k = μ.2.1 a k) ∧ μ'.2.2 = μ.2.2
theorem Fx_rf : Fx μ μ := ⟨fun _ _ _ => ⟨rfl, rfl⟩, rfl⟩
theorem Fx_tr {μ'' : ev_M} (h : Fx μ μ') (h2 : Fx μ' μ'') : Fx μ μ'' := ⟨fun a k h3 => ⟨(h2.1 a k h3).1.trans (h.1 a k h3).1, (h2.1 a k h3).2.trans (h.1 a k h3).2⟩, h2.2.trans h.2⟩
theorem Fx_w1 {a k : Nat} {v : Int32} (h : Fx μ μ') (ha : 34 ≤ a ∧ a < 78) : Fx μ (w1 μ' a k v) := ⟨fun b j hb => ⟨(w1_n (by omega)).trans (h.1 b j hb).1, (h.1 b j hb).2⟩, h.2⟩
theorem XS_pan {N' : Nat → Nat} (h : XS σ μ) (hk : aK σ ≤ 8) (hf : Fx μ μ') (hP : PR 34 N' μ') (he : μ'.1 34 0 = μ.1 34 0) : XS (N', σ.2) μ' := by
  obtain ⟨⟨h1, h2⟩, ⟨h3, h4, h5, h6, h7⟩, h8, h9⟩ := h
  obtain ⟨f1, f2⟩ := hf
  have f3 : ∀ x, hx μ' x = hx μ x := hx_c (f1 78 1 (by omega)).1 (fun x => by rw [f2])
  refine ⟨⟨hP, he.trans h2⟩, ⟨⟨fun i hi => ?_, fun i j hi hj hij => ?_, hl_c h3.2.2 (f1 78 1 (by omega)).1⟩, ?_, fun i hi => ?_, fun i hi => ?_, h7⟩, fun s hs => ⟨?_, ?_, fun hv => ?_⟩, ⟨?_, fun i hi => ?_⟩, ⟨?_, ?_⟩, ⟨?_, fun i hi => ?_⟩, ?_⟩
  · rw [f3]; exact h3.1 i hi
  · rw [f3, f3]; exact h3.2.1 i j hi hj hij
  · rw [(f1 _ _ (by omega)).1]; exact h4
  · have g := h3.1 i hi
    rw [f3, (f1 _ _ (by omega)).1]
    exact h5 i hi
  · rcases Nat.lt_or_ge i 8 with hi8 | hi8
    · have g := h3.1 i hi8
      rw [f3, (f1 _ _ (by omega)).1]
      exact ⟨PR_fr (h6 i hi).1 (fun a k ha hb => (f1 a k (by omega)).1) (fun k => (f1 _ k (by omega)).2), (h6 i hi).2⟩
    · exact absurd (Nat.lt_of_lt_of_le (show i < aK σ from hi) hk) (by omega)
  · rw [f2]; exact (h8 s hs).1
  · rw [(f1 _ _ (by omega)).1]; exact (h8 s hs).2.1
  · exact PR_fr ((h8 s hs).2.2 hv) (fun a k ha hb => (f1 a k (by omega)).1) (fun k => (f1 _ k (by omega)).2)
  · rw [(f1 _ _ (by omega)).1]; exact h9.1.1
  · rw [(f1 _ _ (by omega)).1]; exact h9.1.2 i hi
  · rw [(f1 _ _ (by omega)).1]; exact h9.2.1.1
  · rw [(f1 _ _ (by omega)).1]; exact h9.2.1.2
  · rw [(f1 _ _ (by omega)).1]; exact h9.2.2.1.1
  · rw [(f1 _ _ (by omega)).1]; exact h9.2.2.1.2 i hi
  · rw [(f1 _ _ (by omega)).1]; exact h9.2.2.2
theorem rem_n {n a x : Nat} (h : ¬ (hx μ 7 ≤ a ∧ a < hx μ 7 + 22)) (h2 : ¬ (a = 78 ∧ (x = 1 ∨ x = 2))) : (x_rem p n μ).1 a x = μ.1 a x := by
  unfold x_rem
  rw [w1_n (by omega), cpP_n (by omega), hx_1 (by omega)]
theorem rem_l {n a x : Nat} (h : ¬ a = hx μ 7 + 1) : (x_rem p n μ).2.1 a x = μ.2.1 a x := by
  show (x_cpP p (hx μ 7) (x_rmA μ)).2.1 a x = μ.2.1 a x
  rw [cpP_l h]
  rfl
theorem rem_2 {n : Nat} : (x_rem p n μ).2.2 = μ.2.2 := by
  show (x_cpP p (hx μ 7) (x_rmA μ)).2.2 = μ.2.2
  exact cpP_2
theorem rem_1 {n : Nat} (h : 79 < hx μ 7) : (x_rem p n μ).1 78 1 = nI (nxl (hxl μ)) := by
  unfold x_rem
  rw [w1_n (by omega), cpP_n (by omega)]
  exact w1_s
theorem rem_L {n : Nat} (h : 79 < hx μ 7) : hxl (x_rem p n μ) = nxl (hxl μ) := hxl_e nxl_8 (rem_1 h)
theorem rem_h {n i : Nat} (h : 79 < hx μ 7) : hx (x_rem p n μ) i = μ.2.2 79 ((nxl (hxl μ) + 8 - i) % 8) := by
  show (x_rem p n μ).2.2 79 ((hxl (x_rem p n μ) + 8 - i) % 8) = _
  rw [rem_2, rem_L h]
theorem rem_78 {n : Nat} (hn : n ≤ 8) : (x_rem p n μ).1 78 2 = nI (min (n + 1) 8) := by
  unfold x_rem
  rw [w1_s]
  split
  · exact congrArg nI (by omega)
  · exact congrArg nI (by omega)
theorem sh_B_78 : ∀ b ∈ sh_B, b + 22 ≤ 78 ∨ 79 < b := by decide +kernel
theorem sh_B_s : ∀ s, s < 2 → 257 + 22 * s ∈ sh_B := by decide +kernel
theorem sh_34 : 34 ∈ sh_B := by decide +kernel
/-- the panel is remembered -/
theorem XS_rem (h : XS σ μ) (hA : OKA σ) (he : aE σ = 1) : XS (chS σ (aN σ)) (x_rem 34 (aK σ) μ) := by
  obtain ⟨⟨h1, h2⟩, ⟨h3, h4, h5, h6, h7⟩, h8, h9⟩ := h
  have hK : aK σ ≤ 8 := hA.2.2.1
  have hI : INV (aN σ) := hA.1
  obtain ⟨g1, g2, g3⟩ := h3.1 7 (by omega)
  have fr : ∀ b N', b ∈ sh_B → b ≠ hx μ 7 → PR b N' μ → PR b N' (x_rem 34 (aK σ) μ) := fun b N' hb hne hP => by
    have d := sh_B_d b hb _ g1 hne
    have d2 := sh_B_78 b hb
    exact PR_fr hP (fun a k ha hk => rem_n (by omega) (by omega)) (fun k => rem_l (by omega))
  have fr0 : ∀ b, b ∈ sh_B → b ≠ hx μ 7 → (x_rem 34 (aK σ) μ).1 b 0 = μ.1 b 0 := fun b hb hne => by
    have d := sh_B_d b hb _ g1 hne
    have d2 := sh_B_78 b hb
    exact rem_n (by omega) (by omega)
  have po : PR (hx μ 7) (aN σ) (x_rem 34 (aK σ) μ) := by
    have e1 : PR 34 (aN σ) (x_rmA μ) := PR_fr h1 (fun a k ha hk => hx_1 (by omega)) (fun k => rfl)
    have e2 := PR_cp (p := hx μ 7) (o := 34) (by omega) e1 hI
    exact PR_fr e2 (fun a k ha hk => w1_n (by omega)) (fun k => rfl)
  have po0 : (x_rem 34 (aK σ) μ).1 (hx μ 7) 0 = nI 1 := by
    unfold x_rem
    rw [w1_n (by omega), cpP_0 (by omega), hx_1 (by omega), h2, he]
  have hl8 : hxl μ < 8 := by
    obtain ⟨l, a, b⟩ := h3.2.2
    rw [hxl_e a b]
    exact a
  have z0 : hx (x_rem 34 (aK σ) μ) 0 = hx μ 7 := (rem_h (by omega)).trans (congrArg (μ.2.2 79) (by unfold nxl; split <;> omega))
  have zs : ∀ i, i < 7 → hx (x_rem 34 (aK σ) μ) (i + 1) = hx μ i := fun i hi => (rem_h (by omega)).trans (congrArg (μ.2.2 79) (by unfold nxl; split <;> omega))
  have ne : ∀ i, i < 7 → hx μ i ≠ hx μ 7 := fun i hi => h3.2.1 i 7 (by omega) (by omega) (by omega)
  refine ⟨⟨fr 34 _ sh_34 (by omega) h1, (fr0 34 sh_34 (by omega)).trans h2⟩, ⟨⟨fun i hi => ?_, fun i j hi hj hij => ?_, ⟨_, nxl_8, rem_1 (by omega)⟩⟩, rem_78 hK, fun i hi => ?_, fun i hi => ?_, fun _ => he⟩, fun s hs => ⟨?_, ?_, fun hv => ?_⟩, ⟨?_, fun i hi => ?_⟩, ⟨?_, ?_⟩, ⟨?_, fun i hi => ?_⟩, ?_⟩
  · rcases i with _ | i
    · rw [z0]; exact ⟨g1, g2, g3⟩
    · rw [zs i (by omega)]; exact h3.1 i (by omega)
  · rcases i with _ | i <;> rcases j with _ | j
    · exact absurd rfl hij
    · rw [z0, zs j (by omega)]; exact fun q => ne j (by omega) q.symm
    · rw [z0, zs i (by omega)]; exact ne i (by omega)
    · rw [zs i (by omega), zs j (by omega)]; exact h3.2.1 i j (by omega) (by omega) (by omega)
  · rcases i with _ | i
    · rw [z0, po0]; exact Or.inr rfl
    · rw [zs i (by omega), fr0 _ (h3.1 i (by omega)).1 (ne i (by omega))]; exact h5 i (by omega)
  · have hi : i < min (aK σ + 1) 8 := hi
    rcases i with _ | i
    · rw [z0]; exact ⟨po, po0⟩
    · rw [zs i (by omega), fr0 _ (h3.1 i (by omega)).1 (ne i (by omega))]
      exact ⟨fr _ _ (h3.1 i (by omega)).1 (ne i (by omega)) (h6 i (by omega)).1, (h6 i (by omega)).2⟩
  · rw [rem_2]; exact (h8 s hs).1
  · rw [fr0 _ (sh_B_s s hs) (by omega)]; exact (h8 s hs).2.1
  · exact fr _ _ (sh_B_s s hs) (by omega) ((h8 s hs).2.2 hv)
  · rw [rem_n (by omega) (by omega)]; exact h9.1.1
  · rw [rem_n (by omega) (by omega)]; exact h9.1.2 i hi
  · rw [rem_n (by omega) (by omega)]; exact h9.2.1.1
  · rw [rem_n (by omega) (by omega)]; exact h9.2.1.2
  · rw [rem_n (by omega) (by omega)]; exact h9.2.2.1.1
  · rw [rem_n (by omega) (by omega)]; exact h9.2.2.1.2 i hi
  · rw [rem_n (by omega) (by omega)]; exact h9.2.2.2
end XState
