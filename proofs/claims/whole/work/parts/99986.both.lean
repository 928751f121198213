/-! ===== both sides hold one state; a step of the law, as far as its two calls ===== -/
section Both
variable {G : ev_G} {N : Nat → Nat} {μ μ' : ev_M} {σ : ev_A}
theorem XS_f (h : XS σ μ) (hk : aK σ ≤ 8) (f1 : ∀ a k, a < 301 → μ'.1 a k = μ.1 a k) (f2 : ∀ a k, a < 301 → μ'.2.1 a k = μ.2.1 a k) (f3 : ∀ a k, a < 301 → μ'.2.2 a k = μ.2.2 a k) : XS σ μ' := by
  obtain ⟨⟨x1, x2⟩, ⟨x3, x4, x5, x6, x7⟩, x8, x9⟩ := id h
  have fr : ∀ b N', b + 22 ≤ 301 → PR b N' μ → PR b N' μ' := fun b N' hb hP => PR_fr hP (fun a k _ ha => f1 a k (by omega)) (fun k => f2 _ k (by omega))
  have z3 : ∀ x, hx μ' x = hx μ x := hx_c (f1 78 1 (by omega)) (fun x => f3 79 x (by omega))
  refine ⟨⟨fr 34 _ (by omega) x1, (f1 34 0 (by omega)).trans x2⟩, ⟨⟨fun i hi => ?_, fun i j hi hj hij => ?_, hl_c x3.2.2 (f1 78 1 (by omega))⟩, (f1 78 2 (by omega)).trans x4, fun i hi => ?_, fun i hi => ?_, x7⟩, fun s hs => ⟨?_, (f1 _ 0 (by omega)).trans (x8 s hs).2.1, fun hv => fr _ _ (by omega) ((x8 s hs).2.2 hv)⟩, ⟨(f1 1 1 (by omega)).trans x9.1.1, fun i hi => (f1 2 i (by omega)).trans (x9.1.2 i hi)⟩, ⟨(f1 5 1 (by omega)).trans x9.2.1.1, (f1 5 2 (by omega)).trans x9.2.1.2⟩, ⟨(f1 3 1 (by omega)).trans x9.2.2.1.1, fun i hi => (f1 4 i (by omega)).trans (x9.2.2.1.2 i hi)⟩, ?_⟩
  · rw [z3]; exact x3.1 i hi
  · rw [z3, z3]; exact x3.2.1 i j hi hj hij
  · have g := x3.1 i hi
    rw [z3, f1 _ _ (by omega)]; exact x5 i hi
  · have hi8 : i < 8 := Nat.lt_of_lt_of_le hi hk
    have g := x3.1 i hi8
    rw [z3, f1 _ _ (by omega)]
    exact ⟨fr _ _ (by omega) (x6 i hi).1, (x6 i hi).2⟩
  · rw [f3 256 s (by omega)]; exact (x8 s hs).1
  · rw [f1 6 0 (by omega)]; exact x9.2.2.2
theorem MS_f (h : MS σ μ) (hf : ∀ a k, 301 ≤ a → μ'.1 a k = μ.1 a k) : MS σ μ' := by
  obtain ⟨h1, h2, h3, h4, h5, h6, h7, h8, h9, h10, h11, h12⟩ := h
  exact ⟨fun k hk => (hf _ _ (by omega)).trans (h1 k hk), (hf _ _ (by omega)).trans h2, (hf _ _ (by omega)).trans h3, fun i hi j hj => (hf _ _ (by omega)).trans (h4 i hi j hj), fun s hs => (hf _ _ (by omega)).trans (h5 s hs), fun s hs hv j hj => (hf _ _ (by omega)).trans (h6 s hs hv j hj), (hf _ _ (by omega)).trans h7, fun i hi => (hf _ _ (by omega)).trans (h8 i hi), (hf _ _ (by omega)).trans h9, (hf _ _ (by omega)).trans h10, (hf _ _ (by omega)).trans h11, fun i hi => (hf _ _ (by omega)).trans (h12 i hi)⟩
theorem ou0_1 {v : Int64} : (ou0 μ v).1 = μ.1 := rfl
theorem ou0_3 {v : Int64} : (ou0 μ v).2.2 = μ.2.2 := rfl
theorem ou0_n {v : Int64} {a k : Nat} (h : a ≠ 310) : (ou0 μ v).2.1 a k = μ.2.1 a k := by
  show (if a = 310 ∧ k = 0 then v else μ.2.1 a k) = _
  rw [if_neg (fun q => h q.1)]
theorem ou0_v {v : Int64} : (ou0 μ v).2.1 310 0 = v := by
  show (if 310 = 310 ∧ 0 = 0 then v else μ.2.1 310 0) = _
  rw [if_pos ⟨rfl, rfl⟩]
/-- both hold σ -/
def Bo (σ : ev_A) (μ : ev_M) : Prop := XS σ μ ∧ MS σ μ ∧ OKA σ
/-- one step: the helper, then the reference; how they agree (f: what the law makes of the reference's answer) -/
def stq (G : ev_G) (yh : ev_Mi) (hh : List (Nat × Nat × Nat × Nat)) (ym : ev_Mi) (args : List Value) (f : Int32 → Int64) (μ : ev_M) : Prop := ∃ (n v : Int32) (μ1 μ2 : ev_M) (σ' : ev_A), hb_T G yh hh (.ref 0 :: args ++ [.ref 310]) μ n μ1 ∧ ev_T sh_S G ym (.ref 301 :: args) μ1 (.inl (some (.int v), μ2)) ∧ μ2.1 301 0 = n ∧ (n = 0 → μ2.2.1 310 0 = f v) ∧ Bo σ' μ2
def fI : Int32 → Int64 := fun v => v.toInt64
def fZ : Int32 → Int64 := fun v => if v = 0 then 0 else 1
def hbf (f : Int32 → Int64) : ev_R → ev_M
  | .inl (some (.int v), μ) => ou0 μ (f v)
  | .inl (_, μ) => μ
  | .inr (_, μ) => μ
theorem hbf_I : hbm = hbf fI := by
  funext r
  unfold hbm hbf fI
  rfl
theorem hbf_Z : hbz = hbf fZ := by
  funext r
  unfold hbz hbf fZ
  rfl
theorem st_c {yh ym yx : ev_Mi} {hh : List (Nat × Nat × Nat × Nat)} {args : List Value} {f : Int32 → Int64} {L : List String} {X : Nat → String} {r : Nat × Int32 × ev_A} (hB : Bo σ μ) (hr : r.1 < 10)
    (hx : ∃ μ', ev_T sh_S G yx (.ref 0 :: args) μ (if r.1 = 0 then .inl (some (.int r.2.1), μ') else .inr (X r.1, μ')) ∧ XS r.2.2 μ' ∧ Fc μ μ') (hX : r.1 ≠ 0 → X r.1 ∈ L ∧ hbi L (X r.1) = r.1)
    (hb : ∀ res', ev_T sh_S G yx (.ref 0 :: args) μ res' → ((∃ v μ1, res' = .inl (some (.int v), μ1)) ∨ ∃ E μ1, res' = .inr (E, μ1) ∧ E ∈ L) → hb_T G yh hh (.ref 0 :: args ++ [.ref 310]) μ (hbn L res') (hbf f res'))
    (hm : ∀ μ1, MS σ μ1 → s_res ym (.ref 301 :: args) μ1 G r) (hO : OKA r.2.2) : stq G yh hh ym args f μ := by
  obtain ⟨hXS, hMS, hOK⟩ := hB
  obtain ⟨μa, a1, a2, a3⟩ := hx
  have hk : aK r.2.2 ≤ 8 := hO.2.2.1
  by_cases c : r.1 = 0
  · rw [if_pos c] at a1
    obtain ⟨μ2, b1, b2, b3, b4⟩ := hm (ou0 μa (f r.2.1)) (MS_f hMS (fun a k ha => (a3 a k ha).1))
    refine ⟨0, r.2.1, ou0 μa (f r.2.1), μ2, r.2.2, hb _ a1 (Or.inl ⟨_, _, rfl⟩), b1, ?_, fun _ => ?_, XS_f a2 hk (fun a k ha => b3.1 a k (Or.inl ha)) (fun a k ha => ?_) (fun a k ha => ?_), b2, hO⟩
    · rw [b4, c]; rfl
    · rw [b3.2, ou0_v]
    · rw [b3.2, ou0_n (by omega)]
    · rw [b3.2, ou0_3]
  · rw [if_neg c] at a1
    obtain ⟨g1, g2⟩ := hX c
    obtain ⟨μ2, b1, b2, b3, b4⟩ := hm μa (MS_f hMS (fun a k ha => (a3 a k ha).1))
    have hn : hbn L (.inr (X r.1, μa)) = nI r.1 := by
      show nI (hbi L (X r.1)) = _
      rw [g2]
    have h5 := hb _ a1 (Or.inr ⟨_, _, rfl, g1⟩)
    rw [hn] at h5
    refine ⟨nI r.1, r.2.1, μa, μ2, r.2.2, h5, b1, b4, fun z => ?_, XS_f a2 hk (fun a k ha => b3.1 a k (Or.inl ha)) (fun a k ha => ?_) (fun a k ha => ?_), b2, hO⟩
    · exact absurd z (by rw [no_eq0 (by omega)]; exact c)
    · rw [b3.2]
    · rw [b3.2]
/-- a question: nothing changes -/
theorem st_q {yh ym yx : ev_Mi} {hh : List (Nat × Nat × Nat × Nat)} {args : List Value} {f : Int32 → Int64} {L : List String} {n : Nat} {v : Int32} (hB : Bo σ μ) (hr : n < 10)
    (hx : ev_T sh_S G yx (.ref 0 :: args) μ (xR n v μ)) (hX : n ≠ 0 → xE n ∈ L ∧ hbi L (xE n) = n)
    (hb : ∀ res', ev_T sh_S G yx (.ref 0 :: args) μ res' → ((∃ v μ1, res' = .inl (some (.int v), μ1)) ∨ ∃ E μ1, res' = .inr (E, μ1) ∧ E ∈ L) → hb_T G yh hh (.ref 0 :: args ++ [.ref 310]) μ (hbn L res') (hbf f res'))
    (hm : ∀ μ1, MS σ μ1 → ev_T sh_S G ym (.ref 301 :: args) μ1 (.inl (some (.int v), th μ1 n))) : stq G yh hh ym args f μ :=
  st_c (r := (n, v, σ)) (X := xE) hB hr ⟨μ, hx, hB.1, Fc_rf⟩ hX hb (fun μ1 h1 => ⟨th μ1 n, hm μ1 h1, MS_th h1, Fq_m Fm_th, th_0⟩) hB.2.2
theorem xE_1 : xE 1 = eI := rfl
theorem xE_2 : xE 2 = eO := rfl
/-- the numbers of what is thrown -/
theorem nx_I {n : Nat} (h : n < 2) : n ≠ 0 → xE n ∈ [eI] ∧ hbi [eI] (xE n) = n := by
  intro c
  have : n = 1 := by omega
  subst this
  exact ⟨List.mem_cons_self, by show (if eI = eI then 1 else _) = 1; rw [if_pos rfl]⟩
theorem nx_IO {n : Nat} (h : n < 3) : n ≠ 0 → xE n ∈ [eI, eO] ∧ hbi [eI, eO] (xE n) = n := by
  intro c
  rcases (show n = 1 ∨ n = 2 by omega) with rfl | rfl
  · exact ⟨List.mem_cons_self, by show (if eI = eI then 1 else _) = 1; rw [if_pos rfl]⟩
  · exact ⟨List.mem_cons_of_mem _ List.mem_cons_self, by show (if eO = eI then 1 else (if eO = eO then 1 else _) + 1) = 2; rw [if_neg ne_OI, if_pos rfl]⟩
theorem c1_lt {e n : Nat} {x : Int32} : c1 e n x < 3 := by unfold c1; (repeat' split) <;> omega
theorem c2_lt {e n m : Nat} {x y : Int32} : c2 e n m x y < 3 := by unfold c2; (repeat' split) <;> omega
theorem c3_lt {e n : Nat} {x y : Int32} {g : Nat → Nat} : c3 e n x y g < 3 := by unfold c3; (repeat' split) <;> omega
theorem th_lt {e : Nat} : thc e 1 1 < 2 := by unfold thc; (repeat' split) <;> omega
end Both
