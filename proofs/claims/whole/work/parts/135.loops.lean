/-! ===== more normal forms; several loops ===== -/
section Norm2
theorem iI_div {a : Int} {d : Nat} (ha : -2147483648 ≤ a ∧ a < 2147483648) (h0 : 0 < d) (hd : d < 2 ^ 31) : iI a / nI d = iI (a.tdiv d) := by
  have h1 : (nI d).toInt = (d : Int) := nI_toInt hd
  apply Int32.toInt_inj.mp
  rw [Int32.toInt_div, iI_toInt ha, h1]
  have h2 : (a.tdiv d).natAbs ≤ a.natAbs := Int.natAbs_tdiv_le_natAbs a d
  have h3 : a < 0 → a.tdiv (d : Int) ≤ 0 := fun h => by
    have h4 : 0 ≤ (-a).tdiv (d : Int) := Int.tdiv_nonneg (by omega) (by omega)
    rw [Int.neg_tdiv] at h4
    omega
  have h5 : -2147483648 ≤ a.tdiv (d : Int) ∧ a.tdiv (d : Int) < 2147483648 := by
    rcases Int.lt_or_le a 0 with h | h
    · have := h3 h
      omega
    · omega
  rw [iI_toInt h5]
  exact Int.bmod_eq_of_le (by omega) (by omega)
/-- a sum with signs -/
def smI (f : Nat → Int) : Nat → Int
  | 0 => 0
  | n + 1 => smI f n + f n
theorem smI_le {f : Nat → Int} {B : Int} (n : Nat) (h : ∀ k, k < n → -B ≤ f k ∧ f k ≤ B) : -(n * B) ≤ smI f n ∧ smI f n ≤ n * B := by
  induction n with
  | zero => simp [smI]
  | succ n ih =>
    have h1 := ih (fun k hk => h k (by omega))
    have h2 := h n (by omega)
    have h3 : ((n + 1 : Nat) : Int) * B = n * B + B := by rw [Int.natCast_succ, Int.add_mul, Int.one_mul]
    rw [h3]
    unfold smI
    omega
theorem smI_ext {f g : Nat → Int} {n : Nat} (h : ∀ k, k < n → f k = g k) : smI f n = smI g n := by
  induction n with
  | zero => rfl
  | succ n ih => unfold smI; rw [ih (fun k hk => h k (by omega)), h n (by omega)]
theorem smI_zero {f : Nat → Int} {n m : Nat} (h : n ≤ m) (h0 : ∀ k, n ≤ k → k < m → f k = 0) : smI f m = smI f n := by
  induction m with
  | zero => rw [show n = 0 by omega]
  | succ m ih =>
    rcases Nat.lt_or_ge n (m + 1) with h1 | h1
    · show smI f m + f m = smI f n
      rw [ih (by omega) (fun k h2 h3 => h0 k h2 (by omega)), h0 m (by omega) (by omega), Int.add_zero]
    · rw [show n = m + 1 by omega]
end Norm2
section LoopsG
variable {S : ev_S} {G : ev_G} {own : String} {Tb : ev_Tb} {res : ev_R} {μ : ev_M}
/-- several cut points, each with up to three numbers -/
def lpG (P : Nat → Nat → Nat → Nat → Prop) (F : Nat → Nat → Nat → Nat → List Value) (M : Nat → Nat → Nat → Nat → ev_M) (ms : Nat → Nat → Nat → Nat → Nat) (mm pc : Nat) (vs st : List Value) (μ : ev_M) : Prop :=
  ∃ a b c, P pc a b c ∧ vs = F pc a b c ∧ st = [] ∧ μ = M pc a b c ∧ mm = ms pc a b c
theorem lpG_nx {P : Nat → Nat → Nat → Nat → Prop} {F : Nat → Nat → Nat → Nat → List Value} {M : Nat → Nat → Nat → Nat → ev_M} {ms : Nat → Nat → Nat → Nat → Nat} {mm pc : Nat} {vs : List Value} {μ : ev_M} (a b c : Nat) (hP : P pc a b c) (hm : ms pc a b c < mm) (hv : vs = F pc a b c) (hM : μ = M pc a b c) : ∃ m', m' < mm ∧ lpG P F M ms m' pc vs [] μ :=
  ⟨_, hm, a, b, c, hP, hv, rfl, hM, rfl⟩
theorem lpG_st {P : Nat → Nat → Nat → Nat → Prop} {F : Nat → Nat → Nat → Nat → List Value} {M : Nat → Nat → Nat → Nat → ev_M} {ms : Nat → Nat → Nat → Nat → Nat} {pc : Nat} {vs : List Value} {μ : ev_M} (a b c : Nat) (hP : P pc a b c) (hv : vs = F pc a b c) (hM : μ = M pc a b c) : ∃ m', lpG P F M ms m' pc vs [] μ :=
  ⟨_, a, b, c, hP, hv, rfl, hM, rfl⟩
theorem ev_triG {y : ev_Mi} {cd : List (Nat × Instr)} {args : List Value} (hok : ev_ok S G) (hM : ev_okM own y Tb cd) (hargs : (lg_sl (args.map (ev_tr G.2.1))).length ≤ y.2.2.1) (ks : List (Nat × List Nat)) (fuel : Nat)
    (P : Nat → Nat → Nat → Nat → Prop) (F : Nat → Nat → Nat → Nat → List Value) (M : Nat → Nat → Nat → Nat → ev_M) (ms : Nat → Nat → Nat → Nat → Nat)
    (hstep : ∀ q ∈ ks, ∀ a b c, P q.1 a b c → ev_go S G Tb y.2.2.2.2 (ev_Jof (fun pc vs st μ => ∃ m', m' < ms q.1 a b c ∧ lpG P F M ms m' pc vs st μ) ks) cd res fuel (ev_at cd q.1) (q.2.zip (F q.1 a b c)) [] (M q.1 a b c))
    (h0 : ev_run S G Tb y.2.2.2.2 (ev_Jof (fun pc vs st μ => ∃ m', lpG P F M ms m' pc vs st μ) ks) cd res fuel (ev_at cd 0) (lv_args 0 args) [] μ) : ev_T S G y args μ res := by
  refine ev_triJ hok hM hargs ks fuel (lpG P F M ms) ?_ h0
  intro mm q hq vs st μ' hI
  obtain ⟨a, b, c, hP, rfl, rfl, rfl, rfl⟩ := hI
  exact hstep q hq a b c hP
end LoopsG
