/-! ===== normal forms and loops ===== -/
section Norm
theorem no_0 : Int32.ofInt 0 = nI 0 := rfl
theorem no_1 : Int32.ofInt 1 = nI 1 := rfl
theorem no_lt {a b : Nat} (ha : a < 2 ^ 31) (hb : b < 2 ^ 31) : (nI a < nI b) = (a < b) := propext (nI_ltI ha hb)
theorem no_le {a b : Nat} (ha : a < 2 ^ 31) (hb : b < 2 ^ 31) : (nI a ≤ nI b) = (a ≤ b) := propext (nI_leI ha hb)
theorem no_eq {a b : Nat} (ha : a < 2 ^ 31) (hb : b < 2 ^ 31) : (nI a = nI b) = (a = b) := propext (nI_eq ha hb)
theorem no_lt0 {a : Nat} (h : a < 2 ^ 31) : (nI a < 0) = False := eq_false (nI_pos h)
theorem no_ge0 {a : Nat} (h : a < 2 ^ 31) : (0 ≤ nI a) = True := eq_true (nI_pos' h)
theorem no_gt0 {a : Nat} (h : a < 2 ^ 31) : (0 < nI a) = (0 < a) := by rw [← nI_0]; exact no_lt (by omega) h
theorem no_le0 {a : Nat} (h : a < 2 ^ 31) : (nI a ≤ 0) = (a = 0) := by rw [← nI_0, no_le h (by omega)]; exact propext (by omega)
theorem no_eq0 {a : Nat} (h : a < 2 ^ 31) : (nI a = 0) = (a = 0) := by rw [← nI_0]; exact no_eq h (by omega)
theorem no_0eq {a : Nat} (h : a < 2 ^ 31) : (0 = nI a) = (a = 0) := by rw [← nI_0, no_eq (by omega) h]; exact propext (by omega)
theorem no_eqm {a : Nat} (h : a < 2 ^ 31) : (nI a = -1) = False := eq_false (fun q => nI_pos h (by rw [q]; decide))
theorem no_meq {a : Nat} (h : a < 2 ^ 31) : (-1 = nI a) = False := eq_false (fun q => nI_pos h (by rw [← q]; decide))
theorem no_m0 : ((-1 : Int32) = 0) = False := by decide
theorem no_mlt : ((-1 : Int32) < 0) = True := by decide
theorem no_mge : ((0 : Int32) ≤ -1) = False := by decide
theorem no_mgt : ((0 : Int32) < -1) = False := by decide
theorem no_mm : ((-1 : Int32) = -1) = True := by decide
theorem no_eq1 {a : Nat} (h : a < 2 ^ 31) : (nI a = 1) = (a = 1) := no_eq h (b := 1) (by decide)
theorem no_b {b : Nat} (h : b ≤ 1) : (nI b = 0 ∨ nI b = 1) = True := eq_true (by rcases (show b = 0 ∨ b = 1 by omega) with rfl | rfl; exact Or.inl rfl; exact Or.inr rfl)
theorem no_or {a b : Nat} (ha : a ≤ 1) (hb : b ≤ 1) : nI a ||| nI b = nI (if a + b = 0 then 0 else 1) := by
  rcases (show a = 0 ∨ a = 1 by omega) with rfl | rfl <;> rcases (show b = 0 ∨ b = 1 by omega) with rfl | rfl <;> decide
theorem no_ifm {c : Prop} [Decidable c] {a : Nat} (h : a < 2 ^ 31) : ((if c then nI a else -1) = -1) = ¬ c := by
  by_cases q : c
  · rw [if_pos q, no_eqm h]; exact propext (by simp [q])
  · rw [if_neg q]; exact propext (by simp [q])
theorem no_i01 {c : Prop} [Decidable c] : (nI (if c then 0 else 1) = 0) = c := by
  by_cases q : c
  · rw [if_pos q]; exact propext ⟨fun _ => q, fun _ => rfl⟩
  · rw [if_neg q]; exact propext ⟨fun h => absurd h (by decide), fun h => absurd h q⟩
theorem no_i10 {c : Prop} [Decidable c] : (nI (if c then 1 else 0) = 0) = ¬ c := by
  by_cases q : c
  · rw [if_pos q]; exact propext ⟨fun h => absurd h (by decide), fun h => absurd q h⟩
  · rw [if_neg q]; exact propext ⟨fun _ => q, fun _ => rfl⟩
theorem ls_c {α : Type} {a b : α} {l m : List α} (h : a = b) (h2 : l = m) : a :: l = b :: m := by rw [h, h2]
theorem vi_c {a b : Nat} (h : a = b) : Value.int (nI a) = Value.int (nI b) := by rw [h]
theorem re_c {a b : Nat} {μ : ev_M} (h : a = b) : (Sum.inl (some (Value.int (nI a)), μ) : ev_R) = Sum.inl (some (Value.int (nI b)), μ) := by rw [h]
/-- whether one of the first n is 1 -/
def an (f : Nat → Nat) : Nat → Nat
  | 0 => 0
  | n + 1 => if an f n + f n = 0 then 0 else 1
theorem an_le (f : Nat → Nat) (n : Nat) : an f n ≤ 1 := by
  cases n with
  | zero => exact Nat.zero_le _
  | succ n => unfold an; split <;> omega
theorem an_iff {f : Nat → Nat} {n : Nat} : an f n = 1 ↔ ∃ k, k < n ∧ f k ≠ 0 := by
  induction n with
  | zero => simp [an]
  | succ n ih =>
    have h1 := an_le f n
    unfold an
    constructor
    · intro h
      by_cases h2 : f n = 0
      · have h3 : an f n = 1 := by
          rcases (show an f n = 0 ∨ an f n = 1 by omega) with h4 | h4
          · rw [h4, h2] at h; simp at h
          · exact h4
        obtain ⟨k, h4, h5⟩ := ih.mp h3
        exact ⟨k, by omega, h5⟩
      · exact ⟨n, by omega, h2⟩
    · rintro ⟨k, hk, h2⟩
      rw [if_neg]
      rcases Nat.lt_or_ge k n with h3 | h3
      · have := ih.mpr ⟨k, h3, h2⟩
        omega
      · have : k = n := by omega
        subst this
        omega
theorem an_ext {f g : Nat → Nat} {n : Nat} (h : ∀ k, k < n → f k = g k) : an f n = an g n := by
  induction n with
  | zero => rfl
  | succ n ih => unfold an; rw [ih (fun k hk => h k (by omega)), h n (by omega)]
theorem no_in {n N : Nat} (h : n < N) (hN : N < 2 ^ 31) : vp_in (nI n) N = True := eq_true (vp_in_nI h hN)
theorem no_mul (a b : Nat) : nI a * nI b = nI (a * b) := pk_mul a b
theorem no_sub {a b : Nat} (h : b ≤ a) : nI a - nI b = nI (a - b) := pk_sub h
/-- an answer that may be none -/
def oI : Option Nat → Int32
  | none => -1
  | some k => nI k
theorem oI_n : oI none = -1 := rfl
theorem oI_s (k : Nat) : oI (some k) = nI k := rfl
/-- a number with a sign -/
def iI (z : Int) : Int32 := Int32.ofInt z
theorem iI_n (n : Nat) : iI n = nI n := rfl
theorem iI_add (a b : Int) : iI a + iI b = iI (a + b) := (Int32.ofInt_add a b).symm
theorem iI_sub (a b : Int) : iI a - iI b = iI (a - b) := (Int32.ofInt_sub a b).symm
theorem iI_mul (a b : Int) : iI a * iI b = iI (a * b) := (Int32.ofInt_mul a b).symm
theorem iI_toInt {z : Int} (h : -2147483648 ≤ z ∧ z < 2147483648) : (iI z).toInt = z := Int32.toInt_ofInt_of_le (by omega) (by omega)
theorem iI_lt {a b : Int} (ha : -2147483648 ≤ a ∧ a < 2147483648) (hb : -2147483648 ≤ b ∧ b < 2147483648) : (iI a < iI b) = (a < b) := propext (by rw [Int32.lt_iff_toInt_lt, iI_toInt ha, iI_toInt hb])
theorem iI_le {a b : Int} (ha : -2147483648 ≤ a ∧ a < 2147483648) (hb : -2147483648 ≤ b ∧ b < 2147483648) : (iI a ≤ iI b) = (a ≤ b) := propext (by rw [Int32.le_iff_toInt_le, iI_toInt ha, iI_toInt hb])
theorem iI_eq {a b : Int} (ha : -2147483648 ≤ a ∧ a < 2147483648) (hb : -2147483648 ≤ b ∧ b < 2147483648) : (iI a = iI b) = (a = b) := propext ⟨fun h => by rw [← iI_toInt ha, h, iI_toInt hb], fun h => by rw [h]⟩
theorem iI_0 : iI 0 = 0 := rfl
theorem iI_lt0 {a : Int} (ha : -2147483648 ≤ a ∧ a < 2147483648) : (iI a < 0) = (a < 0) := by rw [← iI_0]; exact iI_lt ha (by omega)
theorem iI_ge0 {a : Int} (ha : -2147483648 ≤ a ∧ a < 2147483648) : (0 ≤ iI a) = (0 ≤ a) := by rw [← iI_0]; exact iI_le (by omega) ha
theorem iI_gt0 {a : Int} (ha : -2147483648 ≤ a ∧ a < 2147483648) : (0 < iI a) = (0 < a) := by rw [← iI_0]; exact iI_lt (by omega) ha
theorem iI_le0 {a : Int} (ha : -2147483648 ≤ a ∧ a < 2147483648) : (iI a ≤ 0) = (a ≤ 0) := by rw [← iI_0]; exact iI_le ha (by omega)
theorem iI_eq0 {a : Int} (ha : -2147483648 ≤ a ∧ a < 2147483648) : (iI a = 0) = (a = 0) := by rw [← iI_0]; exact iI_eq ha (by omega)
theorem iI_m1 : (-1 : Int32) = iI (-1) := rfl
theorem iI_dif (a b : Nat) : nI a - nI b = iI ((a : Int) - b) := by rw [← iI_n, ← iI_n, iI_sub]
theorem iI_na (a : Int) (b : Nat) : iI a + nI b = iI (a + b) := by rw [← iI_n, iI_add]
theorem iI_an (a : Nat) (b : Int) : nI a + iI b = iI (a + b) := by rw [← iI_n, iI_add]
theorem iI_ns (a : Int) (b : Nat) : iI a - nI b = iI (a - b) := by rw [← iI_n, iI_sub]
theorem iI_sn (a : Nat) (b : Int) : nI a - iI b = iI (a - b) := by rw [← iI_n, iI_sub]
theorem iI_if {c : Prop} [Decidable c] {a b : Int} : (if c then iI a else iI b) = iI (if c then a else b) := by split <;> rfl
theorem vz_c {a b : Int} (h : a = b) : Value.int (iI a) = Value.int (iI b) := by rw [h]
theorem rz_c {a b : Int} {μ : ev_M} (h : a = b) : (Sum.inl (some (Value.int (iI a)), μ) : ev_R) = Sum.inl (some (Value.int (iI b)), μ) := by rw [h]
/-- the first place of x among the first n of f, n if there is none -/
def fx (f : Nat → Nat) (x : Nat) : Nat → Nat
  | 0 => 0
  | n + 1 => if fx f x n < n then fx f x n else if f n = x then n else n + 1
theorem fx_le (f : Nat → Nat) (x n : Nat) : fx f x n ≤ n := by
  induction n with
  | zero => exact Nat.le_refl 0
  | succ n ih => unfold fx; split <;> (try split) <;> omega
theorem fx_no {f : Nat → Nat} {x n : Nat} (h : fx f x n = n) : ∀ k, k < n → f k ≠ x := by
  induction n with
  | zero => exact fun k hk => absurd hk (Nat.not_lt_zero k)
  | succ n ih =>
    unfold fx at h
    have := fx_le f x n
    split at h
    · omega
    · split at h
      · omega
      · intro k hk
        rcases Nat.lt_or_ge k n with h1 | h1
        · exact ih (by omega) k h1
        · rw [show k = n by omega]; assumption
theorem fx_is {f : Nat → Nat} {x n : Nat} (h : fx f x n < n) : f (fx f x n) = x := by
  induction n with
  | zero => exact absurd h (Nat.not_lt_zero _)
  | succ n ih =>
    unfold fx at h ⊢
    have := fx_le f x n
    by_cases h1 : fx f x n < n
    · rw [if_pos h1]; exact ih h1
    · rw [if_neg h1] at h ⊢
      by_cases h2 : f n = x
      · rw [if_pos h2]; exact h2
      · rw [if_neg h2] at h; omega
theorem fx_at {f : Nat → Nat} {x n k : Nat} (h1 : k < n) (h2 : fx f x k = k) (h3 : f k = x) : fx f x n = k := by
  induction n with
  | zero => omega
  | succ n ih =>
    unfold fx
    rcases Nat.lt_or_ge k n with h | h
    · rw [ih h, if_pos h]
    · have : k = n := by omega
      subst this
      rw [h2, if_neg (by omega), if_pos h3]
theorem fx_s {f : Nat → Nat} {x k : Nat} (h2 : fx f x k = k) (h3 : f k ≠ x) : fx f x (k + 1) = k + 1 := by
  unfold fx
  rw [h2, if_neg (by omega), if_neg h3]
theorem fx_ext {f g : Nat → Nat} {x n : Nat} (h : ∀ k, k < n → f k = g k) : fx f x n = fx g x n := by
  induction n with
  | zero => rfl
  | succ n ih => unfold fx; rw [ih (fun k hk => h k (by omega)), h n (by omega)]
theorem fx_of {f : Nat → Nat} {x n : Nat} (h : ∃ k, k < n ∧ f k = x) : fx f x n < n := by
  have := fx_le f x n
  rcases Nat.lt_or_ge (fx f x n) n with h1 | h1
  · exact h1
  · obtain ⟨k, hk, h2⟩ := h
    exact absurd h2 (fx_no (by omega) k hk)
/-- a sum -/
def sm (f : Nat → Nat) : Nat → Nat
  | 0 => 0
  | n + 1 => sm f n + f n
theorem sm_le {f : Nat → Nat} {B : Nat} (n : Nat) (h : ∀ k, k < n → f k ≤ B) : sm f n ≤ n * B := by
  induction n with
  | zero => exact Nat.zero_le _
  | succ n ih =>
    have h1 := ih (fun k hk => h k (by omega))
    have h2 := h n (by omega)
    rw [Nat.succ_mul]
    unfold sm
    omega
theorem sm_ext {f g : Nat → Nat} {n : Nat} (h : ∀ k, k < n → f k = g k) : sm f n = sm g n := by
  induction n with
  | zero => rfl
  | succ n ih => unfold sm; rw [ih (fun k hk => h k (by omega)), h n (by omega)]
theorem sm_zero {f : Nat → Nat} {n m : Nat} (h : n ≤ m) (h0 : ∀ k, n ≤ k → k < m → f k = 0) : sm f m = sm f n := by
  induction m with
  | zero => rw [show n = 0 by omega]
  | succ m ih =>
    rcases Nat.lt_or_ge n (m + 1) with h1 | h1
    · show sm f m + f m = sm f n
      rw [ih (by omega) (fun k h2 h3 => h0 k h2 (by omega)), h0 m (by omega) (by omega), Nat.add_zero]
    · rw [show n = m + 1 by omega]
/-- how many -/
def ct (p : Nat → Prop) [DecidablePred p] : Nat → Nat := sm (fun k => if p k then 1 else 0)
end Norm
section Loops
variable {S : ev_S} {G : ev_G} {own : String} {Tb : ev_Tb} {res : ev_R} {μ : ev_M}
def lpI (pc0 n : Nat) (F : Nat → List Value) (M : Nat → ev_M) (I : Nat → Prop) (mm pc : Nat) (vs st : List Value) (μ : ev_M) : Prop := ∃ k, k ≤ n ∧ mm = n - k ∧ pc = pc0 ∧ I k ∧ vs = F k ∧ st = [] ∧ μ = M k
theorem lp_nx {pc0 n k : Nat} {F : Nat → List Value} {M : Nat → ev_M} {I : Nat → Prop} {vs : List Value} {μ : ev_M} (hk : k < n) (hI : I (k + 1)) (hv : vs = F (k + 1)) (hm : μ = M (k + 1)) : ∃ m', m' < n - k ∧ lpI pc0 n F M I m' pc0 vs [] μ :=
  ⟨n - (k + 1), by omega, k + 1, hk, rfl, rfl, hI, hv, rfl, hm⟩
theorem lp_st {pc0 n : Nat} {F : Nat → List Value} {M : Nat → ev_M} {I : Nat → Prop} {vs : List Value} {μ : ev_M} (hI : I 0) (hv : vs = F 0) (hm : μ = M 0) : ∃ m', lpI pc0 n F M I m' pc0 vs [] μ :=
  ⟨n - 0, 0, Nat.zero_le n, rfl, rfl, hI, hv, rfl, hm⟩
/-- one loop, told by the number of its turns -/
theorem ev_tri1 {y : ev_Mi} {cd : List (Nat × Instr)} {args : List Value} (hok : ev_ok S G) (hM : ev_okM own y Tb cd) (hargs : (lg_sl (args.map (ev_tr G.2.1))).length ≤ y.2.2.1) (pc0 : Nat) (ks : List Nat) (n fuel : Nat) (F : Nat → List Value) (M : Nat → ev_M) (I : Nat → Prop)
    (hstep : ∀ k, k ≤ n → I k → ev_go S G Tb y.2.2.2.2 (ev_Jof (fun pc vs st μ => ∃ m', m' < n - k ∧ lpI pc0 n F M I m' pc vs st μ) [(pc0, ks)]) cd res fuel (ev_at cd pc0) (ks.zip (F k)) [] (M k))
    (h0 : ev_run S G Tb y.2.2.2.2 (ev_Jof (fun pc vs st μ => ∃ m', lpI pc0 n F M I m' pc vs st μ) [(pc0, ks)]) cd res fuel (ev_at cd 0) (lv_args 0 args) [] μ) : ev_T S G y args μ res := by
  refine ev_triJ hok hM hargs [(pc0, ks)] fuel (lpI pc0 n F M I) ?_ h0
  intro mm q hq vs st μ' hI
  rw [List.mem_singleton] at hq
  subst hq
  obtain ⟨k, hk, rfl, -, hIk, rfl, rfl, rfl⟩ := hI
  exact hstep k hk hIk
theorem ev_rid {d n : Nat} {J : ev_J} {cd is : List (Nat × Instr)} {l : List (Nat × Value)} {st : List Value} (h : ev_run S G Tb d J cd res n is l st μ) : ev_run S G Tb d J cd res n is l st μ := h
theorem ev_gid {d n : Nat} {J : ev_J} {cd is : List (Nat × Instr)} {l : List (Nat × Value)} {st : List Value} (h : ev_go S G Tb d J cd res n is l st μ) : ev_go S G Tb d J cd res n is l st μ := h
theorem ev_ci {d n : Nat} {J : ev_J} {cd is : List (Nat × Instr)} {l : List (Nat × Value)} {r args : List Value} {y : ev_Mi} {μ μ' : ev_M} {v : Option Value} (h : ev_T S G y args μ (.inl (v, μ'))) (k : ev_run S G Tb d J cd res n is l (v.toList ++ r) μ') :
    ∃ res', ev_T S G y args μ res' ∧ ev_cn res res' (fun v μ => ev_run S G Tb d J cd res n (ev_hl is) l (v.toList ++ r) μ) := ⟨_, h, k⟩
theorem ev_cx {d n : Nat} {J : ev_J} {cd is : List (Nat × Instr)} {l : List (Nat × Value)} {r args : List Value} {y : ev_Mi} {μ μ' : ev_M} {E : String} (h : ev_T S G y args μ (.inr (E, μ'))) (k : res = .inr (E, μ')) :
    ∃ res', ev_T S G y args μ res' ∧ ev_cn res res' (fun v μ => ev_run S G Tb d J cd res n (ev_hl is) l (v.toList ++ r) μ) := ⟨_, h, k⟩
end Loops
