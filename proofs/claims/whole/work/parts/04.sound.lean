/-! ===== the evaluator is sound ===== -/
section EvSound
/-- words that stay when the tables warm -/
def ev_gw (w : Cond) : Bool := goodWord w || (match w with
  | .castable .. => true
  | .declares _ => true
  | .methodLinkNest .. => true
  | .fieldLinkNest .. => true
  | _ => false)
def ev_wd : List Cond := lw_tbl.filter ev_gw
theorem ev_gw_warm {args0 args : Array Value} {s0 s : State} {w : Cond} (hW : s0.WarmedH s.vm) (h : w.before args0 s0 = true) (hg : ev_gw w = true) : w.before args s = true := by
  unfold ev_gw at hg
  rw [Bool.or_eq_true] at hg
  rcases hg with hg | hg
  · exact word_at hW (good_of_word hg) h
  · cases w <;> first | exact va_Nw.use rfl (va_Nw.warmC hW (va_Nw.of rfl h)) | exact va_Nw.use rfl (va_Nw.warmD hW (va_Nw.of rfl h)) | exact va_Nw.use rfl (va_Nw.warmM hW (va_Nw.of rfl h)) | exact va_Nw.use rfl (va_Nw.warmF hW (va_Nw.of rfl h)) | cases hg
theorem ev_wd_in {w : Cond} (h : w ∈ ev_wd) : w ∈ lw_tbl ∧ ev_gw w = true := List.mem_filter.mp h
/-- what is given once and for all: addresses apart and new, classes and slots, the law's words, the two statics of Throwable, the exceptions' texts -/
def ev_ok (S : ev_S) (G : ev_G) : Prop :=
  (∀ a b : Nat, a < ev_nc S → b < ev_nc S → G.2.1 a = G.2.1 b → a = b) ∧ (∀ a : Nat, a < ev_nc S → ev_lo G ≤ G.2.1 a) ∧ va_K G.2.2.1 vwCl (ev_tys G) G.2.2.2.2.1 ∧ (∀ w ∈ lw_tbl, w.before G.2.2.2.2.2 G.2.2.2.2.1 = true) ∧ G.1.stackTraces = false ∧
  vx_Zq Bundle.tN "UNASSIGNED_STACK" Bundle.steD (ev_fr G) G.2.2.2.2.1 G.2.2.2.2.1.heap ∧ vx_Zq Bundle.tN "SUPPRESSED_SENTINEL" Bundle.listD (ev_fr G) G.2.2.2.2.1 G.2.2.2.2.1.heap ∧
  (∀ own k tx, Cond.stringRef own k tx ∈ lw_tbl → ∃ a, vk_R own k tx a G.2.2.2.2.1)
variable {S : ev_S} {G : ev_G}
theorem ev_ws_at {μ : ev_M} {a : Nat} (h : a < ev_nc S) : (ev_ws S G μ)[a]? = some (G.2.1 a, ev_E S G μ a) := by
  unfold ev_ws
  rw [List.getElem?_map, List.getElem?_range h]
  rfl
theorem ev_ws_set {μ μ' : ev_M} {a : Nat} (h : a < ev_nc S) {e : va_E} (he : ev_E S G μ' a = e) (ho : ∀ b, b ≠ a → ev_E S G μ' b = ev_E S G μ b) : (ev_ws S G μ).set a (G.2.1 a, e) = ev_ws S G μ' := by
  apply List.ext_getElem?
  intro k
  by_cases hk : k = a
  · subst hk
    rw [ev_ws_at h, he, List.getElem?_set_self (by unfold ev_ws; simpa using h)]
  · rw [List.getElem?_set_ne (fun q => hk q.symm)]
    by_cases hn : k < ev_nc S
    · rw [ev_ws_at hn, ev_ws_at hn, ho k hk]
    · unfold ev_ws
      rw [List.getElem?_eq_none (by simpa using hn), List.getElem?_eq_none (by simpa using hn)]
theorem ev_D (hok : ev_ok S G) (μ : ev_M) : va_D (ev_fr G) (ev_ws S G μ) := by
  have key : ∀ (i : Nat) (p : Nat × va_E), (ev_ws S G μ)[i]? = some p → i < ev_nc S ∧ p.1 = G.2.1 i := by
    intro i p hp
    by_cases hi : i < ev_nc S
    · rw [ev_ws_at hi] at hp
      exact ⟨hi, by rw [← Option.some.inj hp]⟩
    · unfold ev_ws at hp
      rw [List.getElem?_eq_none (by simpa using hi)] at hp
      cases hp
  refine ⟨fun i j p q hp hq h => ?_, fun k q hq => ?_⟩
  · obtain ⟨h1, e1⟩ := key i p hp
    obtain ⟨h2, e2⟩ := key j q hq
    exact hok.1 i j h1 h2 (by rw [← e1, ← e2]; exact h)
  · obtain ⟨h1, e1⟩ := key k q hq
    rw [e1]
    exact hok.2.1 k h1
theorem ev_rm_in {l : List (Nat × Value)} {i : Nat} {q : Nat × Value} (h : q ∈ ev_rm l i) : q ∈ l ∧ q.1 ≠ i ∧ (q.1 + 1 = i → q.2.category ≠ 2) := by
  induction l with
  | nil => cases h
  | cons x l ih =>
    obtain ⟨k, v⟩ := x
    have up : q ∈ ev_rm l i → q ∈ (k, v) :: l ∧ q.1 ≠ i ∧ (q.1 + 1 = i → q.2.category ≠ 2) := fun h => ⟨List.mem_cons_of_mem _ (ih h).1, (ih h).2⟩
    unfold ev_rm at h
    by_cases h1 : k = i
    · rw [if_pos h1] at h
      exact up h
    · rw [if_neg h1] at h
      by_cases h2 : k + 1 = i
      · rw [if_pos h2] at h
        cases v <;> first | exact up h | (rcases List.mem_cons.mp h with rfl | h <;> first | exact up h | exact ⟨List.mem_cons_self, h1, fun _ => by simp [Value.category]⟩)
      · rw [if_neg h2] at h
        rcases List.mem_cons.mp h with rfl | h
        · exact ⟨List.mem_cons_self, h1, fun q => absurd q h2⟩
        · exact up h
/-- the locals, as the machine has them -/
abbrev ev_ml (G : ev_G) (l : List (Nat × Value)) : List (Nat × Value) := l.map (fun q => (q.1, ev_tr G.2.1 q.2))
theorem ev_tr_cat (ρ : Nat → Nat) (v : Value) : (ev_tr ρ v).category = v.category := by cases v <;> rfl
theorem ev_lk_in {l : List (Nat × Value)} {k : Nat} {v : Value} (h : ev_lk l k = some v) : (k, v) ∈ l := by
  induction l with
  | nil => cases h
  | cons x l ih =>
    obtain ⟨i, w⟩ := x
    unfold ev_lk at h
    by_cases h1 : i = k
    · rw [if_pos h1] at h
      cases h
      subst h1
      exact List.mem_cons_self
    · rw [if_neg h1] at h
      exact List.mem_cons_of_mem _ (ih h)
theorem ev_lv0 {ls : Array Slot} {nL : Nat} {l : List (Nat × Value)} (h : lv_has ls nL (ev_ml G l)) {k : Nat} {v : Value} (hk : ev_lk l k = some v) : ls[k]? = some (.val (ev_tr G.2.1 v)) :=
  h.2.2 (k, ev_tr G.2.1 v) (List.mem_map.mpr ⟨(k, v), ev_lk_in hk, rfl⟩)
theorem ev_has1 {ls : Array Slot} {nL i : Nat} {l : List (Nat × Value)} {v : Value} (h : lv_has ls nL ((i, ev_tr G.2.1 v) :: (ev_ml G l).filter (fun q => !(q.1 == i) && !(q.1 + 1 == i && q.2.category == 2)))) : lv_has ls nL (ev_ml G (ev_st1 l i v)) := by
  refine ⟨h.1, h.2.1, fun q hq => h.2.2 q ?_⟩
  obtain ⟨x, hx, rfl⟩ := List.mem_map.mp hq
  rcases List.mem_cons.mp hx with rfl | hx
  · exact List.mem_cons_self
  · obtain ⟨a1, a2, a3⟩ := ev_rm_in hx
    refine List.mem_cons_of_mem _ (List.mem_filter.mpr ⟨List.mem_map.mpr ⟨x, a1, rfl⟩, ?_⟩)
    rw [ev_tr_cat]
    have b1 : (x.1 == i) = false := by simpa using a2
    have b2 : (x.1 + 1 == i && x.2.category == 2) = false := by
      by_cases hq : x.1 + 1 = i
      · have := a3 hq
        simp [this]
      · simp [hq]
    simp [b1, b2]
theorem ev_has2 {ls : Array Slot} {nL i : Nat} {l : List (Nat × Value)} {v : Value} (h : lv_has ls nL ((i, ev_tr G.2.1 v) :: (ev_ml G l).filter (fun q => !(q.1 == i) && (!(q.1 == i + 1) && !(q.1 + 1 == i && q.2.category == 2))))) : lv_has ls nL (ev_ml G (ev_st2 l i v)) := by
  refine ⟨h.1, h.2.1, fun q hq => h.2.2 q ?_⟩
  obtain ⟨x, hx, rfl⟩ := List.mem_map.mp hq
  rcases List.mem_cons.mp hx with rfl | hx
  · exact List.mem_cons_self
  · obtain ⟨a1, a2, a3⟩ := ev_rm_in hx
    obtain ⟨c1, c2, -⟩ := ev_rm_in a1
    refine List.mem_cons_of_mem _ (List.mem_filter.mpr ⟨List.mem_map.mpr ⟨x, c1, rfl⟩, ?_⟩)
    rw [ev_tr_cat]
    have b1 : (x.1 == i) = false := by simpa using a2
    have b3 : (x.1 == i + 1) = false := by simpa using c2
    have b2 : (x.1 + 1 == i && x.2.category == 2) = false := by
      by_cases hq : x.1 + 1 = i
      · have := a3 hq
        simp [this]
      · simp [hq]
    simp [b1, b2, b3]
/-- the lengths of instructions -/
def ev_il : Instr → Nat
  | .iload _ | .lload _ | .aload _ | .fload _ | .dload _ | .istore _ | .lstore _ | .astore _ | .fstore _ | .dstore _ | .bipush _ | .ldc _ => 2
  | .iinc .. | .sipush _ | .ldc_w _ | .ldc2_w _ | .goto _ | .ifCond .. | .if_icmp .. | .if_acmp .. | .getfield _ | .putfield _ | .getstatic _ | .invokevirtual _ | .invokestatic _ | .invokespecial _ | .new _ => 3
  | _ => 1
/-- the listed code is the method's: each instruction decodes, and the next one stands behind it -/
def ev_okc (cc : ByteArray) : List (Nat × Instr) → Bool
  | [] => true
  | (pc, i) :: r => (match decode cc pc with
    | .ok (raw, len) => decide (ev_nm pc raw = i) && decide (len = ev_il raw) && (match i with
      | .goto t => decide (0 ≤ t)
      | .ifCond _ t => decide (0 ≤ t)
      | .if_icmp _ t => decide (0 ≤ t)
      | .if_acmp _ t => decide (0 ≤ t)
      | _ => true) && (match r with
      | [] => true
      | (q, _) :: _ => decide (q = pc + len))
    | _ => false) && ev_okc cc r
theorem ev_okc_tail {cc : ByteArray} {x : Nat × Instr} {r : List (Nat × Instr)} (h : ev_okc cc (x :: r) = true) : ev_okc cc r = true := by
  obtain ⟨pc, i⟩ := x
  unfold ev_okc at h
  exact (Bool.and_eq_true_iff.mp h).2
theorem ev_okc_at {cc : ByteArray} {cd : List (Nat × Instr)} {t : Nat} (h : ev_okc cc cd = true) : ev_okc cc (ev_at cd t) = true := by
  induction cd with
  | nil => exact h
  | cons x r ih =>
    obtain ⟨pc, i⟩ := x
    unfold ev_at
    by_cases hp : pc = t
    · rw [if_pos hp]; exact h
    · rw [if_neg hp]; exact ih (ev_okc_tail h)
/-- where a stretch begins -/
def ev_hp : List (Nat × Instr) → Nat → Prop
  | [], _ => True
  | (q, _) :: _, pc => q = pc
theorem ev_hp_at {cd : List (Nat × Instr)} {t : Nat} : ev_hp (ev_at cd t) t := by
  induction cd with
  | nil => trivial
  | cons x r ih =>
    obtain ⟨pc, i⟩ := x
    unfold ev_at
    by_cases hp : pc = t
    · rw [if_pos hp]; exact hp
    · rw [if_neg hp]; exact ih
theorem ev_okc_hd {cc : ByteArray} {pc : Nat} {i : Instr} {r : List (Nat × Instr)} (h : ev_okc cc ((pc, i) :: r) = true) : ∃ raw, decode cc pc = .ok (raw, ev_il raw) ∧ ev_nm pc raw = i ∧ ev_hp r (pc + ev_il raw) ∧ (∀ t, i = .goto t → 0 ≤ t) ∧ (∀ c t, i = .ifCond c t → 0 ≤ t) ∧ ∀ c t, i = .if_icmp c t → 0 ≤ t := by
  unfold ev_okc at h
  have h1 := (Bool.and_eq_true_iff.mp h).1
  cases hd : decode cc pc with
  | error e => rw [hd] at h1; cases h1
  | ok x =>
    obtain ⟨raw, len⟩ := x
    rw [hd] at h1
    simp only [Bool.and_eq_true, decide_eq_true_eq] at h1
    obtain ⟨⟨⟨h2, h3⟩, h5⟩, h4⟩ := h1
    subst h3
    refine ⟨raw, rfl, h2, ?_, ?_, ?_, ?_⟩
    · cases r with
      | nil => trivial
      | cons y r => obtain ⟨q, j⟩ := y; exact (by simpa using h4 : q = pc + ev_il raw)
    · intro t ht; rw [ht] at h5; simpa using h5
    · intro c t ht; rw [ht] at h5; simpa using h5
    · intro c t ht; rw [ht] at h5; simpa using h5
end EvSound
