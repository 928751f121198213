/-! ===== the evaluator is sound: instruction by instruction (by program, wip/whole/gen5.py) ===== -/
section EvSound2
theorem ev_lu_in {α : Type} {l : List (Nat × α)} {k : Nat} {v : α} (h : ev_lu l k = some v) : (k, v) ∈ l := by
  induction l with
  | nil => cases h
  | cons x l ih =>
    obtain ⟨i, w⟩ := x
    unfold ev_lu at h
    by_cases h1 : i = k
    · rw [if_pos h1] at h
      cases h
      subst h1
      exact List.mem_cons_self
    · rw [if_neg h1] at h
      exact List.mem_cons_of_mem _ (ih h)
/-- the fields' table of a class -/
def ev_okF (own : String) (fl : List (Nat × Nat × Nat × Nat)) : Prop := ∀ e ∈ fl, ∃ (C : String) (T : u_T) (N : Nat), vwCl[e.2.1]? = some (C, T, N) ∧ e.2.2.1 < N ∧ (ev_tc e.2.1)[e.2.2.1]? = some e.2.2.2 ∧ Cond.fieldLink own e.1 (T e.2.2.1).1 (T e.2.2.1).2.1 (T e.2.2.1).2.2.1 ∈ ev_wd
/-- the calls' table of a class -/
def ev_okC (own : String) (ca : List (Nat × ev_Ca)) : Prop := ∀ e ∈ ca,
  (e.2.1 = 0 → ∃ (C : String) (T : u_T) (N : Nat), vwCl[e.2.2.2.2]? = some (C, T, N) ∧ Cond.methodLink own e.1 e.2.2.1.1 ∈ ev_wd ∧ Cond.instanceMethod e.2.2.1.1 ∈ ev_wd ∧ Cond.selects C e.2.2.1.1 e.2.2.1.1 ∈ ev_wd) ∧
  (e.2.1 = 1 → Cond.methodLink own e.1 e.2.2.1.1 ∈ ev_wd ∧ Cond.static e.2.2.1.1 ∈ ev_wd) ∧
  (e.2.1 = 3 → ∃ host : String, Cond.methodLinkNest own e.1 e.2.2.1.1 host ∈ ev_wd ∧ Cond.static e.2.2.1.1 ∈ ev_wd) ∧
  (e.2.1 < 10 → Cond.initialized e.2.2.1.1.cls ∈ ev_wd ∧ Cond.code e.2.2.1.1 e.2.2.1.2.1 e.2.2.1.2.2.1 e.2.2.1.2.2.2.1 ∈ ev_wd ∧ e.2.2.1.2.2.1 ≤ 20 ∧ (e.2.2.1.1.cls ≠ "java/lang/invoke/MethodHandle" ∧ e.2.2.1.1.cls ≠ "java/lang/invoke/VarHandle" ∧ (parseMethodDescriptor e.2.2.1.1.desc).map (fun d => d.parameters.length) = some e.2.2.2.1)) ∧
  (e.2.1 = 10 → Cond.methodLink own e.1 Lib.Math.max.name ∈ ev_wd) ∧ (e.2.1 = 11 → Cond.methodLink own e.1 Lib.Math.min.name ∈ ev_wd) ∧ (e.2.1 = 12 → Cond.methodLink own e.1 Lib.Math.abs.name ∈ ev_wd)
/-- Math's words -/
def ev_math : List Cond := [.static Lib.Math.max.name, .code Lib.Math.max.name Lib.Math.max.code 2 (some .int), .static Lib.Math.min.name, .code Lib.Math.min.name Lib.Math.min.code 2 (some .int), .static Lib.Math.abs.name, .code Lib.Math.abs.name Lib.Math.abs.code 1 (some .int), .initialized "java/lang/Math"]
theorem ev_math_in : ∀ w ∈ ev_math, w ∈ ev_wd := by decide +kernel
def ev_nms : List String := ["java/lang/RuntimeException", "java/lang/Exception"]
/-- a place where an exception with a text is made and thrown -/
def ev_okN (own : String) (cc : ByteArray) (pc ik : Nat) (E : String) : Prop := ∃ (is ic : Nat) (tx : String), Bundle.fit E = true ∧ Cond.classLink own ik E ∈ ev_wd ∧ Cond.initialized E ∈ ev_wd ∧ Cond.stringRef own is tx ∈ lw_tbl ∧ (∀ w ∈ vx_atS own ic E ev_nms, w ∈ ev_wd) ∧ (∀ w ∈ Cond.classLink own ik E :: Cond.initialized E :: vx_atS own ic E ev_nms, vx_ot w = true) ∧
  ((decode cc (pc + 3) = .ok (.dup, 1) ∧ decode cc (pc + 4) = .ok (.ldc is, 2) ∧ decode cc (pc + 6) = .ok (.invokespecial ic, 3) ∧ decode cc (pc + 9) = .ok (.athrow, 1)) ∨ (decode cc (pc + 3) = .ok (.dup, 1) ∧ decode cc (pc + 4) = .ok (.ldc_w is, 3) ∧ decode cc (pc + 7) = .ok (.invokespecial ic, 3) ∧ decode cc (pc + 10) = .ok (.athrow, 1)))
set_option maxRecDepth 100000 in
theorem ev_cls (ci : Nat) (C : String) (T : u_T) (N : Nat) (h : vwCl[ci]? = some (C, T, N)) : (∀ w ∈ u_ws C T N, w ∈ ev_wd) ∧ (∀ a, a < N → ∀ b, b < N → a ≠ b → (T a).2.1 ≠ (T b).2.1) ∧ (ev_tc ci).length = N ∧ ci < 10 ∧
    ∃ ty0 : Nat → FieldType, (∀ k, k < N → parseFieldDescriptor (T k).2.2.1 = some (ty0 k)) ∧ ∀ k, k < N → ((ev_tc ci)[k]? = some 0 → (T k).2.2.2 = false ∧ ty0 k = .int) ∧ ((ev_tc ci)[k]? = some 3 → (T k).2.2.2 = false ∧ ty0 k = .boolean) := by
  match ci, h with
  | 0, h => cases h; exact ⟨by decide +kernel, nmX1, rfl, by decide, tyX1, tyX1_ok, by decide +kernel⟩
  | 1, h => cases h; exact ⟨by decide +kernel, nmX2, rfl, by decide, tyX2, tyX2_ok, by decide +kernel⟩
  | 2, h => cases h; exact ⟨by decide +kernel, nmX4, rfl, by decide, tyX4, tyX4_ok, by decide +kernel⟩
  | 3, h => cases h; exact ⟨by decide +kernel, nmX5, rfl, by decide, tyX5, tyX5_ok, by decide +kernel⟩
  | 4, h => cases h; exact ⟨by decide +kernel, nmX6, rfl, by decide, tyX6, tyX6_ok, by decide +kernel⟩
  | 5, h => cases h; exact ⟨by decide +kernel, nmX7, rfl, by decide, tyX7, tyX7_ok, by decide +kernel⟩
  | 6, h => cases h; exact ⟨by decide +kernel, nmX8, rfl, by decide, tyX8, tyX8_ok, by decide +kernel⟩
  | 7, h => cases h; exact ⟨by decide +kernel, nmX9, rfl, by decide, tyX9, tyX9_ok, by decide +kernel⟩
  | 8, h => cases h; exact ⟨by decide +kernel, nmX10, rfl, by decide, tyX10, tyX10_ok, by decide +kernel⟩
  | 9, h => cases h; exact ⟨by decide +kernel, nmX11, rfl, by decide, tyX11, tyX11_ok, by decide +kernel⟩
  | n + 10, h => simp [vwCl] at h
variable {S : ev_S} {G : ev_G}
theorem ev_E_obj {μ : ev_M} {a ci : Nat} (h : ev_kd S a = ci) (hc : ci < 10) : ev_E S G μ a = .inr (ci, (ev_tc ci).zipIdx.map (fun q => ev_tr G.2.1 (ev_fv S μ a q.2 q.1))) := by
  unfold ev_E
  rw [h]
  rw [if_neg (by omega), if_neg (by omega), if_neg (by omega), if_neg (by omega), if_neg (by omega), if_neg (by omega)]
theorem ev_fv_at {μ : ev_M} {a ci k t : Nat} (h : (ev_tc ci)[k]? = some t) : ((ev_tc ci).zipIdx.map (fun q => ev_tr G.2.1 (ev_fv S μ a q.2 q.1)))[k]? = some (ev_tr G.2.1 (ev_fv S μ a k t)) := by
  simp [List.getElem?_map, List.getElem?_zipIdx, h]
theorem ev_fv_eq {μ μ' : ev_M} {b : Nat} (h : μ'.1 b = μ.1 b) (k t : Nat) : ev_fv S μ' b k t = ev_fv S μ b k t := by
  unfold ev_fv
  split <;> first | rfl | rw [h]
theorem ev_E_eq {μ μ' : ev_M} {b : Nat} (h1 : μ'.1 b = μ.1 b) (h2 : μ'.2.1 b = μ.2.1 b) (h3 : μ'.2.2 b = μ.2.2 b) : ev_E S G μ' b = ev_E S G μ b := by
  unfold ev_E
  have h4 : (fun q : Nat × Nat => ev_tr G.2.1 (ev_fv S μ' b q.2 q.1)) = (fun q : Nat × Nat => ev_tr G.2.1 (ev_fv S μ b q.2 q.1)) := funext fun q => by rw [ev_fv_eq h1]
  rw [h1, h2, h3, h4]
theorem ev_up_ne {α : Type} {f : Nat → Nat → α} {a k b : Nat} {v : α} (h : b ≠ a) : ev_up f a k v b = f b := funext fun j => by
  unfold ev_up
  rw [if_neg (fun q => h q.1)]
theorem ev_up_self {α : Type} {f : Nat → Nat → α} {a k : Nat} {v : α} : ev_up f a k v a = fun j => if j = k then v else f a j := funext fun j => by
  unfold ev_up
  by_cases h : j = k <;> simp [h]
theorem ev_setf {μ : ev_M} {a ci k t : Nat} {x : Int32} (ht : (ev_tc ci)[k]? = some t) (h03 : t = 0 ∨ t = 3) : ((ev_tc ci).zipIdx.map (fun q => ev_tr G.2.1 (ev_fv S μ a q.2 q.1))).set k (.int x) = (ev_tc ci).zipIdx.map (fun q => ev_tr G.2.1 (ev_fv S (ev_up μ.1 a k x, μ.2) a q.2 q.1)) := by
  apply List.ext_getElem?
  intro j
  by_cases hj : j = k
  · subst hj
    rw [ev_fv_at ht, List.getElem?_set_self (by
      have := (List.getElem?_eq_some_iff.mp ht).1
      simpa using this)]
    rcases h03 with rfl | rfl <;> simp [ev_fv, ev_up, ev_tr]
  · rw [List.getElem?_set_ne (fun q => hj q.symm), List.getElem?_map, List.getElem?_map, List.getElem?_zipIdx]
    cases hq : (ev_tc ci)[j]? with
    | none => rfl
    | some t' =>
      show some (ev_tr G.2.1 (ev_fv S μ a (0 + j) t')) = some (ev_tr G.2.1 (ev_fv S (ev_up μ.1 a k x, μ.2) a (0 + j) t'))
      have : ev_fv S (ev_up μ.1 a k x, μ.2) a (0 + j) t' = ev_fv S μ a (0 + j) t' := by
        unfold ev_fv ev_up
        split <;> first | rfl | (show Value.int (if a = a ∧ 0 + j = k then x else μ.1 a (0 + j)) = Value.int (μ.1 a (0 + j)); rw [if_neg (fun q => hj (by have := q.2; omega))])
      rw [this]
theorem ev_sz_eq (ρ : Nat → Nat) (st : List Value) : ((st.map (ev_tr ρ)).map fun v => v.category).sum = ev_sz st := by
  induction st with
  | nil => rfl
  | cons v r ih => simp only [List.map_cons, List.sum_cons, ev_sz, ih, ev_tr_cat]
theorem ev_as_eq {n : Nat} {acc st As r : List Value} (h : ev_as n acc st = some (As, r)) : ∃ As' : List Value, As = As' ++ acc ∧ As'.length = n ∧ st = As'.reverse ++ r := by
  induction n generalizing acc st with
  | zero =>
    unfold ev_as at h
    cases h
    exact ⟨[], rfl, rfl, rfl⟩
  | succ n ih =>
    cases st with
    | nil => unfold ev_as at h; cases h
    | cons v st =>
      unfold ev_as at h
      obtain ⟨A, h1, h2, h3⟩ := ih h
      refine ⟨A ++ [v], by rw [h1]; simp, by simp [h2], ?_⟩
      rw [List.reverse_append]
      simp [h3]
theorem ev_at_sub {cd : List (Nat × Instr)} {t : Nat} : ∀ x ∈ ev_at cd t, x ∈ cd := by
  induction cd with
  | nil => exact fun x h => h
  | cons y r ih =>
    obtain ⟨pc, i⟩ := y
    unfold ev_at
    by_cases hp : pc = t
    · rw [if_pos hp]; exact fun x h => h
    · rw [if_neg hp]; exact fun x h => List.mem_cons_of_mem _ (ih x h)
variable {p : Program} {l0 : Launch} {e : Env} {R : Room} {s : State} {m : MethodId} {args : Array Value} {below : List Frame} {meth : Method} {c : Code} {cc : ByteArray} {own : String} {nL d : Nat} {res : ev_R} {z : Bool}
/-- what holds through a method's body -/
def ev_B (S : ev_S) (G : ev_G) (p : Program) (R : Room) (s : State) (m : MethodId) (args : Array Value) (meth : Method) (c : Code) (cc : ByteArray) (own : String) (nL d : Nat) (res : ev_R) (z : Bool) : Prop :=
  ev_ok S G ∧ p.tables.exec = Jvm.exec ∧ c.code = cc ∧ c.maxLocals = nL ∧ s.vm.findClass own = some m.cls ∧ G.2.2.2.2.1.WarmedH s.vm ∧ ev_lo G ≤ s.heap.size ∧ (∀ q : Nat, q < ev_lo G → s.heap[q]? = G.2.2.2.2.1.heap[q]?) ∧ meth.locks = false ∧
  R = { frames := d, cells := (ev_co res).1, slots := (ev_co res).2, locals := 40 * d } ∧ (∀ x ∈ c.exceptionTable.toList, False)
theorem ev_B_w (hB : ev_B S G p R s m args meth c cc own nL d res z) : ∀ w ∈ ev_wd, w.before args s = true := fun w hw => ev_gw_warm hB.2.2.2.2.2.1 (hB.1.2.2.2.1 w (ev_wd_in hw).1) (ev_wd_in hw).2
theorem ev_B_K (hB : ev_B S G p R s m args meth c cc own nL d res z) : va_K G.2.2.1 vwCl (ev_tys G) s := va_K.moved hB.2.2.2.2.2.1.alike hB.1.2.2.1
theorem ev_H_of {μ : ev_M} {H : Heap} {locs : List Loc} (hB : ev_B S G p R s m args meth c cc own nL d res z) (hP : va_P G.2.2.1 vwCl (ev_ws S G μ) H) (hS : va_S (ev_fr G) s.heap H locs) : ev_H S G μ H :=
  ⟨hP, Nat.le_trans hB.2.2.2.2.2.2.1 hS.1, fun q hq => by rw [hS.2.1 q (Nat.lt_of_lt_of_le hq hB.2.2.2.2.2.2.1) (by show ¬ ev_lo G ≤ q; omega)]; exact hB.2.2.2.2.2.2.2.1 q hq⟩
/-- from here the method's body comes to its end -/
def ev_Wk (S : ev_S) (G : ev_G) (p : Program) (l0 : Launch) (e : Env) (R : Room) (s : State) (m : MethodId) (args : Array Value) (below : List Frame) (meth : Method) (c : Code) (nL : Nat) (res : ev_R) (pc : Nat) (l : List (Nat × Value)) (st : List Value) (μ : ev_M) : Prop :=
  ∀ (H : Heap) (locs : List Loc) (ls : Array Slot), va_P G.2.2.1 vwCl (ev_ws S G μ) H → va_S (ev_fr G) s.heap H locs → lv_has ls nL (ev_ml G l) →
    W p l0 e R s m args below meth c H locs 0 0 (vx_MQ below (ev_Q S G res) (ev_X S G res) args s (ev_co res).1 (ev_co res).2 (ev_fr G)) (F0 m pc ls (st.map (ev_tr G.2.1)))
abbrev ev_K1 (S : ev_S) (G : ev_G) (p : Program) (l0 : Launch) (e : Env) (R : Room) (s : State) (m : MethodId) (args : Array Value) (below : List Frame) (meth : Method) (c : Code) (nL : Nat) (res : ev_R) (pc : Nat) (k : List (Nat × Value) → List Value → ev_M → Prop) : Prop := ∀ l st μ, k l st μ → ev_Wk S G p l0 e R s m args below meth c nL res pc l st μ
variable {Tb : ev_Tb} {pc : Nat} {l : List (Nat × Value)} {st : List Value} {μ : ev_M} {k : List (Nat × Value) → List Value → ev_M → Prop} {j : Nat → List (Nat × Value) → List Value → ev_M → Prop} {kc : List (Nat × Value) → List Value → ev_M → Prop}

theorem ev_s_iload_n (hB : ev_B S G p R s m args meth c cc own nL d res z) (hn : Tb.2.2.2.2.2.1 = nL) {n : Fin 4} (hd : decode cc pc = .ok (.iload_n n, 1)) (hk : ev_K1 S G p l0 e R s m args below meth c nL res (pc + 1) k)
    (h : ev_stp S G Tb d res (ev_nm pc (.iload_n n)) pc l st μ k j kc) : ev_Wk S G p l0 e R s m args below meth c nL res pc l st μ := by
  intro H locs ls hP hS hl
  obtain ⟨hok, hx, hb, hml, hown, hW0, hlo, hlow, hlk, hR, hex⟩ := id hB
  simp only [ev_nm, ev_stp] at h
  split at h
  · rename_i x heq
    exact lv_iload_n hx hb hd rfl (ev_lv0 hl heq) (hk _ _ _ h H locs ls hP hS hl)
  · exact h.elim
theorem ev_s_iload (hB : ev_B S G p R s m args meth c cc own nL d res z) (hn : Tb.2.2.2.2.2.1 = nL) {n : Nat} (hd : decode cc pc = .ok (.iload n, 2)) (hk : ev_K1 S G p l0 e R s m args below meth c nL res (pc + 2) k)
    (h : ev_stp S G Tb d res (ev_nm pc (.iload n)) pc l st μ k j kc) : ev_Wk S G p l0 e R s m args below meth c nL res pc l st μ := by
  intro H locs ls hP hS hl
  obtain ⟨hok, hx, hb, hml, hown, hW0, hlo, hlow, hlk, hR, hex⟩ := id hB
  simp only [ev_nm, ev_stp] at h
  split at h
  · rename_i x heq
    exact lv_iload hx hb hd (ev_lv0 hl heq) (hk _ _ _ h H locs ls hP hS hl)
  · exact h.elim
theorem ev_s_lload_n (hB : ev_B S G p R s m args meth c cc own nL d res z) (hn : Tb.2.2.2.2.2.1 = nL) {n : Fin 4} (hd : decode cc pc = .ok (.lload_n n, 1)) (hk : ev_K1 S G p l0 e R s m args below meth c nL res (pc + 1) k)
    (h : ev_stp S G Tb d res (ev_nm pc (.lload_n n)) pc l st μ k j kc) : ev_Wk S G p l0 e R s m args below meth c nL res pc l st μ := by
  intro H locs ls hP hS hl
  obtain ⟨hok, hx, hb, hml, hown, hW0, hlo, hlow, hlk, hR, hex⟩ := id hB
  simp only [ev_nm, ev_stp] at h
  split at h
  · rename_i x heq
    exact lv_lload_n hx hb hd rfl (ev_lv0 hl heq) (hk _ _ _ h H locs ls hP hS hl)
  · exact h.elim
theorem ev_s_lload (hB : ev_B S G p R s m args meth c cc own nL d res z) (hn : Tb.2.2.2.2.2.1 = nL) {n : Nat} (hd : decode cc pc = .ok (.lload n, 2)) (hk : ev_K1 S G p l0 e R s m args below meth c nL res (pc + 2) k)
    (h : ev_stp S G Tb d res (ev_nm pc (.lload n)) pc l st μ k j kc) : ev_Wk S G p l0 e R s m args below meth c nL res pc l st μ := by
  intro H locs ls hP hS hl
  obtain ⟨hok, hx, hb, hml, hown, hW0, hlo, hlow, hlk, hR, hex⟩ := id hB
  simp only [ev_nm, ev_stp] at h
  split at h
  · rename_i x heq
    exact lv_lload hx hb hd (ev_lv0 hl heq) (hk _ _ _ h H locs ls hP hS hl)
  · exact h.elim
theorem ev_s_aload_n (hB : ev_B S G p R s m args meth c cc own nL d res z) (hn : Tb.2.2.2.2.2.1 = nL) {n : Fin 4} (hd : decode cc pc = .ok (.aload_n n, 1)) (hk : ev_K1 S G p l0 e R s m args below meth c nL res (pc + 1) k)
    (h : ev_stp S G Tb d res (ev_nm pc (.aload_n n)) pc l st μ k j kc) : ev_Wk S G p l0 e R s m args below meth c nL res pc l st μ := by
  intro H locs ls hP hS hl
  obtain ⟨hok, hx, hb, hml, hown, hW0, hlo, hlow, hlk, hR, hex⟩ := id hB
  simp only [ev_nm, ev_stp] at h
  split at h
  · rename_i x heq
    exact lv_aload_n hx hb hd rfl (ev_lv0 hl heq) (hk _ _ _ h H locs ls hP hS hl)
  · exact h.elim
theorem ev_s_aload (hB : ev_B S G p R s m args meth c cc own nL d res z) (hn : Tb.2.2.2.2.2.1 = nL) {n : Nat} (hd : decode cc pc = .ok (.aload n, 2)) (hk : ev_K1 S G p l0 e R s m args below meth c nL res (pc + 2) k)
    (h : ev_stp S G Tb d res (ev_nm pc (.aload n)) pc l st μ k j kc) : ev_Wk S G p l0 e R s m args below meth c nL res pc l st μ := by
  intro H locs ls hP hS hl
  obtain ⟨hok, hx, hb, hml, hown, hW0, hlo, hlow, hlk, hR, hex⟩ := id hB
  simp only [ev_nm, ev_stp] at h
  split at h
  · rename_i x heq
    exact lv_aload hx hb hd (ev_lv0 hl heq) (hk _ _ _ h H locs ls hP hS hl)
  · exact h.elim
theorem ev_s_istore_n (hB : ev_B S G p R s m args meth c cc own nL d res z) (hn : Tb.2.2.2.2.2.1 = nL) {n : Fin 4} (hd : decode cc pc = .ok (.istore_n n, 1)) (hk : ev_K1 S G p l0 e R s m args below meth c nL res (pc + 1) k)
    (h : ev_stp S G Tb d res (ev_nm pc (.istore_n n)) pc l st μ k j kc) : ev_Wk S G p l0 e R s m args below meth c nL res pc l st μ := by
  intro H locs ls hP hS hl
  obtain ⟨hok, hx, hb, hml, hown, hW0, hlo, hlow, hlk, hR, hex⟩ := id hB
  simp only [ev_nm, ev_stp] at h
  split at h
  · rename_i x r
    obtain ⟨h1, h2⟩ := h
    rw [hn] at h1
    exact lv_istore_n hx hb hd rfl hl h1 rfl (fun ls' hl' => hk _ _ _ h2 H locs ls' hP hS (ev_has1 hl'))
  · exact h.elim
theorem ev_s_istore (hB : ev_B S G p R s m args meth c cc own nL d res z) (hn : Tb.2.2.2.2.2.1 = nL) {n : Nat} (hd : decode cc pc = .ok (.istore n, 2)) (hk : ev_K1 S G p l0 e R s m args below meth c nL res (pc + 2) k)
    (h : ev_stp S G Tb d res (ev_nm pc (.istore n)) pc l st μ k j kc) : ev_Wk S G p l0 e R s m args below meth c nL res pc l st μ := by
  intro H locs ls hP hS hl
  obtain ⟨hok, hx, hb, hml, hown, hW0, hlo, hlow, hlk, hR, hex⟩ := id hB
  simp only [ev_nm, ev_stp] at h
  split at h
  · rename_i x r
    obtain ⟨h1, h2⟩ := h
    rw [hn] at h1
    exact lv_istore hx hb hd hl h1 rfl (fun ls' hl' => hk _ _ _ h2 H locs ls' hP hS (ev_has1 hl'))
  · exact h.elim
theorem ev_s_astore_n (hB : ev_B S G p R s m args meth c cc own nL d res z) (hn : Tb.2.2.2.2.2.1 = nL) {n : Fin 4} (hd : decode cc pc = .ok (.astore_n n, 1)) (hk : ev_K1 S G p l0 e R s m args below meth c nL res (pc + 1) k)
    (h : ev_stp S G Tb d res (ev_nm pc (.astore_n n)) pc l st μ k j kc) : ev_Wk S G p l0 e R s m args below meth c nL res pc l st μ := by
  intro H locs ls hP hS hl
  obtain ⟨hok, hx, hb, hml, hown, hW0, hlo, hlow, hlk, hR, hex⟩ := id hB
  simp only [ev_nm, ev_stp] at h
  split at h
  · rename_i x r
    obtain ⟨h1, h2⟩ := h
    rw [hn] at h1
    exact lv_astore_n hx hb hd rfl hl h1 rfl (fun ls' hl' => hk _ _ _ h2 H locs ls' hP hS (ev_has1 hl'))
  · exact h.elim
theorem ev_s_astore (hB : ev_B S G p R s m args meth c cc own nL d res z) (hn : Tb.2.2.2.2.2.1 = nL) {n : Nat} (hd : decode cc pc = .ok (.astore n, 2)) (hk : ev_K1 S G p l0 e R s m args below meth c nL res (pc + 2) k)
    (h : ev_stp S G Tb d res (ev_nm pc (.astore n)) pc l st μ k j kc) : ev_Wk S G p l0 e R s m args below meth c nL res pc l st μ := by
  intro H locs ls hP hS hl
  obtain ⟨hok, hx, hb, hml, hown, hW0, hlo, hlow, hlk, hR, hex⟩ := id hB
  simp only [ev_nm, ev_stp] at h
  split at h
  · rename_i x r
    obtain ⟨h1, h2⟩ := h
    rw [hn] at h1
    exact lv_astore hx hb hd hl h1 rfl (fun ls' hl' => hk _ _ _ h2 H locs ls' hP hS (ev_has1 hl'))
  · exact h.elim
theorem ev_s_lstore_n (hB : ev_B S G p R s m args meth c cc own nL d res z) (hn : Tb.2.2.2.2.2.1 = nL) {n : Fin 4} (hd : decode cc pc = .ok (.lstore_n n, 1)) (hk : ev_K1 S G p l0 e R s m args below meth c nL res (pc + 1) k)
    (h : ev_stp S G Tb d res (ev_nm pc (.lstore_n n)) pc l st μ k j kc) : ev_Wk S G p l0 e R s m args below meth c nL res pc l st μ := by
  intro H locs ls hP hS hl
  obtain ⟨hok, hx, hb, hml, hown, hW0, hlo, hlow, hlk, hR, hex⟩ := id hB
  simp only [ev_nm, ev_stp] at h
  split at h
  · rename_i x r
    obtain ⟨h1, h2⟩ := h
    rw [hn] at h1
    exact lv_lstore_n hx hb hd rfl hl h1 rfl (fun ls' hl' => hk _ _ _ h2 H locs ls' hP hS (ev_has2 hl'))
  · exact h.elim
theorem ev_s_lstore (hB : ev_B S G p R s m args meth c cc own nL d res z) (hn : Tb.2.2.2.2.2.1 = nL) {n : Nat} (hd : decode cc pc = .ok (.lstore n, 2)) (hk : ev_K1 S G p l0 e R s m args below meth c nL res (pc + 2) k)
    (h : ev_stp S G Tb d res (ev_nm pc (.lstore n)) pc l st μ k j kc) : ev_Wk S G p l0 e R s m args below meth c nL res pc l st μ := by
  intro H locs ls hP hS hl
  obtain ⟨hok, hx, hb, hml, hown, hW0, hlo, hlow, hlk, hR, hex⟩ := id hB
  simp only [ev_nm, ev_stp] at h
  split at h
  · rename_i x r
    obtain ⟨h1, h2⟩ := h
    rw [hn] at h1
    exact lv_lstore hx hb hd hl h1 rfl (fun ls' hl' => hk _ _ _ h2 H locs ls' hP hS (ev_has2 hl'))
  · exact h.elim
theorem ev_s_iinc (hB : ev_B S G p R s m args meth c cc own nL d res z) (hn : Tb.2.2.2.2.2.1 = nL) {n : Nat} {q : Int} (hd : decode cc pc = .ok (.iinc n q, 3)) (hk : ev_K1 S G p l0 e R s m args below meth c nL res (pc + 3) k)
    (h : ev_stp S G Tb d res (ev_nm pc (.iinc n q)) pc l st μ k j kc) : ev_Wk S G p l0 e R s m args below meth c nL res pc l st μ := by
  intro H locs ls hP hS hl
  obtain ⟨hok, hx, hb, hml, hown, hW0, hlo, hlow, hlk, hR, hex⟩ := id hB
  simp only [ev_nm, ev_stp] at h
  split at h
  · rename_i x heq
    obtain ⟨h1, h2⟩ := h
    rw [hn] at h1
    obtain ⟨kk, hkk⟩ := List.getElem?_of_mem (List.mem_map.mpr ⟨(n, .int x), ev_lk_in heq, rfl⟩ : (n, ev_tr G.2.1 (.int x)) ∈ ev_ml G l)
    exact lv_iinc (k := kk) hx hb hd hl hkk rfl h1 rfl (fun ls' hl' => hk _ _ _ h2 H locs ls' hP hS (ev_has1 hl'))
  · exact h.elim
theorem ev_s_iconst (hB : ev_B S G p R s m args meth c cc own nL d res z) (hn : Tb.2.2.2.2.2.1 = nL) {n : Int} (hd : decode cc pc = .ok (.iconst n, 1)) (hk : ev_K1 S G p l0 e R s m args below meth c nL res (pc + 1) k)
    (h : ev_stp S G Tb d res (ev_nm pc (.iconst n)) pc l st μ k j kc) : ev_Wk S G p l0 e R s m args below meth c nL res pc l st μ := by
  intro H locs ls hP hS hl
  obtain ⟨hok, hx, hb, hml, hown, hW0, hlo, hlow, hlk, hR, hex⟩ := id hB
  simp only [ev_nm, ev_stp] at h
  exact lv_iconst hx hb hd rfl (hk _ _ _ h H locs ls hP hS hl)
theorem ev_s_bipush (hB : ev_B S G p R s m args meth c cc own nL d res z) (hn : Tb.2.2.2.2.2.1 = nL) {n : Int} (hd : decode cc pc = .ok (.bipush n, 2)) (hk : ev_K1 S G p l0 e R s m args below meth c nL res (pc + 2) k)
    (h : ev_stp S G Tb d res (ev_nm pc (.bipush n)) pc l st μ k j kc) : ev_Wk S G p l0 e R s m args below meth c nL res pc l st μ := by
  intro H locs ls hP hS hl
  obtain ⟨hok, hx, hb, hml, hown, hW0, hlo, hlow, hlk, hR, hex⟩ := id hB
  simp only [ev_nm, ev_stp] at h
  exact lv_bipush hx hb hd rfl (hk _ _ _ h H locs ls hP hS hl)
theorem ev_s_sipush (hB : ev_B S G p R s m args meth c cc own nL d res z) (hn : Tb.2.2.2.2.2.1 = nL) {n : Int} (hd : decode cc pc = .ok (.sipush n, 3)) (hk : ev_K1 S G p l0 e R s m args below meth c nL res (pc + 3) k)
    (h : ev_stp S G Tb d res (ev_nm pc (.sipush n)) pc l st μ k j kc) : ev_Wk S G p l0 e R s m args below meth c nL res pc l st μ := by
  intro H locs ls hP hS hl
  obtain ⟨hok, hx, hb, hml, hown, hW0, hlo, hlow, hlk, hR, hex⟩ := id hB
  simp only [ev_nm, ev_stp] at h
  exact lv_sipush hx hb hd rfl (hk _ _ _ h H locs ls hP hS hl)
theorem ev_s_lconst (hB : ev_B S G p R s m args meth c cc own nL d res z) (hn : Tb.2.2.2.2.2.1 = nL) {n : Fin 2} (hd : decode cc pc = .ok (.lconst n, 1)) (hk : ev_K1 S G p l0 e R s m args below meth c nL res (pc + 1) k)
    (h : ev_stp S G Tb d res (ev_nm pc (.lconst n)) pc l st μ k j kc) : ev_Wk S G p l0 e R s m args below meth c nL res pc l st μ := by
  intro H locs ls hP hS hl
  obtain ⟨hok, hx, hb, hml, hown, hW0, hlo, hlow, hlk, hR, hex⟩ := id hB
  simp only [ev_nm, ev_stp] at h
  exact lv_lconst hx hb hd rfl (hk _ _ _ h H locs ls hP hS hl)
theorem ev_s_ldc (hB : ev_B S G p R s m args meth c cc own nL d res z) (hn : Tb.2.2.2.2.2.1 = nL) {n : Nat} (hq : ∀ n v, Tb.2.2.2.1 n = some v → Cond.constant own n v ∈ ev_wd) (hd : decode cc pc = .ok (.ldc n, 2)) (hk : ev_K1 S G p l0 e R s m args below meth c nL res (pc + 2) k)
    (h : ev_stp S G Tb d res (ev_nm pc (.ldc n)) pc l st μ k j kc) : ev_Wk S G p l0 e R s m args below meth c nL res pc l st μ := by
  intro H locs ls hP hS hl
  obtain ⟨hok, hx, hb, hml, hown, hW0, hlo, hlow, hlk, hR, hex⟩ := id hB
  simp only [ev_nm, ev_stp] at h
  split at h
  · rename_i v heq
    exact lv_ldc hx hb hown (ev_B_w hB _ (hq n v heq)) hd (hk _ _ _ h H locs ls hP hS hl)
  · exact h.elim
theorem ev_s_ldc_w (hB : ev_B S G p R s m args meth c cc own nL d res z) (hn : Tb.2.2.2.2.2.1 = nL) {n : Nat} (hq : ∀ n v, Tb.2.2.2.1 n = some v → Cond.constant own n v ∈ ev_wd) (hd : decode cc pc = .ok (.ldc_w n, 3)) (hk : ev_K1 S G p l0 e R s m args below meth c nL res (pc + 3) k)
    (h : ev_stp S G Tb d res (ev_nm pc (.ldc_w n)) pc l st μ k j kc) : ev_Wk S G p l0 e R s m args below meth c nL res pc l st μ := by
  intro H locs ls hP hS hl
  obtain ⟨hok, hx, hb, hml, hown, hW0, hlo, hlow, hlk, hR, hex⟩ := id hB
  simp only [ev_nm, ev_stp] at h
  split at h
  · rename_i v heq
    exact lv_ldcw hx hb hown (ev_B_w hB _ (hq n v heq)) hd (hk _ _ _ h H locs ls hP hS hl)
  · exact h.elim
theorem ev_s_ldc2_w (hB : ev_B S G p R s m args meth c cc own nL d res z) (hn : Tb.2.2.2.2.2.1 = nL) {n : Nat} (hq : ∀ n v, Tb.2.2.2.2.1 n = some v → Cond.constantLong own n v ∈ ev_wd) (hd : decode cc pc = .ok (.ldc2_w n, 3)) (hk : ev_K1 S G p l0 e R s m args below meth c nL res (pc + 3) k)
    (h : ev_stp S G Tb d res (ev_nm pc (.ldc2_w n)) pc l st μ k j kc) : ev_Wk S G p l0 e R s m args below meth c nL res pc l st μ := by
  intro H locs ls hP hS hl
  obtain ⟨hok, hx, hb, hml, hown, hW0, hlo, hlow, hlk, hR, hex⟩ := id hB
  simp only [ev_nm, ev_stp] at h
  split at h
  · rename_i v heq
    exact lv_ldc2 hx hb hown (ev_B_w hB _ (hq n v heq)) hd (hk _ _ _ h H locs ls hP hS hl)
  · exact h.elim
theorem ev_s_iadd (hB : ev_B S G p R s m args meth c cc own nL d res z) (hn : Tb.2.2.2.2.2.1 = nL) (hd : decode cc pc = .ok (.iadd, 1)) (hk : ev_K1 S G p l0 e R s m args below meth c nL res (pc + 1) k)
    (h : ev_stp S G Tb d res (ev_nm pc (.iadd)) pc l st μ k j kc) : ev_Wk S G p l0 e R s m args below meth c nL res pc l st μ := by
  intro H locs ls hP hS hl
  obtain ⟨hok, hx, hb, hml, hown, hW0, hlo, hlow, hlk, hR, hex⟩ := id hB
  simp only [ev_nm, ev_stp] at h
  split at h
  · exact lv_iadd hx hb hd (hk _ _ _ h H locs ls hP hS hl)
  · exact h.elim
theorem ev_s_isub (hB : ev_B S G p R s m args meth c cc own nL d res z) (hn : Tb.2.2.2.2.2.1 = nL) (hd : decode cc pc = .ok (.isub, 1)) (hk : ev_K1 S G p l0 e R s m args below meth c nL res (pc + 1) k)
    (h : ev_stp S G Tb d res (ev_nm pc (.isub)) pc l st μ k j kc) : ev_Wk S G p l0 e R s m args below meth c nL res pc l st μ := by
  intro H locs ls hP hS hl
  obtain ⟨hok, hx, hb, hml, hown, hW0, hlo, hlow, hlk, hR, hex⟩ := id hB
  simp only [ev_nm, ev_stp] at h
  split at h
  · exact lv_isub hx hb hd (hk _ _ _ h H locs ls hP hS hl)
  · exact h.elim
theorem ev_s_imul (hB : ev_B S G p R s m args meth c cc own nL d res z) (hn : Tb.2.2.2.2.2.1 = nL) (hd : decode cc pc = .ok (.imul, 1)) (hk : ev_K1 S G p l0 e R s m args below meth c nL res (pc + 1) k)
    (h : ev_stp S G Tb d res (ev_nm pc (.imul)) pc l st μ k j kc) : ev_Wk S G p l0 e R s m args below meth c nL res pc l st μ := by
  intro H locs ls hP hS hl
  obtain ⟨hok, hx, hb, hml, hown, hW0, hlo, hlow, hlk, hR, hex⟩ := id hB
  simp only [ev_nm, ev_stp] at h
  split at h
  · exact lv_imul hx hb hd (hk _ _ _ h H locs ls hP hS hl)
  · exact h.elim
theorem ev_s_iand (hB : ev_B S G p R s m args meth c cc own nL d res z) (hn : Tb.2.2.2.2.2.1 = nL) (hd : decode cc pc = .ok (.iand, 1)) (hk : ev_K1 S G p l0 e R s m args below meth c nL res (pc + 1) k)
    (h : ev_stp S G Tb d res (ev_nm pc (.iand)) pc l st μ k j kc) : ev_Wk S G p l0 e R s m args below meth c nL res pc l st μ := by
  intro H locs ls hP hS hl
  obtain ⟨hok, hx, hb, hml, hown, hW0, hlo, hlow, hlk, hR, hex⟩ := id hB
  simp only [ev_nm, ev_stp] at h
  split at h
  · exact lv_iand hx hb hd (hk _ _ _ h H locs ls hP hS hl)
  · exact h.elim
theorem ev_s_ior (hB : ev_B S G p R s m args meth c cc own nL d res z) (hn : Tb.2.2.2.2.2.1 = nL) (hd : decode cc pc = .ok (.ior, 1)) (hk : ev_K1 S G p l0 e R s m args below meth c nL res (pc + 1) k)
    (h : ev_stp S G Tb d res (ev_nm pc (.ior)) pc l st μ k j kc) : ev_Wk S G p l0 e R s m args below meth c nL res pc l st μ := by
  intro H locs ls hP hS hl
  obtain ⟨hok, hx, hb, hml, hown, hW0, hlo, hlow, hlk, hR, hex⟩ := id hB
  simp only [ev_nm, ev_stp] at h
  split at h
  · exact lv_ior hx hb hd (hk _ _ _ h H locs ls hP hS hl)
  · exact h.elim
theorem ev_s_ishl (hB : ev_B S G p R s m args meth c cc own nL d res z) (hn : Tb.2.2.2.2.2.1 = nL) (hd : decode cc pc = .ok (.ishl, 1)) (hk : ev_K1 S G p l0 e R s m args below meth c nL res (pc + 1) k)
    (h : ev_stp S G Tb d res (ev_nm pc (.ishl)) pc l st μ k j kc) : ev_Wk S G p l0 e R s m args below meth c nL res pc l st μ := by
  intro H locs ls hP hS hl
  obtain ⟨hok, hx, hb, hml, hown, hW0, hlo, hlow, hlk, hR, hex⟩ := id hB
  simp only [ev_nm, ev_stp] at h
  split at h
  · exact lv_ishl hx hb hd (hk _ _ _ h H locs ls hP hS hl)
  · exact h.elim
theorem ev_s_ishr (hB : ev_B S G p R s m args meth c cc own nL d res z) (hn : Tb.2.2.2.2.2.1 = nL) (hd : decode cc pc = .ok (.ishr, 1)) (hk : ev_K1 S G p l0 e R s m args below meth c nL res (pc + 1) k)
    (h : ev_stp S G Tb d res (ev_nm pc (.ishr)) pc l st μ k j kc) : ev_Wk S G p l0 e R s m args below meth c nL res pc l st μ := by
  intro H locs ls hP hS hl
  obtain ⟨hok, hx, hb, hml, hown, hW0, hlo, hlow, hlk, hR, hex⟩ := id hB
  simp only [ev_nm, ev_stp] at h
  split at h
  · exact lv_ishr hx hb hd (hk _ _ _ h H locs ls hP hS hl)
  · exact h.elim
theorem ev_s_ladd (hB : ev_B S G p R s m args meth c cc own nL d res z) (hn : Tb.2.2.2.2.2.1 = nL) (hd : decode cc pc = .ok (.ladd, 1)) (hk : ev_K1 S G p l0 e R s m args below meth c nL res (pc + 1) k)
    (h : ev_stp S G Tb d res (ev_nm pc (.ladd)) pc l st μ k j kc) : ev_Wk S G p l0 e R s m args below meth c nL res pc l st μ := by
  intro H locs ls hP hS hl
  obtain ⟨hok, hx, hb, hml, hown, hW0, hlo, hlow, hlk, hR, hex⟩ := id hB
  simp only [ev_nm, ev_stp] at h
  split at h
  · exact lv_ladd hx hb hd (hk _ _ _ h H locs ls hP hS hl)
  · exact h.elim
theorem ev_s_lsub (hB : ev_B S G p R s m args meth c cc own nL d res z) (hn : Tb.2.2.2.2.2.1 = nL) (hd : decode cc pc = .ok (.lsub, 1)) (hk : ev_K1 S G p l0 e R s m args below meth c nL res (pc + 1) k)
    (h : ev_stp S G Tb d res (ev_nm pc (.lsub)) pc l st μ k j kc) : ev_Wk S G p l0 e R s m args below meth c nL res pc l st μ := by
  intro H locs ls hP hS hl
  obtain ⟨hok, hx, hb, hml, hown, hW0, hlo, hlow, hlk, hR, hex⟩ := id hB
  simp only [ev_nm, ev_stp] at h
  split at h
  · exact lv_lsub hx hb hd (hk _ _ _ h H locs ls hP hS hl)
  · exact h.elim
theorem ev_s_lmul (hB : ev_B S G p R s m args meth c cc own nL d res z) (hn : Tb.2.2.2.2.2.1 = nL) (hd : decode cc pc = .ok (.lmul, 1)) (hk : ev_K1 S G p l0 e R s m args below meth c nL res (pc + 1) k)
    (h : ev_stp S G Tb d res (ev_nm pc (.lmul)) pc l st μ k j kc) : ev_Wk S G p l0 e R s m args below meth c nL res pc l st μ := by
  intro H locs ls hP hS hl
  obtain ⟨hok, hx, hb, hml, hown, hW0, hlo, hlow, hlk, hR, hex⟩ := id hB
  simp only [ev_nm, ev_stp] at h
  split at h
  · exact lv_lmul hx hb hd (hk _ _ _ h H locs ls hP hS hl)
  · exact h.elim
theorem ev_s_lor (hB : ev_B S G p R s m args meth c cc own nL d res z) (hn : Tb.2.2.2.2.2.1 = nL) (hd : decode cc pc = .ok (.lor, 1)) (hk : ev_K1 S G p l0 e R s m args below meth c nL res (pc + 1) k)
    (h : ev_stp S G Tb d res (ev_nm pc (.lor)) pc l st μ k j kc) : ev_Wk S G p l0 e R s m args below meth c nL res pc l st μ := by
  intro H locs ls hP hS hl
  obtain ⟨hok, hx, hb, hml, hown, hW0, hlo, hlow, hlk, hR, hex⟩ := id hB
  simp only [ev_nm, ev_stp] at h
  split at h
  · exact lv_lor hx hb hd (hk _ _ _ h H locs ls hP hS hl)
  · exact h.elim
theorem ev_s_idiv (hB : ev_B S G p R s m args meth c cc own nL d res z) (hn : Tb.2.2.2.2.2.1 = nL) (hd : decode cc pc = .ok (.idiv, 1)) (hk : ev_K1 S G p l0 e R s m args below meth c nL res (pc + 1) k)
    (h : ev_stp S G Tb d res (ev_nm pc (.idiv)) pc l st μ k j kc) : ev_Wk S G p l0 e R s m args below meth c nL res pc l st μ := by
  intro H locs ls hP hS hl
  obtain ⟨hok, hx, hb, hml, hown, hW0, hlo, hlow, hlk, hR, hex⟩ := id hB
  simp only [ev_nm, ev_stp] at h
  split at h
  · exact lv_idiv hx hb hd h.1 (hk _ _ _ h.2 H locs ls hP hS hl)
  · exact h.elim
theorem ev_s_irem (hB : ev_B S G p R s m args meth c cc own nL d res z) (hn : Tb.2.2.2.2.2.1 = nL) (hd : decode cc pc = .ok (.irem, 1)) (hk : ev_K1 S G p l0 e R s m args below meth c nL res (pc + 1) k)
    (h : ev_stp S G Tb d res (ev_nm pc (.irem)) pc l st μ k j kc) : ev_Wk S G p l0 e R s m args below meth c nL res pc l st μ := by
  intro H locs ls hP hS hl
  obtain ⟨hok, hx, hb, hml, hown, hW0, hlo, hlow, hlk, hR, hex⟩ := id hB
  simp only [ev_nm, ev_stp] at h
  split at h
  · exact lv_irem hx hb hd h.1 (hk _ _ _ h.2 H locs ls hP hS hl)
  · exact h.elim
theorem ev_s_ineg (hB : ev_B S G p R s m args meth c cc own nL d res z) (hn : Tb.2.2.2.2.2.1 = nL) (hd : decode cc pc = .ok (.ineg, 1)) (hk : ev_K1 S G p l0 e R s m args below meth c nL res (pc + 1) k)
    (h : ev_stp S G Tb d res (ev_nm pc (.ineg)) pc l st μ k j kc) : ev_Wk S G p l0 e R s m args below meth c nL res pc l st μ := by
  intro H locs ls hP hS hl
  obtain ⟨hok, hx, hb, hml, hown, hW0, hlo, hlow, hlk, hR, hex⟩ := id hB
  simp only [ev_nm, ev_stp] at h
  split at h
  · exact lv_ineg hx hb hd (hk _ _ _ h H locs ls hP hS hl)
  · exact h.elim
theorem ev_s_lcmp (hB : ev_B S G p R s m args meth c cc own nL d res z) (hn : Tb.2.2.2.2.2.1 = nL) (hd : decode cc pc = .ok (.lcmp, 1)) (hk : ev_K1 S G p l0 e R s m args below meth c nL res (pc + 1) k)
    (h : ev_stp S G Tb d res (ev_nm pc (.lcmp)) pc l st μ k j kc) : ev_Wk S G p l0 e R s m args below meth c nL res pc l st μ := by
  intro H locs ls hP hS hl
  obtain ⟨hok, hx, hb, hml, hown, hW0, hlo, hlow, hlk, hR, hex⟩ := id hB
  simp only [ev_nm, ev_stp] at h
  split at h
  · exact W.lcmp hx hb hd (hk _ _ _ h H locs ls hP hS hl)
  · exact h.elim
theorem ev_s_i2l (hB : ev_B S G p R s m args meth c cc own nL d res z) (hn : Tb.2.2.2.2.2.1 = nL) (hd : decode cc pc = .ok (.i2l, 1)) (hk : ev_K1 S G p l0 e R s m args below meth c nL res (pc + 1) k)
    (h : ev_stp S G Tb d res (ev_nm pc (.i2l)) pc l st μ k j kc) : ev_Wk S G p l0 e R s m args below meth c nL res pc l st μ := by
  intro H locs ls hP hS hl
  obtain ⟨hok, hx, hb, hml, hown, hW0, hlo, hlow, hlk, hR, hex⟩ := id hB
  simp only [ev_nm, ev_stp] at h
  split at h
  · exact lv_i2l hx hb hd rfl (hk _ _ _ h H locs ls hP hS hl)
  · exact h.elim
theorem ev_s_l2i (hB : ev_B S G p R s m args meth c cc own nL d res z) (hn : Tb.2.2.2.2.2.1 = nL) (hd : decode cc pc = .ok (.l2i, 1)) (hk : ev_K1 S G p l0 e R s m args below meth c nL res (pc + 1) k)
    (h : ev_stp S G Tb d res (ev_nm pc (.l2i)) pc l st μ k j kc) : ev_Wk S G p l0 e R s m args below meth c nL res pc l st μ := by
  intro H locs ls hP hS hl
  obtain ⟨hok, hx, hb, hml, hown, hW0, hlo, hlow, hlk, hR, hex⟩ := id hB
  simp only [ev_nm, ev_stp] at h
  split at h
  · exact lv_l2i hx hb hd rfl (hk _ _ _ h H locs ls hP hS hl)
  · exact h.elim
theorem ev_s_i2b (hB : ev_B S G p R s m args meth c cc own nL d res z) (hn : Tb.2.2.2.2.2.1 = nL) (hd : decode cc pc = .ok (.i2b, 1)) (hk : ev_K1 S G p l0 e R s m args below meth c nL res (pc + 1) k)
    (h : ev_stp S G Tb d res (ev_nm pc (.i2b)) pc l st μ k j kc) : ev_Wk S G p l0 e R s m args below meth c nL res pc l st μ := by
  intro H locs ls hP hS hl
  obtain ⟨hok, hx, hb, hml, hown, hW0, hlo, hlow, hlk, hR, hex⟩ := id hB
  simp only [ev_nm, ev_stp] at h
  split at h
  · exact lv_i2b hx hb hd rfl (hk _ _ _ h H locs ls hP hS hl)
  · exact h.elim
theorem ev_s_i2c (hB : ev_B S G p R s m args meth c cc own nL d res z) (hn : Tb.2.2.2.2.2.1 = nL) (hd : decode cc pc = .ok (.i2c, 1)) (hk : ev_K1 S G p l0 e R s m args below meth c nL res (pc + 1) k)
    (h : ev_stp S G Tb d res (ev_nm pc (.i2c)) pc l st μ k j kc) : ev_Wk S G p l0 e R s m args below meth c nL res pc l st μ := by
  intro H locs ls hP hS hl
  obtain ⟨hok, hx, hb, hml, hown, hW0, hlo, hlow, hlk, hR, hex⟩ := id hB
  simp only [ev_nm, ev_stp] at h
  split at h
  · exact lv_i2c hx hb hd rfl (hk _ _ _ h H locs ls hP hS hl)
  · exact h.elim
theorem ev_s_iushr (hB : ev_B S G p R s m args meth c cc own nL d res z) (hn : Tb.2.2.2.2.2.1 = nL) (hd : decode cc pc = .ok (.iushr, 1)) (hk : ev_K1 S G p l0 e R s m args below meth c nL res (pc + 1) k)
    (h : ev_stp S G Tb d res (ev_nm pc (.iushr)) pc l st μ k j kc) : ev_Wk S G p l0 e R s m args below meth c nL res pc l st μ := by
  intro H locs ls hP hS hl
  obtain ⟨hok, hx, hb, hml, hown, hW0, hlo, hlow, hlk, hR, hex⟩ := id hB
  simp only [ev_nm, ev_stp] at h
  split at h
  · exact lv_iushr hx hb hd rfl (hk _ _ _ h H locs ls hP hS hl)
  · exact h.elim
theorem ev_s_lushr (hB : ev_B S G p R s m args meth c cc own nL d res z) (hn : Tb.2.2.2.2.2.1 = nL) (hd : decode cc pc = .ok (.lushr, 1)) (hk : ev_K1 S G p l0 e R s m args below meth c nL res (pc + 1) k)
    (h : ev_stp S G Tb d res (ev_nm pc (.lushr)) pc l st μ k j kc) : ev_Wk S G p l0 e R s m args below meth c nL res pc l st μ := by
  intro H locs ls hP hS hl
  obtain ⟨hok, hx, hb, hml, hown, hW0, hlo, hlow, hlk, hR, hex⟩ := id hB
  simp only [ev_nm, ev_stp] at h
  split at h
  · exact lv_lushr hx hb hd rfl (hk _ _ _ h H locs ls hP hS hl)
  · exact h.elim
theorem ev_s_lshl (hB : ev_B S G p R s m args meth c cc own nL d res z) (hn : Tb.2.2.2.2.2.1 = nL) (hd : decode cc pc = .ok (.lshl, 1)) (hk : ev_K1 S G p l0 e R s m args below meth c nL res (pc + 1) k)
    (h : ev_stp S G Tb d res (ev_nm pc (.lshl)) pc l st μ k j kc) : ev_Wk S G p l0 e R s m args below meth c nL res pc l st μ := by
  intro H locs ls hP hS hl
  obtain ⟨hok, hx, hb, hml, hown, hW0, hlo, hlow, hlk, hR, hex⟩ := id hB
  simp only [ev_nm, ev_stp] at h
  split at h
  · exact lv_lshl hx hb hd rfl (hk _ _ _ h H locs ls hP hS hl)
  · exact h.elim
theorem ev_s_dup (hB : ev_B S G p R s m args meth c cc own nL d res z) (hn : Tb.2.2.2.2.2.1 = nL) (hd : decode cc pc = .ok (.dup, 1)) (hk : ev_K1 S G p l0 e R s m args below meth c nL res (pc + 1) k)
    (h : ev_stp S G Tb d res (ev_nm pc (.dup)) pc l st μ k j kc) : ev_Wk S G p l0 e R s m args below meth c nL res pc l st μ := by
  intro H locs ls hP hS hl
  obtain ⟨hok, hx, hb, hml, hown, hW0, hlo, hlow, hlk, hR, hex⟩ := id hB
  simp only [ev_nm, ev_stp] at h
  split at h
  · exact lv_dup hx hb hd (by rw [ev_tr_cat]; exact h.1) (hk _ _ _ h.2 H locs ls hP hS hl)
  · exact h.elim
theorem ev_s_pop (hB : ev_B S G p R s m args meth c cc own nL d res z) (hn : Tb.2.2.2.2.2.1 = nL) (hd : decode cc pc = .ok (.pop, 1)) (hk : ev_K1 S G p l0 e R s m args below meth c nL res (pc + 1) k)
    (h : ev_stp S G Tb d res (ev_nm pc (.pop)) pc l st μ k j kc) : ev_Wk S G p l0 e R s m args below meth c nL res pc l st μ := by
  intro H locs ls hP hS hl
  obtain ⟨hok, hx, hb, hml, hown, hW0, hlo, hlow, hlk, hR, hex⟩ := id hB
  simp only [ev_nm, ev_stp] at h
  split at h
  · exact lv_pop hx hb hd (by rw [ev_tr_cat]; exact h.1) (hk _ _ _ h.2 H locs ls hP hS hl)
  · exact h.elim
theorem ev_s_dup2 (hB : ev_B S G p R s m args meth c cc own nL d res z) (hn : Tb.2.2.2.2.2.1 = nL) (hd : decode cc pc = .ok (.dup2, 1)) (hk : ev_K1 S G p l0 e R s m args below meth c nL res (pc + 1) k)
    (h : ev_stp S G Tb d res (ev_nm pc (.dup2)) pc l st μ k j kc) : ev_Wk S G p l0 e R s m args below meth c nL res pc l st μ := by
  intro H locs ls hP hS hl
  obtain ⟨hok, hx, hb, hml, hown, hW0, hlo, hlow, hlk, hR, hex⟩ := id hB
  simp only [ev_nm, ev_stp] at h
  split at h
  · exact lv_dup2_11 hx hb hd (by rw [ev_tr_cat]; exact h.1) (by rw [ev_tr_cat]; exact h.2.1) (hk _ _ _ h.2.2 H locs ls hP hS hl)
  · exact h.elim
theorem ev_s_goto (hB : ev_B S G p R s m args meth c cc own nL d res z) (hn : Tb.2.2.2.2.2.1 = nL) {off : Int} (hge : 0 ≤ (pc : Int) + off) (hj : ∀ t, ev_K1 S G p l0 e R s m args below meth c nL res t (j t)) (hd : decode cc pc = .ok (.goto off, 3)) (hk : ev_K1 S G p l0 e R s m args below meth c nL res (pc + 3) k)
    (h : ev_stp S G Tb d res (ev_nm pc (.goto off)) pc l st μ k j kc) : ev_Wk S G p l0 e R s m args below meth c nL res pc l st μ := by
  intro H locs ls hP hS hl
  obtain ⟨hok, hx, hb, hml, hown, hW0, hlo, hlow, hlk, hR, hex⟩ := id hB
  simp only [ev_nm, ev_stp] at h
  exact lv_goto hx hb hd (Int.toNat_of_nonneg hge).symm (hj _ _ _ _ h H locs ls hP hS hl)
theorem ev_s_if_eq (hB : ev_B S G p R s m args meth c cc own nL d res z) (hn : Tb.2.2.2.2.2.1 = nL) {off : Int} (hge : 0 ≤ (pc : Int) + off) (hj : ∀ t, ev_K1 S G p l0 e R s m args below meth c nL res t (j t)) (hd : decode cc pc = .ok (.ifCond .eq off, 3)) (hk : ev_K1 S G p l0 e R s m args below meth c nL res (pc + 3) k)
    (h : ev_stp S G Tb d res (ev_nm pc (.ifCond .eq off)) pc l st μ k j kc) : ev_Wk S G p l0 e R s m args below meth c nL res pc l st μ := by
  intro H locs ls hP hS hl
  obtain ⟨hok, hx, hb, hml, hown, hW0, hlo, hlow, hlk, hR, hex⟩ := id hB
  simp only [ev_nm, ev_stp] at h
  split at h
  · exact lv_if_eq hx hb hd (Int.toNat_of_nonneg hge).symm (fun q => hj _ _ _ _ (h.1 q) H locs ls hP hS hl) (fun q => hk _ _ _ (h.2 q) H locs ls hP hS hl)
  · exact h.elim
theorem ev_s_icmp_eq (hB : ev_B S G p R s m args meth c cc own nL d res z) (hn : Tb.2.2.2.2.2.1 = nL) {off : Int} (hge : 0 ≤ (pc : Int) + off) (hj : ∀ t, ev_K1 S G p l0 e R s m args below meth c nL res t (j t)) (hd : decode cc pc = .ok (.if_icmp .eq off, 3)) (hk : ev_K1 S G p l0 e R s m args below meth c nL res (pc + 3) k)
    (h : ev_stp S G Tb d res (ev_nm pc (.if_icmp .eq off)) pc l st μ k j kc) : ev_Wk S G p l0 e R s m args below meth c nL res pc l st μ := by
  intro H locs ls hP hS hl
  obtain ⟨hok, hx, hb, hml, hown, hW0, hlo, hlow, hlk, hR, hex⟩ := id hB
  simp only [ev_nm, ev_stp] at h
  split at h
  · exact lv_icmp_eq hx hb hd (Int.toNat_of_nonneg hge).symm (fun q => hj _ _ _ _ (h.1 q) H locs ls hP hS hl) (fun q => hk _ _ _ (h.2 q) H locs ls hP hS hl)
  · exact h.elim
theorem ev_s_if_ne (hB : ev_B S G p R s m args meth c cc own nL d res z) (hn : Tb.2.2.2.2.2.1 = nL) {off : Int} (hge : 0 ≤ (pc : Int) + off) (hj : ∀ t, ev_K1 S G p l0 e R s m args below meth c nL res t (j t)) (hd : decode cc pc = .ok (.ifCond .ne off, 3)) (hk : ev_K1 S G p l0 e R s m args below meth c nL res (pc + 3) k)
    (h : ev_stp S G Tb d res (ev_nm pc (.ifCond .ne off)) pc l st μ k j kc) : ev_Wk S G p l0 e R s m args below meth c nL res pc l st μ := by
  intro H locs ls hP hS hl
  obtain ⟨hok, hx, hb, hml, hown, hW0, hlo, hlow, hlk, hR, hex⟩ := id hB
  simp only [ev_nm, ev_stp] at h
  split at h
  · exact lv_if_ne hx hb hd (Int.toNat_of_nonneg hge).symm (fun q => hj _ _ _ _ (h.1 q) H locs ls hP hS hl) (fun q => hk _ _ _ (h.2 q) H locs ls hP hS hl)
  · exact h.elim
theorem ev_s_icmp_ne (hB : ev_B S G p R s m args meth c cc own nL d res z) (hn : Tb.2.2.2.2.2.1 = nL) {off : Int} (hge : 0 ≤ (pc : Int) + off) (hj : ∀ t, ev_K1 S G p l0 e R s m args below meth c nL res t (j t)) (hd : decode cc pc = .ok (.if_icmp .ne off, 3)) (hk : ev_K1 S G p l0 e R s m args below meth c nL res (pc + 3) k)
    (h : ev_stp S G Tb d res (ev_nm pc (.if_icmp .ne off)) pc l st μ k j kc) : ev_Wk S G p l0 e R s m args below meth c nL res pc l st μ := by
  intro H locs ls hP hS hl
  obtain ⟨hok, hx, hb, hml, hown, hW0, hlo, hlow, hlk, hR, hex⟩ := id hB
  simp only [ev_nm, ev_stp] at h
  split at h
  · exact lv_icmp_ne hx hb hd (Int.toNat_of_nonneg hge).symm (fun q => hj _ _ _ _ (h.1 q) H locs ls hP hS hl) (fun q => hk _ _ _ (h.2 q) H locs ls hP hS hl)
  · exact h.elim
theorem ev_s_if_lt (hB : ev_B S G p R s m args meth c cc own nL d res z) (hn : Tb.2.2.2.2.2.1 = nL) {off : Int} (hge : 0 ≤ (pc : Int) + off) (hj : ∀ t, ev_K1 S G p l0 e R s m args below meth c nL res t (j t)) (hd : decode cc pc = .ok (.ifCond .lt off, 3)) (hk : ev_K1 S G p l0 e R s m args below meth c nL res (pc + 3) k)
    (h : ev_stp S G Tb d res (ev_nm pc (.ifCond .lt off)) pc l st μ k j kc) : ev_Wk S G p l0 e R s m args below meth c nL res pc l st μ := by
  intro H locs ls hP hS hl
  obtain ⟨hok, hx, hb, hml, hown, hW0, hlo, hlow, hlk, hR, hex⟩ := id hB
  simp only [ev_nm, ev_stp] at h
  split at h
  · exact lv_if_lt hx hb hd (Int.toNat_of_nonneg hge).symm (fun q => hj _ _ _ _ (h.1 q) H locs ls hP hS hl) (fun q => hk _ _ _ (h.2 q) H locs ls hP hS hl)
  · exact h.elim
theorem ev_s_icmp_lt (hB : ev_B S G p R s m args meth c cc own nL d res z) (hn : Tb.2.2.2.2.2.1 = nL) {off : Int} (hge : 0 ≤ (pc : Int) + off) (hj : ∀ t, ev_K1 S G p l0 e R s m args below meth c nL res t (j t)) (hd : decode cc pc = .ok (.if_icmp .lt off, 3)) (hk : ev_K1 S G p l0 e R s m args below meth c nL res (pc + 3) k)
    (h : ev_stp S G Tb d res (ev_nm pc (.if_icmp .lt off)) pc l st μ k j kc) : ev_Wk S G p l0 e R s m args below meth c nL res pc l st μ := by
  intro H locs ls hP hS hl
  obtain ⟨hok, hx, hb, hml, hown, hW0, hlo, hlow, hlk, hR, hex⟩ := id hB
  simp only [ev_nm, ev_stp] at h
  split at h
  · exact lv_icmp_lt hx hb hd (Int.toNat_of_nonneg hge).symm (fun q => hj _ _ _ _ (h.1 q) H locs ls hP hS hl) (fun q => hk _ _ _ (h.2 q) H locs ls hP hS hl)
  · exact h.elim
theorem ev_s_if_ge (hB : ev_B S G p R s m args meth c cc own nL d res z) (hn : Tb.2.2.2.2.2.1 = nL) {off : Int} (hge : 0 ≤ (pc : Int) + off) (hj : ∀ t, ev_K1 S G p l0 e R s m args below meth c nL res t (j t)) (hd : decode cc pc = .ok (.ifCond .ge off, 3)) (hk : ev_K1 S G p l0 e R s m args below meth c nL res (pc + 3) k)
    (h : ev_stp S G Tb d res (ev_nm pc (.ifCond .ge off)) pc l st μ k j kc) : ev_Wk S G p l0 e R s m args below meth c nL res pc l st μ := by
  intro H locs ls hP hS hl
  obtain ⟨hok, hx, hb, hml, hown, hW0, hlo, hlow, hlk, hR, hex⟩ := id hB
  simp only [ev_nm, ev_stp] at h
  split at h
  · exact lv_if_ge hx hb hd (Int.toNat_of_nonneg hge).symm (fun q => hj _ _ _ _ (h.1 q) H locs ls hP hS hl) (fun q => hk _ _ _ (h.2 q) H locs ls hP hS hl)
  · exact h.elim
theorem ev_s_icmp_ge (hB : ev_B S G p R s m args meth c cc own nL d res z) (hn : Tb.2.2.2.2.2.1 = nL) {off : Int} (hge : 0 ≤ (pc : Int) + off) (hj : ∀ t, ev_K1 S G p l0 e R s m args below meth c nL res t (j t)) (hd : decode cc pc = .ok (.if_icmp .ge off, 3)) (hk : ev_K1 S G p l0 e R s m args below meth c nL res (pc + 3) k)
    (h : ev_stp S G Tb d res (ev_nm pc (.if_icmp .ge off)) pc l st μ k j kc) : ev_Wk S G p l0 e R s m args below meth c nL res pc l st μ := by
  intro H locs ls hP hS hl
  obtain ⟨hok, hx, hb, hml, hown, hW0, hlo, hlow, hlk, hR, hex⟩ := id hB
  simp only [ev_nm, ev_stp] at h
  split at h
  · exact lv_icmp_ge hx hb hd (Int.toNat_of_nonneg hge).symm (fun q => hj _ _ _ _ (h.1 q) H locs ls hP hS hl) (fun q => hk _ _ _ (h.2 q) H locs ls hP hS hl)
  · exact h.elim
theorem ev_s_if_gt (hB : ev_B S G p R s m args meth c cc own nL d res z) (hn : Tb.2.2.2.2.2.1 = nL) {off : Int} (hge : 0 ≤ (pc : Int) + off) (hj : ∀ t, ev_K1 S G p l0 e R s m args below meth c nL res t (j t)) (hd : decode cc pc = .ok (.ifCond .gt off, 3)) (hk : ev_K1 S G p l0 e R s m args below meth c nL res (pc + 3) k)
    (h : ev_stp S G Tb d res (ev_nm pc (.ifCond .gt off)) pc l st μ k j kc) : ev_Wk S G p l0 e R s m args below meth c nL res pc l st μ := by
  intro H locs ls hP hS hl
  obtain ⟨hok, hx, hb, hml, hown, hW0, hlo, hlow, hlk, hR, hex⟩ := id hB
  simp only [ev_nm, ev_stp] at h
  split at h
  · exact lv_if_gt hx hb hd (Int.toNat_of_nonneg hge).symm (fun q => hj _ _ _ _ (h.1 q) H locs ls hP hS hl) (fun q => hk _ _ _ (h.2 q) H locs ls hP hS hl)
  · exact h.elim
theorem ev_s_icmp_gt (hB : ev_B S G p R s m args meth c cc own nL d res z) (hn : Tb.2.2.2.2.2.1 = nL) {off : Int} (hge : 0 ≤ (pc : Int) + off) (hj : ∀ t, ev_K1 S G p l0 e R s m args below meth c nL res t (j t)) (hd : decode cc pc = .ok (.if_icmp .gt off, 3)) (hk : ev_K1 S G p l0 e R s m args below meth c nL res (pc + 3) k)
    (h : ev_stp S G Tb d res (ev_nm pc (.if_icmp .gt off)) pc l st μ k j kc) : ev_Wk S G p l0 e R s m args below meth c nL res pc l st μ := by
  intro H locs ls hP hS hl
  obtain ⟨hok, hx, hb, hml, hown, hW0, hlo, hlow, hlk, hR, hex⟩ := id hB
  simp only [ev_nm, ev_stp] at h
  split at h
  · exact lv_icmp_gt hx hb hd (Int.toNat_of_nonneg hge).symm (fun q => hj _ _ _ _ (h.1 q) H locs ls hP hS hl) (fun q => hk _ _ _ (h.2 q) H locs ls hP hS hl)
  · exact h.elim
theorem ev_s_if_le (hB : ev_B S G p R s m args meth c cc own nL d res z) (hn : Tb.2.2.2.2.2.1 = nL) {off : Int} (hge : 0 ≤ (pc : Int) + off) (hj : ∀ t, ev_K1 S G p l0 e R s m args below meth c nL res t (j t)) (hd : decode cc pc = .ok (.ifCond .le off, 3)) (hk : ev_K1 S G p l0 e R s m args below meth c nL res (pc + 3) k)
    (h : ev_stp S G Tb d res (ev_nm pc (.ifCond .le off)) pc l st μ k j kc) : ev_Wk S G p l0 e R s m args below meth c nL res pc l st μ := by
  intro H locs ls hP hS hl
  obtain ⟨hok, hx, hb, hml, hown, hW0, hlo, hlow, hlk, hR, hex⟩ := id hB
  simp only [ev_nm, ev_stp] at h
  split at h
  · exact lv_if_le hx hb hd (Int.toNat_of_nonneg hge).symm (fun q => hj _ _ _ _ (h.1 q) H locs ls hP hS hl) (fun q => hk _ _ _ (h.2 q) H locs ls hP hS hl)
  · exact h.elim
theorem ev_s_icmp_le (hB : ev_B S G p R s m args meth c cc own nL d res z) (hn : Tb.2.2.2.2.2.1 = nL) {off : Int} (hge : 0 ≤ (pc : Int) + off) (hj : ∀ t, ev_K1 S G p l0 e R s m args below meth c nL res t (j t)) (hd : decode cc pc = .ok (.if_icmp .le off, 3)) (hk : ev_K1 S G p l0 e R s m args below meth c nL res (pc + 3) k)
    (h : ev_stp S G Tb d res (ev_nm pc (.if_icmp .le off)) pc l st μ k j kc) : ev_Wk S G p l0 e R s m args below meth c nL res pc l st μ := by
  intro H locs ls hP hS hl
  obtain ⟨hok, hx, hb, hml, hown, hW0, hlo, hlow, hlk, hR, hex⟩ := id hB
  simp only [ev_nm, ev_stp] at h
  split at h
  · exact lv_icmp_le hx hb hd (Int.toNat_of_nonneg hge).symm (fun q => hj _ _ _ _ (h.1 q) H locs ls hP hS hl) (fun q => hk _ _ _ (h.2 q) H locs ls hP hS hl)
  · exact h.elim
theorem ev_s_getfield (hB : ev_B S G p R s m args meth c cc own nL d res z) (hn : Tb.2.2.2.2.2.1 = nL) {n : Nat} {fl : List (Nat × Nat × Nat × Nat)} (hfl : Tb.1 = ev_lu fl) (hF : ev_okF own fl) (hd : decode cc pc = .ok (.getfield n, 3)) (hk : ev_K1 S G p l0 e R s m args below meth c nL res (pc + 3) k)
    (h : ev_stp S G Tb d res (ev_nm pc (.getfield n)) pc l st μ k j kc) : ev_Wk S G p l0 e R s m args below meth c nL res pc l st μ := by
  intro H locs ls hP hS hl
  obtain ⟨hok, hx, hb, hml, hown, hW0, hlo, hlow, hlk, hR, hex⟩ := id hB
  simp only [ev_nm, ev_stp] at h
  split at h
  · rename_i ci kx t a r heq
    obtain ⟨h1, h2, h3⟩ := h
    rw [hfl] at heq
    obtain ⟨C, T, N, hc, hkx, ht, hlk2⟩ := hF _ (ev_lu_in heq)
    obtain ⟨q1, -, -, q4, -⟩ := ev_cls ci C T N hc
    exact va_get hx hb (ev_B_w hB) q1 hown (ev_B_K hB) hP a (by rw [ev_ws_at h1, ev_E_obj h2 q4]) hc kx hkx (ev_B_w hB _ hlk2) (fun _ h => h) (ev_fv_at ht) hd (hk _ _ _ h3 H locs ls hP hS hl)
  · exact h.elim
theorem ev_s_putfield (hB : ev_B S G p R s m args meth c cc own nL d res z) (hn : Tb.2.2.2.2.2.1 = nL) {n : Nat} {fl : List (Nat × Nat × Nat × Nat)} (hfl : Tb.1 = ev_lu fl) (hF : ev_okF own fl) (hd : decode cc pc = .ok (.putfield n, 3)) (hk : ev_K1 S G p l0 e R s m args below meth c nL res (pc + 3) k)
    (h : ev_stp S G Tb d res (ev_nm pc (.putfield n)) pc l st μ k j kc) : ev_Wk S G p l0 e R s m args below meth c nL res pc l st μ := by
  intro H locs ls hP hS hl
  obtain ⟨hok, hx, hb, hml, hown, hW0, hlo, hlow, hlk, hR, hex⟩ := id hB
  simp only [ev_nm, ev_stp] at h
  split at h
  · rename_i ci kx x a r heq
    obtain ⟨h1, h2, h3⟩ := h
    rw [hfl] at heq
    obtain ⟨C, T, N, hc, hkx, ht, hlk2⟩ := hF _ (ev_lu_in heq)
    obtain ⟨q1, q2, q3, q4, ty0, q5, q6⟩ := ev_cls ci C T N hc
    have q7 := (q6 kx hkx).1 ht
    refine va_put (v := .int x) (ty := .int) hx hb (ev_B_w hB) q1 ty0 q5 q2 hown (ev_B_K hB) hP (ev_D hok μ) hS a (by rw [ev_ws_at h1, ev_E_obj h2 q4]) hc kx hkx (ev_B_w hB _ hlk2) (fun _ h => h) q7.1 (by rw [q5 kx hkx]; exact congrArg some q7.2) rfl rfl (by simpa [q3] using hkx) hd (fun H1 locs1 hP1 hD1 hS1 => ?_)
    refine hk _ _ _ h3 H1 locs1 ls ?_ hS1 hl
    rw [ev_setf ht (Or.inl rfl), ev_ws_set h1 (μ' := (ev_up μ.1 a kx x, μ.2)) (by rw [ev_E_obj h2 q4]) (fun b hb => ev_E_eq (ev_up_ne hb) rfl rfl)] at hP1
    exact hP1
  · rename_i ci kx x a r heq
    obtain ⟨h1, h2, h03, h3⟩ := h
    rw [hfl] at heq
    obtain ⟨C, T, N, hc, hkx, ht, hlk2⟩ := hF _ (ev_lu_in heq)
    obtain ⟨q1, q2, q3, q4, ty0, q5, q6⟩ := ev_cls ci C T N hc
    have q7 := (q6 kx hkx).2 ht
    refine va_put (v := .int x) (ty := .boolean) hx hb (ev_B_w hB) q1 ty0 q5 q2 hown (ev_B_K hB) hP (ev_D hok μ) hS a (by rw [ev_ws_at h1, ev_E_obj h2 q4]) hc kx hkx (ev_B_w hB _ hlk2) (fun _ h => h) q7.1 (by rw [q5 kx hkx]; exact congrArg some q7.2) (by rcases h03 with rfl | rfl <;> rfl) (by rcases h03 with rfl | rfl <;> rfl) (by simpa [q3] using hkx) hd (fun H1 locs1 hP1 hD1 hS1 => ?_)
    refine hk _ _ _ h3 H1 locs1 ls ?_ hS1 hl
    rw [ev_setf ht (Or.inr rfl), ev_ws_set h1 (μ' := (ev_up μ.1 a kx x, μ.2)) (by rw [ev_E_obj h2 q4]) (fun b hb => ev_E_eq (ev_up_ne hb) rfl rfl)] at hP1
    exact hP1
  · exact h.elim
end EvSound2
