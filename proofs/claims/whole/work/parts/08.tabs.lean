/-! ===== what is decided once for each class and method (by program, wip/whole/gen8.py) ===== -/
section EvTabs
/-- the law's words in their lists -/
def ev_tl : Nat → List Cond
  | 0 => k2_sels lw_privs
  | 1 => tables_1_1
  | 2 => tables_1_2
  | 3 => tables_1_3
  | 4 => tables_1_4
  | 5 => tables_1_5
  | 6 => tables_1_6
  | 7 => tables_1_7
  | 8 => tables_1_8
  | 9 => tables_1_9
  | 10 => tables_1_10
  | _ => []
theorem ev_tl_in {k j : Nat} {w : Cond} (h : (ev_tl k)[j]? = some w) : w ∈ lw_tbl := by
  have h1 := List.mem_of_getElem? h
  unfold lw_tbl
  match k, h1 with
  | 0, h1 => exact List.mem_append_left _ h1
  | 1, h1 => exact List.mem_append_right _ (by unfold tables_1; exact List.mem_append_left _ h1)
  | 2, h1 => exact List.mem_append_right _ (by unfold tables_1; exact List.mem_append_right _ (List.mem_append_left _ h1))
  | 3, h1 => exact List.mem_append_right _ (by unfold tables_1; exact List.mem_append_right _ (List.mem_append_right _ (List.mem_append_left _ h1)))
  | 4, h1 => exact List.mem_append_right _ (by unfold tables_1; exact List.mem_append_right _ (List.mem_append_right _ (List.mem_append_right _ (List.mem_append_left _ h1))))
  | 5, h1 => exact List.mem_append_right _ (by unfold tables_1; exact List.mem_append_right _ (List.mem_append_right _ (List.mem_append_right _ (List.mem_append_right _ (List.mem_append_left _ h1)))))
  | 6, h1 => exact List.mem_append_right _ (by unfold tables_1; exact List.mem_append_right _ (List.mem_append_right _ (List.mem_append_right _ (List.mem_append_right _ (List.mem_append_right _ (List.mem_append_left _ h1))))))
  | 7, h1 => exact List.mem_append_right _ (by unfold tables_1; exact List.mem_append_right _ (List.mem_append_right _ (List.mem_append_right _ (List.mem_append_right _ (List.mem_append_right _ (List.mem_append_right _ (List.mem_append_left _ h1)))))))
  | 8, h1 => exact List.mem_append_right _ (by unfold tables_1; exact List.mem_append_right _ (List.mem_append_right _ (List.mem_append_right _ (List.mem_append_right _ (List.mem_append_right _ (List.mem_append_right _ (List.mem_append_right _ (List.mem_append_left _ h1))))))))
  | 9, h1 => exact List.mem_append_right _ (by unfold tables_1; exact List.mem_append_right _ (List.mem_append_right _ (List.mem_append_right _ (List.mem_append_right _ (List.mem_append_right _ (List.mem_append_right _ (List.mem_append_right _ (List.mem_append_right _ (List.mem_append_left _ h1)))))))))
  | 10, h1 => exact List.mem_append_right _ (by unfold tables_1; exact List.mem_append_right _ (List.mem_append_right _ (List.mem_append_right _ (List.mem_append_right _ (List.mem_append_right _ (List.mem_append_right _ (List.mem_append_right _ (List.mem_append_right _ (List.mem_append_right _ (h1))))))))))
  | k + 11, h1 => exact absurd h1 (by simp [ev_tl])

def ev_memb : List Cond → List (Nat × Nat) → Bool
  | [], _ => true
  | w :: ws, h :: hs => decide ((ev_tl h.1)[h.2]? = some w) && ev_gw w && ev_memb ws hs
  | _ :: _, [] => false
theorem ev_memb_ok : ∀ {ws : List Cond} {hs : List (Nat × Nat)}, ev_memb ws hs = true → ∀ w ∈ ws, w ∈ ev_wd
  | [], _, _ => fun _ h => by cases h
  | w :: ws, [], h => by cases h
  | w :: ws, q :: hs, h => by
    unfold ev_memb at h
    simp only [Bool.and_eq_true, decide_eq_true_eq] at h
    intro w' hw'
    rcases List.mem_cons.mp hw' with rfl | hw'
    · exact List.mem_filter.mpr ⟨ev_tl_in h.1.1, h.1.2⟩
    · exact ev_memb_ok h.2 w' hw'
def ev_needF (own : String) (fl : List (Nat × Nat × Nat × Nat)) : List Cond := fl.map (fun e => match vwCl[e.2.1]? with
  | some (_, T, _) => Cond.fieldLink own e.1 (T e.2.2.1).1 (T e.2.2.1).2.1 (T e.2.2.1).2.2.1
  | none => .tt)
def ev_okFb (fl : List (Nat × Nat × Nat × Nat)) : Bool := fl.all (fun e => match vwCl[e.2.1]? with
  | some (_, _, N) => decide (e.2.2.1 < N) && decide ((ev_tc e.2.1)[e.2.2.1]? = some e.2.2.2)
  | none => false)
theorem ev_okF_of {own : String} {fl : List (Nat × Nat × Nat × Nat)} {hs : List (Nat × Nat)} (h : ev_okFb fl = true) (hm : ev_memb (ev_needF own fl) hs = true) : ev_okF own fl := by
  intro e he
  have h1 := List.all_eq_true.mp h e he
  have h2 := ev_memb_ok hm _ (List.mem_map.mpr ⟨e, he, rfl⟩)
  cases hv : vwCl[e.2.1]? with
  | none => rw [hv] at h1; cases h1
  | some q =>
    obtain ⟨C, T, N⟩ := q
    rw [hv] at h1 h2
    simp only [Bool.and_eq_true, decide_eq_true_eq] at h1
    exact ⟨C, T, N, rfl, h1.1, h1.2, h2⟩
/-- a call site without the depth -/
abbrev ev_Cs : Type := Nat × Nat × MethodName × ByteArray × Nat × Option FieldType × Nat × Nat
def ev_sp (e : Nat × ev_Ca) : ev_Cs := (e.1, e.2.1, e.2.2.1.1, e.2.2.1.2.1, e.2.2.1.2.2.1, e.2.2.1.2.2.2.1, e.2.2.2.1, e.2.2.2.2)
def ev_cn0 (c : Nat) : String := match vwCl[c]? with
  | some (C, _, _) => C
  | none => ""
def ev_needC1 (own : String) : ev_Cs → List Cond := fun (ix, kind, y, _, _, _, _, c) =>
  if kind = 0 then [.methodLink own ix y, .instanceMethod y, .selects (ev_cn0 c) y y, .initialized y.cls]
  else if kind = 1 then [.methodLink own ix y, .static y, .initialized y.cls]
  else if kind = 3 then [.methodLinkNest own ix y "PancakePanel", .static y, .initialized y.cls]
  else if kind = 10 then [.methodLink own ix Lib.Math.max.name]
  else if kind = 11 then [.methodLink own ix Lib.Math.min.name]
  else if kind = 12 then [.methodLink own ix Lib.Math.abs.name]
  else []
def ev_okC1 : ev_Cs → Bool := fun (_, kind, y, _, ml, _, na, c) => (decide (kind = 0) || decide (kind = 1) || decide (kind = 3) || decide (10 ≤ kind)) && (decide (10 ≤ kind) || (decide (ml ≤ 20) && decide (y.cls ≠ "java/lang/invoke/MethodHandle" ∧ y.cls ≠ "java/lang/invoke/VarHandle" ∧ (parseMethodDescriptor y.desc).map (fun d => d.parameters.length) = some na))) && (decide (kind ≠ 0) || decide (c < 10))
theorem ev_okC_of {own : String} {ca : List (Nat × ev_Ca)} {cs : List ev_Cs} {hs : List (Nat × Nat)} (hc : ca.map ev_sp = cs) (h : cs.all ev_okC1 = true) (hm : ev_memb (cs.flatMap (ev_needC1 own)) hs = true) (hcode : ∀ e ∈ cs, e.2.1 < 10 → Cond.code e.2.2.1 e.2.2.2.1 e.2.2.2.2.1 e.2.2.2.2.2.1 ∈ ev_wd) : ev_okC own ca := by
  intro e he
  have hin : ev_sp e ∈ cs := by rw [← hc]; exact List.mem_map.mpr ⟨e, he, rfl⟩
  have h1 := List.all_eq_true.mp h (ev_sp e) hin
  have h2 : ∀ w ∈ ev_needC1 own (ev_sp e), w ∈ ev_wd := fun w hw => ev_memb_ok hm w (List.mem_flatMap.mpr ⟨_, hin, hw⟩)
  have h0 := hcode _ hin
  obtain ⟨ix, kind, ⟨y, cb, ml, rt, dd⟩, na, c⟩ := e
  have h1 : ((decide (kind = 0) || decide (kind = 1) || decide (kind = 3) || decide (10 ≤ kind)) && (decide (10 ≤ kind) || (decide (ml ≤ 20) && decide (y.cls ≠ "java/lang/invoke/MethodHandle" ∧ y.cls ≠ "java/lang/invoke/VarHandle" ∧ (parseMethodDescriptor y.desc).map (fun d => d.parameters.length) = some na))) && (decide (kind ≠ 0) || decide (c < 10))) = true := h1
  have h2 : ∀ w ∈ (if kind = 0 then ([.methodLink own ix y, .instanceMethod y, .selects (ev_cn0 c) y y, .initialized y.cls] : List Cond)
  else if kind = 1 then [.methodLink own ix y, .static y, .initialized y.cls]
  else if kind = 3 then [.methodLinkNest own ix y "PancakePanel", .static y, .initialized y.cls]
  else if kind = 10 then [.methodLink own ix Lib.Math.max.name]
  else if kind = 11 then [.methodLink own ix Lib.Math.min.name]
  else if kind = 12 then [.methodLink own ix Lib.Math.abs.name]
  else []), w ∈ ev_wd := h2
  have h0 : kind < 10 → Cond.code y cb ml rt ∈ ev_wd := h0
  simp only [Bool.and_eq_true, Bool.or_eq_true, decide_eq_true_eq] at h1
  obtain ⟨⟨h3, h4⟩, h5⟩ := h1
  refine ⟨?_, ?_, ?_, ?_, ?_, ?_, ?_⟩
  · intro hk
    have hk : kind = 0 := hk
    rw [if_pos hk] at h2
    have h6 : c < 10 := by rcases h5 with h5 | h5; exact absurd hk h5; exact h5
    have h7 : ∃ q, vwCl[c]? = some q := ⟨_, List.getElem?_eq_getElem (show c < vwCl.length from h6)⟩
    obtain ⟨⟨C, T, N⟩, h7⟩ := h7
    have h8 : ev_cn0 c = C := by unfold ev_cn0; rw [h7]
    rw [h8] at h2
    exact ⟨C, T, N, h7, h2 _ (by simp), h2 _ (by simp), h2 _ (by simp)⟩
  · intro hk
    have hk : kind = 1 := hk
    rw [if_neg (by omega), if_pos hk] at h2
    exact ⟨h2 _ (by simp), h2 _ (by simp)⟩
  · intro hk
    have hk : kind = 3 := hk
    rw [if_neg (by omega), if_neg (by omega), if_pos hk] at h2
    exact ⟨"PancakePanel", h2 _ (by simp), h2 _ (by simp)⟩
  · intro hk
    have hk : kind < 10 := hk
    have h6 : ml ≤ 20 ∧ (y.cls ≠ "java/lang/invoke/MethodHandle" ∧ y.cls ≠ "java/lang/invoke/VarHandle" ∧ (parseMethodDescriptor y.desc).map (fun d => d.parameters.length) = some na) := by
      rcases h4 with h4 | h4
      · exact absurd hk (by omega)
      · exact h4
    have h9 : kind = 0 ∨ kind = 1 ∨ kind = 3 := by omega
    rcases h9 with q | q | q
    · rw [if_pos q] at h2
      exact ⟨h2 _ (by simp), h0 hk, h6.1, h6.2⟩
    · rw [if_neg (by omega), if_pos q] at h2
      exact ⟨h2 _ (by simp), h0 hk, h6.1, h6.2⟩
    · rw [if_neg (by omega), if_neg (by omega), if_pos q] at h2
      exact ⟨h2 _ (by simp), h0 hk, h6.1, h6.2⟩
  · intro hk
    have hk : kind = 10 := hk
    rw [if_neg (by omega), if_neg (by omega), if_neg (by omega), if_pos hk] at h2
    exact h2 _ (by simp)
  · intro hk
    have hk : kind = 11 := hk
    rw [if_neg (by omega), if_neg (by omega), if_neg (by omega), if_neg (by omega), if_pos hk] at h2
    exact h2 _ (by simp)
  · intro hk
    have hk : kind = 12 := hk
    rw [if_neg (by omega), if_neg (by omega), if_neg (by omega), if_neg (by omega), if_neg (by omega), if_pos hk] at h2
    exact h2 _ (by simp)
theorem ev_cw {k j : Nat} {y : MethodName} {cb : ByteArray} {ml : Nat} {rt : Option FieldType} (h : (ev_tl k)[j]? = some (Cond.code y cb ml rt)) : Cond.code y cb ml rt ∈ ev_wd := List.mem_filter.mpr ⟨ev_tl_in h, rfl⟩
/-- an exception's words -/
def ev_okE (own : String) (ik ic : Nat) (E : String) : Prop := Bundle.fit E = true ∧ Cond.classLink own ik E ∈ ev_wd ∧ Cond.initialized E ∈ ev_wd ∧ (∀ w ∈ vx_atS own ic E ev_nms, w ∈ ev_wd) ∧ (∀ w ∈ Cond.classLink own ik E :: Cond.initialized E :: vx_atS own ic E ev_nms, vx_ot w = true)
/-- a place of a throw: pc, the places of class, text and constructor, the text, the class; where its text's word stands -/
abbrev ev_Si : Type := Nat × Nat × Nat × Nat × String × String × Nat × Nat
def ev_okNb (own : String) (cc : ByteArray) (q : ev_Si) : Bool := match q with
  | (pc, _, is, ic, tx, _, k, j) => decide ((ev_tl k)[j]? = some (Cond.stringRef own is tx)) &&
    ((decide (decode cc (pc + 3) = .ok (.dup, 1)) && decide (decode cc (pc + 4) = .ok (.ldc is, 2)) && decide (decode cc (pc + 6) = .ok (.invokespecial ic, 3)) && decide (decode cc (pc + 9) = .ok (.athrow, 1))) || (decide (decode cc (pc + 3) = .ok (.dup, 1)) && decide (decode cc (pc + 4) = .ok (.ldc_w is, 3)) && decide (decode cc (pc + 7) = .ok (.invokespecial ic, 3)) && decide (decode cc (pc + 10) = .ok (.athrow, 1))))
theorem ev_okN_of {own : String} {cc : ByteArray} {pc ik is ic k j : Nat} {tx E : String} (hE : ev_okE own ik ic E) (h : ev_okNb own cc (pc, ik, is, ic, tx, E, k, j) = true) : ev_okN own cc pc ik E := by
  simp only [ev_okNb, Bool.and_eq_true, Bool.or_eq_true, decide_eq_true_eq] at h
  obtain ⟨h4, h7⟩ := h
  obtain ⟨a1, a2, a3, a5, a6⟩ := hE
  refine ⟨is, ic, tx, a1, a2, a3, ev_tl_in h4, a5, a6, ?_⟩
  rcases h7 with ⟨⟨⟨a, b⟩, c⟩, d⟩ | ⟨⟨⟨a, b⟩, c⟩, d⟩
  · exact Or.inl ⟨a, b, c, d⟩
  · exact Or.inr ⟨a, b, c, d⟩
def ev_okMb (own : String) (y : MethodName) (cc : ByteArray) (ml : Nat) (rt : Option FieldType) (cd : List (Nat × Instr)) (th : List (Nat × String)) (nL : Nat) (z : Bool) (si : List ev_Si) : Bool :=
  decide (y.cls = own) && plainName own && ev_okc cc cd && decide (ml = nL) && (decide (rt = (if z then some .boolean else some .int)) || decide (rt = none) || decide (rt = some .long)) &&
  cd.all (fun x => match x.2 with
    | .new n => (match ev_lu th n with
      | some E => si.any (fun q => decide (q.1 = x.1) && decide (q.2.1 = n) && decide (q.2.2.2.2.2.1 = E))
      | none => true)
    | .ireturn => decide (rt = (if z then some .boolean else some .int))
    | .return_ => decide (rt = none)
    | .lreturn => decide (rt = some .long)
    | _ => true) && si.all (ev_okNb own cc)
def ev_okK (own : String) (ko : List (Nat × Int32)) (kl : List (Nat × Int64)) : Prop := (∀ q ∈ ko, Cond.constant own q.1 q.2 ∈ ev_wd) ∧ ∀ q ∈ kl, Cond.constantLong own q.1 q.2 ∈ ev_wd
theorem ev_okM_of {own : String} {y : ev_Mi} {cd : List (Nat × Instr)} {fl : List (Nat × Nat × Nat × Nat)} {ca : List (Nat × ev_Ca)} {th : List (Nat × String)} {ko : List (Nat × Int32)} {kl : List (Nat × Int64)} {nL : Nat} {z : Bool} (si : List ev_Si) (hF : ev_okF own fl) (hC : ev_okC own ca) (hKo : ev_okK own ko kl)
    (hE : ∀ q ∈ si, ev_okE own q.2.1 q.2.2.2.1 q.2.2.2.2.2.1)
    (h : ev_okMb own y.1 y.2.1 y.2.2.1 y.2.2.2.1 cd th nL z si = true) : ev_okM own y (ev_lu fl, ev_lu ca, ev_lu th, ev_lu ko, ev_lu kl, nL, z) cd := by
  unfold ev_okMb at h
  rw [Bool.and_eq_true, Bool.and_eq_true, Bool.and_eq_true, Bool.and_eq_true, Bool.and_eq_true, Bool.and_eq_true] at h
  obtain ⟨⟨⟨⟨⟨⟨h1, h2⟩, h3⟩, h4⟩, h5⟩, h6⟩, h7⟩ := h
  have h6 := List.all_eq_true.mp h6
  have h7 := List.all_eq_true.mp h7
  refine ⟨of_decide_eq_true h1, h2, h3, of_decide_eq_true h4, ?_, ⟨fl, rfl, hF⟩, ⟨ca, rfl, hC⟩, ?_, fun n v hn => hKo.1 _ (ev_lu_in hn), fun n v hn => hKo.2 _ (ev_lu_in hn), ?_, ?_, ?_⟩
  · simp only [Bool.or_eq_true, decide_eq_true_eq] at h5
    rcases h5 with (h5 | h5) | h5
    · exact Or.inl h5
    · exact Or.inr (Or.inl h5)
    · exact Or.inr (Or.inr h5)
  · intro x hx n hn E hE9
    have h10 := h6 x hx
    rw [hn] at h10
    have hE9 : ev_lu th n = some E := hE9
    simp only [hE9] at h10
    obtain ⟨q, hq, h11⟩ := List.any_eq_true.mp h10
    simp only [Bool.and_eq_true, decide_eq_true_eq] at h11
    obtain ⟨⟨e1, e2⟩, e3⟩ := h11
    have h12 := hE q hq
    have h13 := h7 q hq
    obtain ⟨pc, ik, is, ic, tx, E2, k, j⟩ := q
    have e1 : pc = x.1 := e1
    have e2 : ik = n := e2
    have e3 : E2 = E := e3
    subst e1; subst e2; subst e3
    exact ev_okN_of h12 h13
  · intro x hx hn
    have h10 := h6 x hx
    rw [hn] at h10
    exact of_decide_eq_true h10
  · intro x hx hn
    have h10 := h6 x hx
    rw [hn] at h10
    exact of_decide_eq_true h10
  · intro x hx hn
    have h10 := h6 x hx
    rw [hn] at h10
    exact of_decide_eq_true h10
end EvTabs
set_option maxRecDepth 100000 in
theorem cw_X1_init : Cond.code yX1_init cX1_init 2 none ∈ ev_wd := ev_cw (k := 1) (j := 39) rfl
set_option maxRecDepth 100000 in
theorem cw_X1_empty : Cond.code yX1_empty cX1_empty 1 none ∈ ev_wd := ev_cw (k := 4) (j := 70) rfl
set_option maxRecDepth 100000 in
theorem cw_X1_get : Cond.code yX1_get cX1_get 2 (some .int) ∈ ev_wd := ev_cw (k := 2) (j := 205) rfl
set_option maxRecDepth 100000 in
theorem cw_X1_add : Cond.code yX1_add cX1_add 2 none ∈ ev_wd := ev_cw (k := 2) (j := 72) rfl
set_option maxRecDepth 100000 in
theorem cw_X1_addFourBytes : Cond.code yX1_addFourBytes cX1_addFourBytes 3 none ∈ ev_wd := ev_cw (k := 2) (j := 68) rfl
set_option maxRecDepth 100000 in
theorem cw_X1_addWord : Cond.code yX1_addWord cX1_addWord 5 none ∈ ev_wd := ev_cw (k := 6) (j := 90) rfl
set_option maxRecDepth 100000 in
theorem cw_X1_addNumber : Cond.code yX1_addNumber cX1_addNumber 6 none ∈ ev_wd := ev_cw (k := 6) (j := 96) rfl
set_option maxRecDepth 100000 in
theorem cw_X2_init : Cond.code yX2_init cX2_init 2 none ∈ ev_wd := ev_cw (k := 2) (j := 23) rfl
set_option maxRecDepth 100000 in
theorem cw_X2_forget : Cond.code yX2_forget cX2_forget 1 none ∈ ev_wd := ev_cw (k := 4) (j := 118) rfl
set_option maxRecDepth 100000 in
theorem cw_X2_remember : Cond.code yX2_remember cX2_remember 2 none ∈ ev_wd := ev_cw (k := 6) (j := 127) rfl
set_option maxRecDepth 100000 in
theorem cw_X2_bringBack : Cond.code yX2_bringBack cX2_bringBack 2 none ∈ ev_wd := ev_cw (k := 6) (j := 195) rfl
set_option maxRecDepth 100000 in
theorem cw_X4_init : Cond.code yX4_init cX4_init 1 none ∈ ev_wd := ev_cw (k := 1) (j := 63) rfl
set_option maxRecDepth 100000 in
theorem cw_X4_clear : Cond.code yX4_clear cX4_clear 1 none ∈ ev_wd := ev_cw (k := 2) (j := 176) rfl
set_option maxRecDepth 100000 in
theorem cw_X4_copyFrom : Cond.code yX4_copyFrom cX4_copyFrom 2 none ∈ ev_wd := ev_cw (k := 4) (j := 90) rfl
set_option maxRecDepth 100000 in
theorem cw_X4_name : Cond.code yX4_name cX4_name 2 (some .long) ∈ ev_wd := ev_cw (k := 3) (j := 68) rfl
set_option maxRecDepth 100000 in
theorem cw_X4_personNamed : Cond.code yX4_personNamed cX4_personNamed 4 (some .int) ∈ ev_wd := ev_cw (k := 3) (j := 64) rfl
set_option maxRecDepth 100000 in
theorem cw_X4_addPerson : Cond.code yX4_addPerson cX4_addPerson 4 none ∈ ev_wd := ev_cw (k := 3) (j := 72) rfl
set_option maxRecDepth 100000 in
theorem cw_X4_isOneOfTasters : Cond.code yX4_isOneOfTasters cX4_isOneOfTasters 2 (some .boolean) ∈ ev_wd := ev_cw (k := 3) (j := 85) rfl
set_option maxRecDepth 100000 in
theorem cw_X4_addPancake : Cond.code yX4_addPancake cX4_addPancake 2 none ∈ ev_wd := ev_cw (k := 3) (j := 99) rfl
set_option maxRecDepth 100000 in
theorem cw_X4_swapTopics : Cond.code yX4_swapTopics cX4_swapTopics 4 none ∈ ev_wd := ev_cw (k := 4) (j := 32) rfl
set_option maxRecDepth 100000 in
theorem cw_X4_joinCooks : Cond.code yX4_joinCooks cX4_joinCooks 3 none ∈ ev_wd := ev_cw (k := 3) (j := 133) rfl
set_option maxRecDepth 100000 in
theorem cw_X4_copyBids : Cond.code yX4_copyBids cX4_copyBids 4 none ∈ ev_wd := ev_cw (k := 4) (j := 57) rfl
set_option maxRecDepth 100000 in
theorem cw_X4_liking : Cond.code yX4_liking cX4_liking 3 (some .int) ∈ ev_wd := ev_cw (k := 3) (j := 187) rfl
set_option maxRecDepth 100000 in
theorem cw_X4_mostLiked : Cond.code yX4_mostLiked cX4_mostLiked 6 (some .int) ∈ ev_wd := ev_cw (k := 5) (j := 40) rfl
set_option maxRecDepth 100000 in
theorem cw_X4_conflictReason : Cond.code yX4_conflictReason cX4_conflictReason 8 (some .int) ∈ ev_wd := ev_cw (k := 3) (j := 152) rfl
set_option maxRecDepth 100000 in
theorem cw_X4_tastersInConflict : Cond.code yX4_tastersInConflict cX4_tastersInConflict 4 (some .int) ∈ ev_wd := ev_cw (k := 5) (j := 29) rfl
set_option maxRecDepth 100000 in
theorem cw_X4_load : Cond.code yX4_load cX4_load 4 (some .int) ∈ ev_wd := ev_cw (k := 3) (j := 165) rfl
set_option maxRecDepth 100000 in
theorem cw_X4_refusalReason : Cond.code yX4_refusalReason cX4_refusalReason 4 (some .int) ∈ ev_wd := ev_cw (k := 3) (j := 146) rfl
set_option maxRecDepth 100000 in
theorem cw_X4_bestFor : Cond.code yX4_bestFor cX4_bestFor 4 (some .int) ∈ ev_wd := ev_cw (k := 3) (j := 178) rfl
set_option maxRecDepth 100000 in
theorem cw_X4_isBetter : Cond.code yX4_isBetter cX4_isBetter 5 (some .boolean) ∈ ev_wd := ev_cw (k := 3) (j := 183) rfl
set_option maxRecDepth 100000 in
theorem cw_X4_takeSeat : Cond.code yX4_takeSeat cX4_takeSeat 3 none ∈ ev_wd := ev_cw (k := 3) (j := 214) rfl
set_option maxRecDepth 100000 in
theorem cw_X4_clearSeats : Cond.code yX4_clearSeats cX4_clearSeats 3 none ∈ ev_wd := ev_cw (k := 4) (j := 40) rfl
set_option maxRecDepth 100000 in
theorem cw_X4_takenSeats : Cond.code yX4_takenSeats cX4_takenSeats 3 (some .int) ∈ ev_wd := ev_cw (k := 5) (j := 94) rfl
set_option maxRecDepth 100000 in
theorem cw_X4_freeSeats : Cond.code yX4_freeSeats cX4_freeSeats 1 (some .int) ∈ ev_wd := ev_cw (k := 5) (j := 90) rfl
set_option maxRecDepth 100000 in
theorem cw_X4_fillSeats : Cond.code yX4_fillSeats cX4_fillSeats 6 (some .int) ∈ ev_wd := ev_cw (k := 3) (j := 169) rfl
set_option maxRecDepth 100000 in
theorem cw_X4_neediest : Cond.code yX4_neediest cX4_neediest 6 (some .int) ∈ ev_wd := ev_cw (k := 3) (j := 174) rfl
set_option maxRecDepth 100000 in
theorem cw_X4_makeMove : Cond.code yX4_makeMove cX4_makeMove 5 (some .boolean) ∈ ev_wd := ev_cw (k := 3) (j := 192) rfl
set_option maxRecDepth 100000 in
theorem cw_X4_isDisputed : Cond.code yX4_isDisputed cX4_isDisputed 2 (some .boolean) ∈ ev_wd := ev_cw (k := 5) (j := 202) rfl
set_option maxRecDepth 100000 in
theorem cw_X4_loadSum : Cond.code yX4_loadSum cX4_loadSum 3 (some .int) ∈ ev_wd := ev_cw (k := 6) (j := 73) rfl
set_option maxRecDepth 100000 in
theorem cw_X4_seatsInConflict : Cond.code yX4_seatsInConflict cX4_seatsInConflict 4 (some .int) ∈ ev_wd := ev_cw (k := 6) (j := 61) rfl
set_option maxRecDepth 100000 in
theorem cw_X4_overloadedTasters : Cond.code yX4_overloadedTasters cX4_overloadedTasters 3 (some .int) ∈ ev_wd := ev_cw (k := 6) (j := 65) rfl
set_option maxRecDepth 100000 in
theorem cw_X4_scoresWithoutSeat : Cond.code yX4_scoresWithoutSeat cX4_scoresWithoutSeat 4 (some .int) ∈ ev_wd := ev_cw (k := 6) (j := 69) rfl
set_option maxRecDepth 100000 in
theorem cw_X5_init : Cond.code yX5_init cX5_init 1 none ∈ ev_wd := ev_cw (k := 1) (j := 87) rfl
set_option maxRecDepth 100000 in
theorem cw_X5_size : Cond.code yX5_size cX5_size 2 (some .int) ∈ ev_wd := ev_cw (k := 3) (j := 156) rfl
set_option maxRecDepth 100000 in
theorem cw_X5_member : Cond.code yX5_member cX5_member 4 (some .int) ∈ ev_wd := ev_cw (k := 3) (j := 160) rfl
set_option maxRecDepth 100000 in
theorem cw_X5_contains : Cond.code yX5_contains cX5_contains 6 (some .boolean) ∈ ev_wd := ev_cw (k := 3) (j := 103) rfl
set_option maxRecDepth 100000 in
theorem cw_X5_add : Cond.code yX5_add cX5_add 4 none ∈ ev_wd := ev_cw (k := 3) (j := 107) rfl
set_option maxRecDepth 100000 in
theorem cw_X5_remove : Cond.code yX5_remove cX5_remove 7 none ∈ ev_wd := ev_cw (k := 3) (j := 201) rfl
set_option maxRecDepth 100000 in
theorem cw_X5_clear : Cond.code yX5_clear cX5_clear 1 none ∈ ev_wd := ev_cw (k := 2) (j := 191) rfl
set_option maxRecDepth 100000 in
theorem cw_X5_copyFrom : Cond.code yX5_copyFrom cX5_copyFrom 2 none ∈ ev_wd := ev_cw (k := 4) (j := 108) rfl
set_option maxRecDepth 100000 in
theorem cw_X6_init : Cond.code yX6_init cX6_init 1 none ∈ ev_wd := ev_cw (k := 1) (j := 100) rfl
set_option maxRecDepth 100000 in
theorem cw_X6_clear : Cond.code yX6_clear cX6_clear 1 none ∈ ev_wd := ev_cw (k := 2) (j := 196) rfl
set_option maxRecDepth 100000 in
theorem cw_X6_copyFrom : Cond.code yX6_copyFrom cX6_copyFrom 2 none ∈ ev_wd := ev_cw (k := 4) (j := 113) rfl
set_option maxRecDepth 100000 in
theorem cw_X6_given : Cond.code yX6_given cX6_given 3 (some .int) ∈ ev_wd := ev_cw (k := 3) (j := 196) rfl
set_option maxRecDepth 100000 in
theorem cw_X6_put : Cond.code yX6_put cX6_put 6 none ∈ ev_wd := ev_cw (k := 3) (j := 218) rfl
set_option maxRecDepth 100000 in
theorem cw_X6_countFor : Cond.code yX6_countFor cX6_countFor 4 (some .int) ∈ ev_wd := ev_cw (k := 4) (j := 0) rfl
set_option maxRecDepth 100000 in
theorem cw_X6_mean : Cond.code yX6_mean cX6_mean 6 (some .int) ∈ ev_wd := ev_cw (k := 5) (j := 129) rfl
set_option maxRecDepth 100000 in
theorem cw_X6_meanOfAll : Cond.code yX6_meanOfAll cX6_meanOfAll 1 (some .int) ∈ ev_wd := ev_cw (k := 5) (j := 160) rfl
set_option maxRecDepth 100000 in
theorem cw_X6_personWithLeastMean : Cond.code yX6_personWithLeastMean cX6_personWithLeastMean 5 (some .int) ∈ ev_wd := ev_cw (k := 5) (j := 140) rfl
set_option maxRecDepth 100000 in
theorem cw_X6_adjusted : Cond.code yX6_adjusted cX6_adjusted 3 (some .int) ∈ ev_wd := ev_cw (k := 5) (j := 156) rfl
set_option maxRecDepth 100000 in
theorem cw_X6_total : Cond.code yX6_total cX6_total 5 (some .int) ∈ ev_wd := ev_cw (k := 5) (j := 164) rfl
set_option maxRecDepth 100000 in
theorem cw_X6_spread : Cond.code yX6_spread cX6_spread 7 (some .int) ∈ ev_wd := ev_cw (k := 5) (j := 191) rfl
set_option maxRecDepth 100000 in
theorem cw_X6_distanceFromTotals : Cond.code yX6_distanceFromTotals cX6_distanceFromTotals 4 (some .int) ∈ ev_wd := ev_cw (k := 5) (j := 152) rfl
set_option maxRecDepth 100000 in
theorem cw_X6_rank : Cond.code yX6_rank cX6_rank 4 (some .int) ∈ ev_wd := ev_cw (k := 5) (j := 223) rfl
set_option maxRecDepth 100000 in
theorem cw_X6_pancakeWithRank : Cond.code yX6_pancakeWithRank cX6_pancakeWithRank 3 (some .int) ∈ ev_wd := ev_cw (k := 5) (j := 239) rfl
set_option maxRecDepth 100000 in
theorem cw_X6_comesBefore : Cond.code yX6_comesBefore cX6_comesBefore 6 (some .boolean) ∈ ev_wd := ev_cw (k := 5) (j := 227) rfl
set_option maxRecDepth 100000 in
theorem cw_X6_canBeTalkedOver : Cond.code yX6_canBeTalkedOver cX6_canBeTalkedOver 2 (some .boolean) ∈ ev_wd := ev_cw (k := 3) (j := 236) rfl
set_option maxRecDepth 100000 in
theorem cw_X6_middle : Cond.code yX6_middle cX6_middle 8 (some .int) ∈ ev_wd := ev_cw (k := 4) (j := 8) rfl
set_option maxRecDepth 100000 in
theorem cw_X6_holdTalk : Cond.code yX6_holdTalk cX6_holdTalk 6 (some .int) ∈ ev_wd := ev_cw (k := 4) (j := 4) rfl
set_option maxRecDepth 100000 in
theorem cw_X6_makeEven : Cond.code yX6_makeEven cX6_makeEven 4 none ∈ ev_wd := ev_cw (k := 4) (j := 49) rfl
set_option maxRecDepth 100000 in
theorem cw_X7_init : Cond.code yX7_init cX7_init 1 none ∈ ev_wd := ev_cw (k := 1) (j := 57) rfl
set_option maxRecDepth 100000 in
theorem cw_X7_parse : Cond.code yX7_parse cX7_parse 6 (some .boolean) ∈ ev_wd := ev_cw (k := 2) (j := 172) rfl
set_option maxRecDepth 100000 in
theorem cw_X7_readHead : Cond.code yX7_readHead cX7_readHead 1 none ∈ ev_wd := ev_cw (k := 2) (j := 236) rfl
set_option maxRecDepth 100000 in
theorem cw_X7_readItem : Cond.code yX7_readItem cX7_readItem 2 (some .boolean) ∈ ev_wd := ev_cw (k := 3) (j := 31) rfl
set_option maxRecDepth 100000 in
theorem cw_X7_keyword : Cond.code yX7_keyword cX7_keyword 2 (some (.object "PancakePanel$Keyword")) ∈ ev_wd := ev_cw (k := 3) (j := 0) rfl
set_option maxRecDepth 100000 in
theorem cw_X7_isOneTooMany : Cond.code yX7_isOneTooMany cX7_isOneTooMany 2 (some .boolean) ∈ ev_wd := ev_cw (k := 3) (j := 35) rfl
set_option maxRecDepth 100000 in
theorem cw_X7_readPerson : Cond.code yX7_readPerson cX7_readPerson 4 none ∈ ev_wd := ev_cw (k := 3) (j := 53) rfl
set_option maxRecDepth 100000 in
theorem cw_X7_readTaster : Cond.code yX7_readTaster cX7_readTaster 4 none ∈ ev_wd := ev_cw (k := 3) (j := 77) rfl
set_option maxRecDepth 100000 in
theorem cw_X7_readPancake : Cond.code yX7_readPancake cX7_readPancake 4 none ∈ ev_wd := ev_cw (k := 3) (j := 95) rfl
set_option maxRecDepth 100000 in
theorem cw_X7_readBid : Cond.code yX7_readBid cX7_readBid 4 none ∈ ev_wd := ev_cw (k := 3) (j := 113) rfl
set_option maxRecDepth 100000 in
theorem cw_X7_readTogether : Cond.code yX7_readTogether cX7_readTogether 3 none ∈ ev_wd := ev_cw (k := 3) (j := 125) rfl
set_option maxRecDepth 100000 in
theorem cw_X7_readConflict : Cond.code yX7_readConflict cX7_readConflict 3 none ∈ ev_wd := ev_cw (k := 3) (j := 138) rfl
set_option maxRecDepth 100000 in
theorem cw_X7_readSeat : Cond.code yX7_readSeat cX7_readSeat 3 none ∈ ev_wd := ev_cw (k := 3) (j := 142) rfl
set_option maxRecDepth 100000 in
theorem cw_X7_readLeave : Cond.code yX7_readLeave cX7_readLeave 3 none ∈ ev_wd := ev_cw (k := 3) (j := 206) rfl
set_option maxRecDepth 100000 in
theorem cw_X7_readScore : Cond.code yX7_readScore cX7_readScore 4 none ∈ ev_wd := ev_cw (k := 3) (j := 223) rfl
set_option maxRecDepth 100000 in
theorem cw_X7_readTalk : Cond.code yX7_readTalk cX7_readTalk 2 none ∈ ev_wd := ev_cw (k := 3) (j := 228) rfl
set_option maxRecDepth 100000 in
theorem cw_X7_readLimit : Cond.code yX7_readLimit cX7_readLimit 3 none ∈ ev_wd := ev_cw (k := 4) (j := 20) rfl
set_option maxRecDepth 100000 in
theorem cw_X7_readKitchen : Cond.code yX7_readKitchen cX7_readKitchen 3 none ∈ ev_wd := ev_cw (k := 4) (j := 24) rfl
set_option maxRecDepth 100000 in
theorem cw_X7_readSwap : Cond.code yX7_readSwap cX7_readSwap 3 none ∈ ev_wd := ev_cw (k := 4) (j := 28) rfl
set_option maxRecDepth 100000 in
theorem cw_X7_readClear : Cond.code yX7_readClear cX7_readClear 2 none ∈ ev_wd := ev_cw (k := 4) (j := 36) rfl
set_option maxRecDepth 100000 in
theorem cw_X7_readEven : Cond.code yX7_readEven cX7_readEven 2 none ∈ ev_wd := ev_cw (k := 4) (j := 45) rfl
set_option maxRecDepth 100000 in
theorem cw_X7_readCopy : Cond.code yX7_readCopy cX7_readCopy 3 none ∈ ev_wd := ev_cw (k := 4) (j := 53) rfl
set_option maxRecDepth 100000 in
theorem cw_X7_beginRepeat : Cond.code yX7_beginRepeat cX7_beginRepeat 2 (some .boolean) ∈ ev_wd := ev_cw (k := 4) (j := 61) rfl
set_option maxRecDepth 100000 in
theorem cw_X7_endPass : Cond.code yX7_endPass cX7_endPass 3 (some .boolean) ∈ ev_wd := ev_cw (k := 4) (j := 65) rfl
set_option maxRecDepth 100000 in
theorem cw_X7_number : Cond.code yX7_number cX7_number 5 (some .int) ∈ ev_wd := ev_cw (k := 3) (j := 26) rfl
set_option maxRecDepth 100000 in
theorem cw_X7_pancake : Cond.code yX7_pancake cX7_pancake 1 (some .int) ∈ ev_wd := ev_cw (k := 3) (j := 121) rfl
set_option maxRecDepth 100000 in
theorem cw_X7_person : Cond.code yX7_person cX7_person 2 (some .int) ∈ ev_wd := ev_cw (k := 3) (j := 81) rfl
set_option maxRecDepth 100000 in
theorem cw_X7_checkName : Cond.code yX7_checkName cX7_checkName 1 none ∈ ev_wd := ev_cw (k := 3) (j := 57) rfl
set_option maxRecDepth 100000 in
theorem cw_X7_checkTaster : Cond.code yX7_checkTaster cX7_checkTaster 2 none ∈ ev_wd := ev_cw (k := 3) (j := 117) rfl
set_option maxRecDepth 100000 in
theorem cw_X7_checkSeat : Cond.code yX7_checkSeat cX7_checkSeat 3 none ∈ ev_wd := ev_cw (k := 3) (j := 210) rfl
set_option maxRecDepth 100000 in
theorem cw_X7_checkScores : Cond.code yX7_checkScores cX7_checkScores 2 none ∈ ev_wd := ev_cw (k := 3) (j := 232) rfl
set_option maxRecDepth 100000 in
theorem cw_X7_fail : Cond.code yX7_fail cX7_fail 3 none ∈ ev_wd := ev_cw (k := 3) (j := 18) rfl
set_option maxRecDepth 100000 in
theorem cw_X8_init : Cond.code yX8_init cX8_init 3 none ∈ ev_wd := ev_cw (k := 1) (j := 69) rfl
set_option maxRecDepth 100000 in
theorem cw_X8_get : Cond.code yX8_get cX8_get 3 (some .int) ∈ ev_wd := ev_cw (k := 3) (j := 129) rfl
set_option maxRecDepth 100000 in
theorem cw_X8_set : Cond.code yX8_set cX8_set 4 none ∈ ev_wd := ev_cw (k := 3) (j := 90) rfl
set_option maxRecDepth 100000 in
theorem cw_X8_clear : Cond.code yX8_clear cX8_clear 1 none ∈ ev_wd := ev_cw (k := 2) (j := 186) rfl
set_option maxRecDepth 100000 in
theorem cw_X8_copyFrom : Cond.code yX8_copyFrom cX8_copyFrom 2 none ∈ ev_wd := ev_cw (k := 4) (j := 103) rfl
set_option maxRecDepth 100000 in
theorem cw_X9_init : Cond.code yX9_init cX9_init 1 none ∈ ev_wd := ev_cw (k := 1) (j := 211) rfl
set_option maxRecDepth 100000 in
theorem cw_X9_split : Cond.code yX9_split cX9_split 5 none ∈ ev_wd := ev_cw (k := 2) (j := 201) rfl
set_option maxRecDepth 100000 in
theorem cw_X9_kind : Cond.code yX9_kind cX9_kind 2 (some .int) ∈ ev_wd := ev_cw (k := 3) (j := 4) rfl
set_option maxRecDepth 100000 in
theorem cw_X9_start : Cond.code yX9_start cX9_start 2 (some .int) ∈ ev_wd := ev_cw (k := 3) (j := 22) rfl
set_option maxRecDepth 100000 in
theorem cw_X9_value : Cond.code yX9_value cX9_value 2 (some .long) ∈ ev_wd := ev_cw (k := 3) (j := 10) rfl
set_option maxRecDepth 100000 in
theorem cw_X9_add : Cond.code yX9_add cX9_add 5 none ∈ ev_wd := ev_cw (k := 2) (j := 219) rfl
set_option maxRecDepth 100000 in
theorem cw_X9_addWordAt : Cond.code yX9_addWordAt cX9_addWordAt 6 none ∈ ev_wd := ev_cw (k := 2) (j := 215) rfl
set_option maxRecDepth 100000 in
theorem cw_X9_addNumberAt : Cond.code yX9_addNumberAt cX9_addNumberAt 6 none ∈ ev_wd := ev_cw (k := 2) (j := 227) rfl
set_option maxRecDepth 100000 in
theorem cw_X9_isLetter : Cond.code yX9_isLetter cX9_isLetter 1 (some .boolean) ∈ ev_wd := ev_cw (k := 2) (j := 211) rfl
set_option maxRecDepth 100000 in
theorem cw_X9_isDigit : Cond.code yX9_isDigit cX9_isDigit 1 (some .boolean) ∈ ev_wd := ev_cw (k := 2) (j := 223) rfl
set_option maxRecDepth 100000 in
theorem cw_X9_kindOf : Cond.code yX9_kindOf cX9_kindOf 1 (some .int) ∈ ev_wd := ev_cw (k := 2) (j := 232) rfl
set_option maxRecDepth 100000 in
theorem cw_X10_init : Cond.code yX10_init cX10_init 2 none ∈ ev_wd := ev_cw (k := 1) (j := 31) rfl
set_option maxRecDepth 100000 in
theorem cw_X10_append : Cond.code yX10_append cX10_append 6 (some .int) ∈ ev_wd := ev_cw (k := 2) (j := 64) rfl
set_option maxRecDepth 100000 in
theorem cw_X10_parseSetup : Cond.code yX10_parseSetup cX10_parseSetup 4 (some .int) ∈ ev_wd := ev_cw (k := 2) (j := 100) rfl
set_option maxRecDepth 100000 in
theorem cw_X10_parseErrorCode : Cond.code yX10_parseErrorCode cX10_parseErrorCode 1 (some .int) ∈ ev_wd := ev_cw (k := 2) (j := 79) rfl
set_option maxRecDepth 100000 in
theorem cw_X10_parseErrorPosition : Cond.code yX10_parseErrorPosition cX10_parseErrorPosition 1 (some .int) ∈ ev_wd := ev_cw (k := 2) (j := 83) rfl
set_option maxRecDepth 100000 in
theorem cw_X10_bufferLength : Cond.code yX10_bufferLength cX10_bufferLength 1 (some .int) ∈ ev_wd := ev_cw (k := 2) (j := 87) rfl
set_option maxRecDepth 100000 in
theorem cw_X10_pancakeCount : Cond.code yX10_pancakeCount cX10_pancakeCount 1 (some .int) ∈ ev_wd := ev_cw (k := 4) (j := 126) rfl
set_option maxRecDepth 100000 in
theorem cw_X10_topicOf : Cond.code yX10_topicOf cX10_topicOf 2 (some .int) ∈ ev_wd := ev_cw (k := 4) (j := 153) rfl
set_option maxRecDepth 100000 in
theorem cw_X10_cookCount : Cond.code yX10_cookCount cX10_cookCount 2 (some .int) ∈ ev_wd := ev_cw (k := 4) (j := 166) rfl
set_option maxRecDepth 100000 in
theorem cw_X10_cookAt : Cond.code yX10_cookAt cX10_cookAt 3 (some .int) ∈ ev_wd := ev_cw (k := 4) (j := 174) rfl
set_option maxRecDepth 100000 in
theorem cw_X10_personCount : Cond.code yX10_personCount cX10_personCount 1 (some .int) ∈ ev_wd := ev_cw (k := 4) (j := 183) rfl
set_option maxRecDepth 100000 in
theorem cw_X10_nameLetter : Cond.code yX10_nameLetter cX10_nameLetter 6 (some .int) ∈ ev_wd := ev_cw (k := 4) (j := 190) rfl
set_option maxRecDepth 100000 in
theorem cw_X10_kitchenOf : Cond.code yX10_kitchenOf cX10_kitchenOf 2 (some .int) ∈ ev_wd := ev_cw (k := 4) (j := 207) rfl
set_option maxRecDepth 100000 in
theorem cw_X10_isTaster : Cond.code yX10_isTaster cX10_isTaster 2 (some .boolean) ∈ ev_wd := ev_cw (k := 4) (j := 214) rfl
set_option maxRecDepth 100000 in
theorem cw_X10_limitOf : Cond.code yX10_limitOf cX10_limitOf 2 (some .int) ∈ ev_wd := ev_cw (k := 4) (j := 222) rfl
set_option maxRecDepth 100000 in
theorem cw_X10_tasteOf : Cond.code yX10_tasteOf cX10_tasteOf 3 (some .int) ∈ ev_wd := ev_cw (k := 4) (j := 229) rfl
set_option maxRecDepth 100000 in
theorem cw_X10_bidOf : Cond.code yX10_bidOf cX10_bidOf 3 (some .int) ∈ ev_wd := ev_cw (k := 4) (j := 238) rfl
set_option maxRecDepth 100000 in
theorem cw_X10_preference : Cond.code yX10_preference cX10_preference 3 (some .int) ∈ ev_wd := ev_cw (k := 5) (j := 9) rfl
set_option maxRecDepth 100000 in
theorem cw_X10_conflict : Cond.code yX10_conflict cX10_conflict 3 (some .int) ∈ ev_wd := ev_cw (k := 5) (j := 17) rfl
set_option maxRecDepth 100000 in
theorem cw_X10_conflictCount : Cond.code yX10_conflictCount cX10_conflictCount 2 (some .int) ∈ ev_wd := ev_cw (k := 5) (j := 25) rfl
set_option maxRecDepth 100000 in
theorem cw_X10_favoriteOf : Cond.code yX10_favoriteOf cX10_favoriteOf 2 (some .int) ∈ ev_wd := ev_cw (k := 5) (j := 36) rfl
set_option maxRecDepth 100000 in
theorem cw_X10_seatCount : Cond.code yX10_seatCount cX10_seatCount 2 (some .int) ∈ ev_wd := ev_cw (k := 5) (j := 47) rfl
set_option maxRecDepth 100000 in
theorem cw_X10_seatAt : Cond.code yX10_seatAt cX10_seatAt 3 (some .int) ∈ ev_wd := ev_cw (k := 5) (j := 54) rfl
set_option maxRecDepth 100000 in
theorem cw_X10_loadOf : Cond.code yX10_loadOf cX10_loadOf 2 (some .int) ∈ ev_wd := ev_cw (k := 5) (j := 62) rfl
set_option maxRecDepth 100000 in
theorem cw_X10_refusal : Cond.code yX10_refusal cX10_refusal 3 (some .int) ∈ ev_wd := ev_cw (k := 5) (j := 70) rfl
set_option maxRecDepth 100000 in
theorem cw_X10_bestTaster : Cond.code yX10_bestTaster cX10_bestTaster 2 (some .int) ∈ ev_wd := ev_cw (k := 5) (j := 78) rfl
set_option maxRecDepth 100000 in
theorem cw_X10_lacking : Cond.code yX10_lacking cX10_lacking 1 (some .int) ∈ ev_wd := ev_cw (k := 5) (j := 86) rfl
set_option maxRecDepth 100000 in
theorem cw_X10_lackingAfterFilling : Cond.code yX10_lackingAfterFilling cX10_lackingAfterFilling 1 (some .int) ∈ ev_wd := ev_cw (k := 5) (j := 101) rfl
set_option maxRecDepth 100000 in
theorem cw_X10_scoreOf : Cond.code yX10_scoreOf cX10_scoreOf 3 (some .int) ∈ ev_wd := ev_cw (k := 5) (j := 109) rfl
set_option maxRecDepth 100000 in
theorem cw_X10_scoreCount : Cond.code yX10_scoreCount cX10_scoreCount 2 (some .int) ∈ ev_wd := ev_cw (k := 5) (j := 117) rfl
set_option maxRecDepth 100000 in
theorem cw_X10_meanOf : Cond.code yX10_meanOf cX10_meanOf 2 (some .int) ∈ ev_wd := ev_cw (k := 5) (j := 125) rfl
set_option maxRecDepth 100000 in
theorem cw_X10_harshest : Cond.code yX10_harshest cX10_harshest 1 (some .int) ∈ ev_wd := ev_cw (k := 5) (j := 136) rfl
set_option maxRecDepth 100000 in
theorem cw_X10_disagreement : Cond.code yX10_disagreement cX10_disagreement 2 (some .int) ∈ ev_wd := ev_cw (k := 5) (j := 148) rfl
set_option maxRecDepth 100000 in
theorem cw_X10_adjustedScore : Cond.code yX10_adjustedScore cX10_adjustedScore 3 (some .int) ∈ ev_wd := ev_cw (k := 5) (j := 171) rfl
set_option maxRecDepth 100000 in
theorem cw_X10_totalOf : Cond.code yX10_totalOf cX10_totalOf 2 (some .int) ∈ ev_wd := ev_cw (k := 5) (j := 179) rfl
set_option maxRecDepth 100000 in
theorem cw_X10_spreadOf : Cond.code yX10_spreadOf cX10_spreadOf 2 (some .int) ∈ ev_wd := ev_cw (k := 5) (j := 187) rfl
set_option maxRecDepth 100000 in
theorem cw_X10_needsTalk : Cond.code yX10_needsTalk cX10_needsTalk 2 (some .boolean) ∈ ev_wd := ev_cw (k := 5) (j := 198) rfl
set_option maxRecDepth 100000 in
theorem cw_X10_spreadAfterTalk : Cond.code yX10_spreadAfterTalk cX10_spreadAfterTalk 2 (some .int) ∈ ev_wd := ev_cw (k := 5) (j := 210) rfl
set_option maxRecDepth 100000 in
theorem cw_X10_rankOf : Cond.code yX10_rankOf cX10_rankOf 2 (some .int) ∈ ev_wd := ev_cw (k := 5) (j := 219) rfl
set_option maxRecDepth 100000 in
theorem cw_X10_pancakeAt : Cond.code yX10_pancakeAt cX10_pancakeAt 2 (some .int) ∈ ev_wd := ev_cw (k := 5) (j := 234) rfl
set_option maxRecDepth 100000 in
theorem cw_X10_isAccepted : Cond.code yX10_isAccepted cX10_isAccepted 2 (some .boolean) ∈ ev_wd := ev_cw (k := 6) (j := 7) rfl
set_option maxRecDepth 100000 in
theorem cw_X10_fillCount : Cond.code yX10_fillCount cX10_fillCount 1 (some .int) ∈ ev_wd := ev_cw (k := 6) (j := 14) rfl
set_option maxRecDepth 100000 in
theorem cw_X10_moveCount : Cond.code yX10_moveCount cX10_moveCount 1 (some .int) ∈ ev_wd := ev_cw (k := 6) (j := 21) rfl
set_option maxRecDepth 100000 in
theorem cw_X10_talkCount : Cond.code yX10_talkCount cX10_talkCount 1 (some .int) ∈ ev_wd := ev_cw (k := 6) (j := 28) rfl
set_option maxRecDepth 100000 in
theorem cw_X10_changeCount : Cond.code yX10_changeCount cX10_changeCount 1 (some .int) ∈ ev_wd := ev_cw (k := 6) (j := 35) rfl
set_option maxRecDepth 100000 in
theorem cw_X10_averageScore : Cond.code yX10_averageScore cX10_averageScore 2 (some .double) ∈ ev_wd := ev_cw (k := 6) (j := 42) rfl
set_option maxRecDepth 100000 in
theorem cw_X10_seatShare : Cond.code yX10_seatShare cX10_seatShare 2 (some .float) ∈ ev_wd := ev_cw (k := 6) (j := 49) rfl
set_option maxRecDepth 100000 in
theorem cw_X10_imbalance : Cond.code yX10_imbalance cX10_imbalance 1 (some .int) ∈ ev_wd := ev_cw (k := 6) (j := 57) rfl
set_option maxRecDepth 100000 in
theorem cw_X10_writePancake : Cond.code yX10_writePancake cX10_writePancake 4 (some .int) ∈ ev_wd := ev_cw (k := 6) (j := 81) rfl
set_option maxRecDepth 100000 in
theorem cw_X10_writeBids : Cond.code yX10_writeBids cX10_writeBids 3 (some .int) ∈ ev_wd := ev_cw (k := 6) (j := 105) rfl
set_option maxRecDepth 100000 in
theorem cw_X10_outputByte : Cond.code yX10_outputByte cX10_outputByte 2 (some .int) ∈ ev_wd := ev_cw (k := 6) (j := 113) rfl
set_option maxRecDepth 100000 in
theorem cw_X10_bid : Cond.code yX10_bid cX10_bid 5 (some .int) ∈ ev_wd := ev_cw (k := 6) (j := 122) rfl
set_option maxRecDepth 100000 in
theorem cw_X10_assign : Cond.code yX10_assign cX10_assign 3 (some .int) ∈ ev_wd := ev_cw (k := 6) (j := 137) rfl
set_option maxRecDepth 100000 in
theorem cw_X10_unassign : Cond.code yX10_unassign cX10_unassign 3 (some .int) ∈ ev_wd := ev_cw (k := 6) (j := 146) rfl
set_option maxRecDepth 100000 in
theorem cw_X10_fill : Cond.code yX10_fill cX10_fill 1 (some .int) ∈ ev_wd := ev_cw (k := 6) (j := 159) rfl
set_option maxRecDepth 100000 in
theorem cw_X10_score : Cond.code yX10_score cX10_score 5 (some .int) ∈ ev_wd := ev_cw (k := 6) (j := 166) rfl
set_option maxRecDepth 100000 in
theorem cw_X10_talk : Cond.code yX10_talk cX10_talk 2 (some .int) ∈ ev_wd := ev_cw (k := 6) (j := 175) rfl
set_option maxRecDepth 100000 in
theorem cw_X10_declare : Cond.code yX10_declare cX10_declare 5 (some .boolean) ∈ ev_wd := ev_cw (k := 6) (j := 183) rfl
set_option maxRecDepth 100000 in
theorem cw_X10_undo : Cond.code yX10_undo cX10_undo 1 (some .int) ∈ ev_wd := ev_cw (k := 6) (j := 190) rfl
set_option maxRecDepth 100000 in
theorem cw_X10_undoCount : Cond.code yX10_undoCount cX10_undoCount 1 (some .int) ∈ ev_wd := ev_cw (k := 2) (j := 91) rfl
set_option maxRecDepth 100000 in
theorem cw_X10_saveState : Cond.code yX10_saveState cX10_saveState 2 (some .int) ∈ ev_wd := ev_cw (k := 6) (j := 202) rfl
set_option maxRecDepth 100000 in
theorem cw_X10_restoreState : Cond.code yX10_restoreState cX10_restoreState 2 (some .int) ∈ ev_wd := ev_cw (k := 6) (j := 210) rfl
set_option maxRecDepth 100000 in
theorem cw_X10_requirePanel : Cond.code yX10_requirePanel cX10_requirePanel 1 none ∈ ev_wd := ev_cw (k := 4) (j := 130) rfl
set_option maxRecDepth 100000 in
theorem cw_X10_requirePerson : Cond.code yX10_requirePerson cX10_requirePerson 2 none ∈ ev_wd := ev_cw (k := 4) (j := 194) rfl
set_option maxRecDepth 100000 in
theorem cw_X10_requirePancake : Cond.code yX10_requirePancake cX10_requirePancake 2 none ∈ ev_wd := ev_cw (k := 4) (j := 157) rfl
set_option maxRecDepth 100000 in
theorem cw_X10_requirePair : Cond.code yX10_requirePair cX10_requirePair 3 none ∈ ev_wd := ev_cw (k := 5) (j := 2) rfl
set_option maxRecDepth 100000 in
theorem cw_X10_requireSeat : Cond.code yX10_requireSeat cX10_requireSeat 3 none ∈ ev_wd := ev_cw (k := 6) (j := 150) rfl
set_option maxRecDepth 100000 in
theorem cw_X10_writeTaster : Cond.code yX10_writeTaster cX10_writeTaster 4 none ∈ ev_wd := ev_cw (k := 6) (j := 86) rfl
set_option maxRecDepth 100000 in
theorem cw_X10_cell : Cond.code yX10_cell cX10_cell 2 (some .int) ∈ ev_wd := ev_cw (k := 2) (j := 208) rfl
set_option maxRecDepth 100000 in
theorem cw_X10_setCell : Cond.code yX10_setCell cX10_setCell 3 none ∈ ev_wd := ev_cw (k := 2) (j := 75) rfl
set_option maxRecDepth 100000 in
theorem cw_X10_copyRow : Cond.code yX10_copyRow cX10_copyRow 2 none ∈ ev_wd := ev_cw (k := 4) (j := 97) rfl
set_option maxRecDepth 100000 in
theorem cw_X10_letterCount : Cond.code yX10_letterCount cX10_letterCount 3 (some .int) ∈ ev_wd := ev_cw (k := 3) (j := 60) rfl
set_option maxRecDepth 100000 in
theorem cw_X10_letterOf : Cond.code yX10_letterOf cX10_letterOf 4 (some .int) ∈ ev_wd := ev_cw (k := 4) (j := 200) rfl
set_option maxRecDepth 100000 in
theorem cw_X11_init : Cond.code yX11_init cX11_init 1 none ∈ ev_wd := ev_cw (k := 6) (j := 216) rfl
set_option maxRecDepth 100000 in
theorem cw_X11_thrown : Cond.code yX11_thrown cX11_thrown 1 (some .int) ∈ ev_wd := ev_cw (k := 7) (j := 46) rfl
set_option maxRecDepth 100000 in
theorem cw_X11_in : Cond.code yX11_in cX11_in 3 (some .boolean) ∈ ev_wd := ev_cw (k := 7) (j := 77) rfl
set_option maxRecDepth 100000 in
theorem cw_X11_one : Cond.code yX11_one cX11_one 1 (some .int) ∈ ev_wd := ev_cw (k := 8) (j := 58) rfl
set_option maxRecDepth 100000 in
theorem cw_X11_may : Cond.code yX11_may cX11_may 4 (some .boolean) ∈ ev_wd := ev_cw (k := 7) (j := 81) rfl
set_option maxRecDepth 100000 in
theorem cw_X11_mayTwo : Cond.code yX11_mayTwo cX11_mayTwo 3 (some .boolean) ∈ ev_wd := ev_cw (k := 8) (j := 218) rfl
set_option maxRecDepth 100000 in
theorem cw_X11_mayLook : Cond.code yX11_mayLook cX11_mayLook 1 (some .boolean) ∈ ev_wd := ev_cw (k := 8) (j := 198) rfl
set_option maxRecDepth 100000 in
theorem cw_X11_lays : Cond.code yX11_lays cX11_lays 5 none ∈ ev_wd := ev_cw (k := 7) (j := 88) rfl
set_option maxRecDepth 100000 in
theorem cw_X11_thinks : Cond.code yX11_thinks cX11_thinks 1 none ∈ ev_wd := ev_cw (k := 7) (j := 85) rfl
set_option maxRecDepth 100000 in
theorem cw_X11_back : Cond.code yX11_back cX11_back 2 (some .int) ∈ ev_wd := ev_cw (k := 8) (j := 186) rfl
set_option maxRecDepth 100000 in
theorem cw_X11_append : Cond.code yX11_append cX11_append 6 (some .int) ∈ ev_wd := ev_cw (k := 7) (j := 50) rfl
set_option maxRecDepth 100000 in
theorem cw_X11_four : Cond.code yX11_four cX11_four 3 none ∈ ev_wd := ev_cw (k := 7) (j := 54) rfl
set_option maxRecDepth 100000 in
theorem cw_X11_told : Cond.code yX11_told cX11_told 2 (some .int) ∈ ev_wd := ev_cw (k := 7) (j := 62) rfl
set_option maxRecDepth 100000 in
theorem cw_X11_parseErrorCode : Cond.code yX11_parseErrorCode cX11_parseErrorCode 1 (some .int) ∈ ev_wd := ev_cw (k := 7) (j := 58) rfl
set_option maxRecDepth 100000 in
theorem cw_X11_parseErrorPosition : Cond.code yX11_parseErrorPosition cX11_parseErrorPosition 1 (some .int) ∈ ev_wd := ev_cw (k := 7) (j := 66) rfl
set_option maxRecDepth 100000 in
theorem cw_X11_bufferLength : Cond.code yX11_bufferLength cX11_bufferLength 1 (some .int) ∈ ev_wd := ev_cw (k := 7) (j := 70) rfl
set_option maxRecDepth 100000 in
theorem cw_X11_isSmall : Cond.code yX11_isSmall cX11_isSmall 2 (some .boolean) ∈ ev_wd := ev_cw (k := 7) (j := 100) rfl
set_option maxRecDepth 100000 in
theorem cw_X11_isDigit : Cond.code yX11_isDigit cX11_isDigit 2 (some .boolean) ∈ ev_wd := ev_cw (k := 7) (j := 104) rfl
set_option maxRecDepth 100000 in
theorem cw_X11_goes : Cond.code yX11_goes cX11_goes 1 none ∈ ev_wd := ev_cw (k := 7) (j := 96) rfl
set_option maxRecDepth 100000 in
theorem cw_X11_signOf : Cond.code yX11_signOf cX11_signOf 1 (some .int) ∈ ev_wd := ev_cw (k := 7) (j := 107) rfl
set_option maxRecDepth 100000 in
theorem cw_X11_faults : Cond.code yX11_faults cX11_faults 2 none ∈ ev_wd := ev_cw (k := 7) (j := 168) rfl
set_option maxRecDepth 100000 in
theorem cw_X11_refuses : Cond.code yX11_refuses cX11_refuses 2 none ∈ ev_wd := ev_cw (k := 7) (j := 209) rfl
set_option maxRecDepth 100000 in
theorem cw_X11_limits : Cond.code yX11_limits cX11_limits 2 none ∈ ev_wd := ev_cw (k := 7) (j := 189) rfl
set_option maxRecDepth 100000 in
theorem cw_X11_is : Cond.code yX11_is cX11_is 2 (some .boolean) ∈ ev_wd := ev_cw (k := 7) (j := 116) rfl
set_option maxRecDepth 100000 in
theorem cw_X11_isWord : Cond.code yX11_isWord cX11_isWord 3 (some .boolean) ∈ ev_wd := ev_cw (k := 7) (j := 112) rfl
set_option maxRecDepth 100000 in
theorem cw_X11_numberHere : Cond.code yX11_numberHere cX11_numberHere 3 (some .int) ∈ ev_wd := ev_cw (k := 7) (j := 176) rfl
set_option maxRecDepth 100000 in
theorem cw_X11_readNumber : Cond.code yX11_readNumber cX11_readNumber 4 (some .int) ∈ ev_wd := ev_cw (k := 7) (j := 172) rfl
set_option maxRecDepth 100000 in
theorem cw_X11_isNamed : Cond.code yX11_isNamed cX11_isNamed 3 (some .boolean) ∈ ev_wd := ev_cw (k := 7) (j := 201) rfl
set_option maxRecDepth 100000 in
theorem cw_X11_personNamed : Cond.code yX11_personNamed cX11_personNamed 2 (some .int) ∈ ev_wd := ev_cw (k := 7) (j := 197) rfl
set_option maxRecDepth 100000 in
theorem cw_X11_wantsName : Cond.code yX11_wantsName cX11_wantsName 1 none ∈ ev_wd := ev_cw (k := 7) (j := 193) rfl
set_option maxRecDepth 100000 in
theorem cw_X11_personHere : Cond.code yX11_personHere cX11_personHere 2 (some .int) ∈ ev_wd := ev_cw (k := 7) (j := 222) rfl
set_option maxRecDepth 100000 in
theorem cw_X11_readPerson : Cond.code yX11_readPerson cX11_readPerson 2 (some .int) ∈ ev_wd := ev_cw (k := 8) (j := 29) rfl
set_option maxRecDepth 100000 in
theorem cw_X11_readTaster : Cond.code yX11_readTaster cX11_readTaster 2 (some .int) ∈ ev_wd := ev_cw (k := 8) (j := 12) rfl
set_option maxRecDepth 100000 in
theorem cw_X11_pancakeHere : Cond.code yX11_pancakeHere cX11_pancakeHere 1 (some .int) ∈ ev_wd := ev_cw (k := 8) (j := 20) rfl
set_option maxRecDepth 100000 in
theorem cw_X11_readPancake : Cond.code yX11_readPancake cX11_readPancake 2 (some .int) ∈ ev_wd := ev_cw (k := 8) (j := 16) rfl
set_option maxRecDepth 100000 in
theorem cw_X11_readsPerson : Cond.code yX11_readsPerson cX11_readsPerson 3 none ∈ ev_wd := ev_cw (k := 7) (j := 185) rfl
set_option maxRecDepth 100000 in
theorem cw_X11_readsTaster : Cond.code yX11_readsTaster cX11_readsTaster 5 none ∈ ev_wd := ev_cw (k := 7) (j := 218) rfl
set_option maxRecDepth 100000 in
theorem cw_X11_readsPancake : Cond.code yX11_readsPancake cX11_readsPancake 5 none ∈ ev_wd := ev_cw (k := 7) (j := 231) rfl
set_option maxRecDepth 100000 in
theorem cw_X11_readsBid : Cond.code yX11_readsBid cX11_readsBid 4 none ∈ ev_wd := ev_cw (k := 8) (j := 8) rfl
set_option maxRecDepth 100000 in
theorem cw_X11_readsTogether : Cond.code yX11_readsTogether cX11_readsTogether 3 none ∈ ev_wd := ev_cw (k := 8) (j := 25) rfl
set_option maxRecDepth 100000 in
theorem cw_X11_readsConflict : Cond.code yX11_readsConflict cX11_readsConflict 3 none ∈ ev_wd := ev_cw (k := 8) (j := 34) rfl
set_option maxRecDepth 100000 in
theorem cw_X11_readsSeat : Cond.code yX11_readsSeat cX11_readsSeat 4 none ∈ ev_wd := ev_cw (k := 8) (j := 39) rfl
set_option maxRecDepth 100000 in
theorem cw_X11_readsFill : Cond.code yX11_readsFill cX11_readsFill 2 none ∈ ev_wd := ev_cw (k := 8) (j := 71) rfl
set_option maxRecDepth 100000 in
theorem cw_X11_tastedHere : Cond.code yX11_tastedHere cX11_tastedHere 3 (some .int) ∈ ev_wd := ev_cw (k := 8) (j := 116) rfl
set_option maxRecDepth 100000 in
theorem cw_X11_readsLeave : Cond.code yX11_readsLeave cX11_readsLeave 4 none ∈ ev_wd := ev_cw (k := 8) (j := 112) rfl
set_option maxRecDepth 100000 in
theorem cw_X11_readsScore : Cond.code yX11_readsScore cX11_readsScore 4 none ∈ ev_wd := ev_cw (k := 8) (j := 121) rfl
set_option maxRecDepth 100000 in
theorem cw_X11_readsTalk : Cond.code yX11_readsTalk cX11_readsTalk 3 none ∈ ev_wd := ev_cw (k := 8) (j := 126) rfl
set_option maxRecDepth 100000 in
theorem cw_X11_readsLimit : Cond.code yX11_readsLimit cX11_readsLimit 3 none ∈ ev_wd := ev_cw (k := 8) (j := 148) rfl
set_option maxRecDepth 100000 in
theorem cw_X11_readsKitchen : Cond.code yX11_readsKitchen cX11_readsKitchen 3 none ∈ ev_wd := ev_cw (k := 8) (j := 153) rfl
set_option maxRecDepth 100000 in
theorem cw_X11_readsSwap : Cond.code yX11_readsSwap cX11_readsSwap 4 none ∈ ev_wd := ev_cw (k := 8) (j := 158) rfl
set_option maxRecDepth 100000 in
theorem cw_X11_readsClear : Cond.code yX11_readsClear cX11_readsClear 3 none ∈ ev_wd := ev_cw (k := 8) (j := 163) rfl
set_option maxRecDepth 100000 in
theorem cw_X11_readsEven : Cond.code yX11_readsEven cX11_readsEven 4 none ∈ ev_wd := ev_cw (k := 8) (j := 168) rfl
set_option maxRecDepth 100000 in
theorem cw_X11_readsCopy : Cond.code yX11_readsCopy cX11_readsCopy 4 none ∈ ev_wd := ev_cw (k := 8) (j := 173) rfl
set_option maxRecDepth 100000 in
theorem cw_X11_readsItems : Cond.code yX11_readsItems cX11_readsItems 1 none ∈ ev_wd := ev_cw (k := 8) (j := 182) rfl
set_option maxRecDepth 100000 in
theorem cw_X11_readsRepeat : Cond.code yX11_readsRepeat cX11_readsRepeat 4 none ∈ ev_wd := ev_cw (k := 8) (j := 178) rfl
set_option maxRecDepth 100000 in
theorem cw_X11_readsItem : Cond.code yX11_readsItem cX11_readsItem 1 none ∈ ev_wd := ev_cw (k := 7) (j := 180) rfl
set_option maxRecDepth 100000 in
theorem cw_X11_readsMore : Cond.code yX11_readsMore cX11_readsMore 1 none ∈ ev_wd := ev_cw (k := 8) (j := 66) rfl
set_option maxRecDepth 100000 in
theorem cw_X11_readsText : Cond.code yX11_readsText cX11_readsText 1 none ∈ ev_wd := ev_cw (k := 7) (j := 92) rfl
set_option maxRecDepth 100000 in
theorem cw_X11_parseSetup : Cond.code yX11_parseSetup cX11_parseSetup 3 (some .int) ∈ ev_wd := ev_cw (k := 7) (j := 74) rfl
set_option maxRecDepth 100000 in
theorem cw_X11_of : Cond.code yX11_of cX11_of 3 (some .int) ∈ ev_wd := ev_cw (k := 7) (j := 205) rfl
set_option maxRecDepth 100000 in
theorem cw_X11_puts : Cond.code yX11_puts cX11_puts 4 none ∈ ev_wd := ev_cw (k := 7) (j := 213) rfl
set_option maxRecDepth 100000 in
theorem cw_X11_ofCake : Cond.code yX11_ofCake cX11_ofCake 3 (some .int) ∈ ev_wd := ev_cw (k := 7) (j := 239) rfl
set_option maxRecDepth 100000 in
theorem cw_X11_putsCake : Cond.code yX11_putsCake cX11_putsCake 4 none ∈ ev_wd := ev_cw (k := 8) (j := 3) rfl
set_option maxRecDepth 100000 in
theorem cw_X11_isTasting : Cond.code yX11_isTasting cX11_isTasting 2 (some .boolean) ∈ ev_wd := ev_cw (k := 7) (j := 226) rfl
set_option maxRecDepth 100000 in
theorem cw_X11_cooks : Cond.code yX11_cooks cX11_cooks 5 (some .boolean) ∈ ev_wd := ev_cw (k := 7) (j := 235) rfl
set_option maxRecDepth 100000 in
theorem cw_X11_conflictOf : Cond.code yX11_conflictOf cX11_conflictOf 8 (some .int) ∈ ev_wd := ev_cw (k := 8) (j := 51) rfl
set_option maxRecDepth 100000 in
theorem cw_X11_seatOf : Cond.code yX11_seatOf cX11_seatOf 4 (some .int) ∈ ev_wd := ev_cw (k := 8) (j := 47) rfl
set_option maxRecDepth 100000 in
theorem cw_X11_load : Cond.code yX11_load cX11_load 4 (some .int) ∈ ev_wd := ev_cw (k := 8) (j := 55) rfl
set_option maxRecDepth 100000 in
theorem cw_X11_why : Cond.code yX11_why cX11_why 3 (some .int) ∈ ev_wd := ev_cw (k := 8) (j := 43) rfl
set_option maxRecDepth 100000 in
theorem cw_X11_seats : Cond.code yX11_seats cX11_seats 4 (some .int) ∈ ev_wd := ev_cw (k := 8) (j := 62) rfl
set_option maxRecDepth 100000 in
theorem cw_X11_leaves : Cond.code yX11_leaves cX11_leaves 5 (some .int) ∈ ev_wd := ev_cw (k := 8) (j := 107) rfl
set_option maxRecDepth 100000 in
theorem cw_X11_wish : Cond.code yX11_wish cX11_wish 3 (some .int) ∈ ev_wd := ev_cw (k := 8) (j := 91) rfl
set_option maxRecDepth 100000 in
theorem cw_X11_isBetter : Cond.code yX11_isBetter cX11_isBetter 5 (some .boolean) ∈ ev_wd := ev_cw (k := 8) (j := 87) rfl
set_option maxRecDepth 100000 in
theorem cw_X11_best : Cond.code yX11_best cX11_best 4 (some .int) ∈ ev_wd := ev_cw (k := 8) (j := 83) rfl
set_option maxRecDepth 100000 in
theorem cw_X11_neediest : Cond.code yX11_neediest cX11_neediest 3 (some .int) ∈ ev_wd := ev_cw (k := 8) (j := 79) rfl
set_option maxRecDepth 100000 in
theorem cw_X11_fills : Cond.code yX11_fills cX11_fills 5 (some .int) ∈ ev_wd := ev_cw (k := 8) (j := 75) rfl
set_option maxRecDepth 100000 in
theorem cw_X11_moves : Cond.code yX11_moves cX11_moves 3 (some .boolean) ∈ ev_wd := ev_cw (k := 8) (j := 95) rfl
set_option maxRecDepth 100000 in
theorem cw_X11_movesFor : Cond.code yX11_movesFor cX11_movesFor 6 (some .boolean) ∈ ev_wd := ev_cw (k := 8) (j := 99) rfl
set_option maxRecDepth 100000 in
theorem cw_X11_other : Cond.code yX11_other cX11_other 7 (some .int) ∈ ev_wd := ev_cw (k := 8) (j := 103) rfl
set_option maxRecDepth 100000 in
theorem cw_X11_lacks : Cond.code yX11_lacks cX11_lacks 3 (some .int) ∈ ev_wd := ev_cw (k := 9) (j := 82) rfl
set_option maxRecDepth 100000 in
theorem cw_X11_scores : Cond.code yX11_scores cX11_scores 4 (some .int) ∈ ev_wd := ev_cw (k := 8) (j := 130) rfl
set_option maxRecDepth 100000 in
theorem cw_X11_scoresBy : Cond.code yX11_scoresBy cX11_scoresBy 4 (some .int) ∈ ev_wd := ev_cw (k := 9) (j := 102) rfl
set_option maxRecDepth 100000 in
theorem cw_X11_sumBy : Cond.code yX11_sumBy cX11_sumBy 4 (some .int) ∈ ev_wd := ev_cw (k := 9) (j := 110) rfl
set_option maxRecDepth 100000 in
theorem cw_X11_allScores : Cond.code yX11_allScores cX11_allScores 3 (some .int) ∈ ev_wd := ev_cw (k := 9) (j := 126) rfl
set_option maxRecDepth 100000 in
theorem cw_X11_allSum : Cond.code yX11_allSum cX11_allSum 3 (some .int) ∈ ev_wd := ev_cw (k := 9) (j := 122) rfl
set_option maxRecDepth 100000 in
theorem cw_X11_mean : Cond.code yX11_mean cX11_mean 2 (some .int) ∈ ev_wd := ev_cw (k := 9) (j := 106) rfl
set_option maxRecDepth 100000 in
theorem cw_X11_adjusted : Cond.code yX11_adjusted cX11_adjusted 3 (some .int) ∈ ev_wd := ev_cw (k := 9) (j := 118) rfl
set_option maxRecDepth 100000 in
theorem cw_X11_isScored : Cond.code yX11_isScored cX11_isScored 3 (some .boolean) ∈ ev_wd := ev_cw (k := 8) (j := 142) rfl
set_option maxRecDepth 100000 in
theorem cw_X11_total : Cond.code yX11_total cX11_total 5 (some .int) ∈ ev_wd := ev_cw (k := 9) (j := 138) rfl
set_option maxRecDepth 100000 in
theorem cw_X11_spread : Cond.code yX11_spread cX11_spread 7 (some .int) ∈ ev_wd := ev_cw (k := 9) (j := 150) rfl
set_option maxRecDepth 100000 in
theorem cw_X11_mustTalk : Cond.code yX11_mustTalk cX11_mustTalk 2 (some .boolean) ∈ ev_wd := ev_cw (k := 9) (j := 160) rfl
set_option maxRecDepth 100000 in
theorem cw_X11_middle : Cond.code yX11_middle cX11_middle 6 (some .int) ∈ ev_wd := ev_cw (k := 8) (j := 138) rfl
set_option maxRecDepth 100000 in
theorem cw_X11_talks : Cond.code yX11_talks cX11_talks 6 (some .int) ∈ ev_wd := ev_cw (k := 8) (j := 134) rfl
set_option maxRecDepth 100000 in
theorem cw_X11_isAhead : Cond.code yX11_isAhead cX11_isAhead 5 (some .boolean) ∈ ev_wd := ev_cw (k := 9) (j := 176) rfl
set_option maxRecDepth 100000 in
theorem cw_X11_rank : Cond.code yX11_rank cX11_rank 4 (some .int) ∈ ev_wd := ev_cw (k := 9) (j := 172) rfl
set_option maxRecDepth 100000 in
theorem cw_X11_isPancake : Cond.code yX11_isPancake cX11_isPancake 2 (some .boolean) ∈ ev_wd := ev_cw (k := 8) (j := 214) rfl
set_option maxRecDepth 100000 in
theorem cw_X11_isPerson : Cond.code yX11_isPerson cX11_isPerson 2 (some .boolean) ∈ ev_wd := ev_cw (k := 9) (j := 6) rfl
set_option maxRecDepth 100000 in
theorem cw_X11_mayPancake : Cond.code yX11_mayPancake cX11_mayPancake 2 (some .boolean) ∈ ev_wd := ev_cw (k := 8) (j := 210) rfl
set_option maxRecDepth 100000 in
theorem cw_X11_mayPerson : Cond.code yX11_mayPerson cX11_mayPerson 2 (some .boolean) ∈ ev_wd := ev_cw (k := 9) (j := 2) rfl
set_option maxRecDepth 100000 in
theorem cw_X11_areBoth : Cond.code yX11_areBoth cX11_areBoth 3 (some .boolean) ∈ ev_wd := ev_cw (k := 9) (j := 38) rfl
set_option maxRecDepth 100000 in
theorem cw_X11_mayBoth : Cond.code yX11_mayBoth cX11_mayBoth 3 (some .boolean) ∈ ev_wd := ev_cw (k := 9) (j := 34) rfl
set_option maxRecDepth 100000 in
theorem cw_X11_look : Cond.code yX11_look cX11_look 2 (some .int) ∈ ev_wd := ev_cw (k := 8) (j := 194) rfl
set_option maxRecDepth 100000 in
theorem cw_X11_lookCake : Cond.code yX11_lookCake cX11_lookCake 3 (some .int) ∈ ev_wd := ev_cw (k := 8) (j := 206) rfl
set_option maxRecDepth 100000 in
theorem cw_X11_lookPerson : Cond.code yX11_lookPerson cX11_lookPerson 3 (some .int) ∈ ev_wd := ev_cw (k := 9) (j := 14) rfl
set_option maxRecDepth 100000 in
theorem cw_X11_pancakeCount : Cond.code yX11_pancakeCount cX11_pancakeCount 1 (some .int) ∈ ev_wd := ev_cw (k := 8) (j := 190) rfl
set_option maxRecDepth 100000 in
theorem cw_X11_topicOf : Cond.code yX11_topicOf cX11_topicOf 2 (some .int) ∈ ev_wd := ev_cw (k := 8) (j := 202) rfl
set_option maxRecDepth 100000 in
theorem cw_X11_cookCount : Cond.code yX11_cookCount cX11_cookCount 2 (some .int) ∈ ev_wd := ev_cw (k := 8) (j := 222) rfl
set_option maxRecDepth 100000 in
theorem cw_X11_lookAt : Cond.code yX11_lookAt cX11_lookAt 6 (some .int) ∈ ev_wd := ev_cw (k := 8) (j := 230) rfl
set_option maxRecDepth 100000 in
theorem cw_X11_cookAt : Cond.code yX11_cookAt cX11_cookAt 3 (some .int) ∈ ev_wd := ev_cw (k := 8) (j := 226) rfl
set_option maxRecDepth 100000 in
theorem cw_X11_personCount : Cond.code yX11_personCount cX11_personCount 1 (some .int) ∈ ev_wd := ev_cw (k := 8) (j := 234) rfl
set_option maxRecDepth 100000 in
theorem cw_X11_nameLetter : Cond.code yX11_nameLetter cX11_nameLetter 3 (some .int) ∈ ev_wd := ev_cw (k := 8) (j := 238) rfl
set_option maxRecDepth 100000 in
theorem cw_X11_kitchenOf : Cond.code yX11_kitchenOf cX11_kitchenOf 2 (some .int) ∈ ev_wd := ev_cw (k := 9) (j := 10) rfl
set_option maxRecDepth 100000 in
theorem cw_X11_isTaster : Cond.code yX11_isTaster cX11_isTaster 2 (some .boolean) ∈ ev_wd := ev_cw (k := 9) (j := 18) rfl
set_option maxRecDepth 100000 in
theorem cw_X11_limitOf : Cond.code yX11_limitOf cX11_limitOf 2 (some .int) ∈ ev_wd := ev_cw (k := 9) (j := 22) rfl
set_option maxRecDepth 100000 in
theorem cw_X11_tasteOf : Cond.code yX11_tasteOf cX11_tasteOf 3 (some .int) ∈ ev_wd := ev_cw (k := 9) (j := 26) rfl
set_option maxRecDepth 100000 in
theorem cw_X11_bidOf : Cond.code yX11_bidOf cX11_bidOf 3 (some .int) ∈ ev_wd := ev_cw (k := 9) (j := 30) rfl
set_option maxRecDepth 100000 in
theorem cw_X11_preference : Cond.code yX11_preference cX11_preference 3 (some .int) ∈ ev_wd := ev_cw (k := 9) (j := 42) rfl
set_option maxRecDepth 100000 in
theorem cw_X11_conflict : Cond.code yX11_conflict cX11_conflict 3 (some .int) ∈ ev_wd := ev_cw (k := 9) (j := 46) rfl
set_option maxRecDepth 100000 in
theorem cw_X11_favoriteOf : Cond.code yX11_favoriteOf cX11_favoriteOf 4 (some .int) ∈ ev_wd := ev_cw (k := 9) (j := 50) rfl
set_option maxRecDepth 100000 in
theorem cw_X11_conflictCount : Cond.code yX11_conflictCount cX11_conflictCount 4 (some .int) ∈ ev_wd := ev_cw (k := 9) (j := 54) rfl
set_option maxRecDepth 100000 in
theorem cw_X11_seatCount : Cond.code yX11_seatCount cX11_seatCount 2 (some .int) ∈ ev_wd := ev_cw (k := 9) (j := 58) rfl
set_option maxRecDepth 100000 in
theorem cw_X11_seatAt : Cond.code yX11_seatAt cX11_seatAt 3 (some .int) ∈ ev_wd := ev_cw (k := 9) (j := 62) rfl
set_option maxRecDepth 100000 in
theorem cw_X11_loadOf : Cond.code yX11_loadOf cX11_loadOf 2 (some .int) ∈ ev_wd := ev_cw (k := 9) (j := 66) rfl
set_option maxRecDepth 100000 in
theorem cw_X11_refusal : Cond.code yX11_refusal cX11_refusal 3 (some .int) ∈ ev_wd := ev_cw (k := 9) (j := 70) rfl
set_option maxRecDepth 100000 in
theorem cw_X11_bestTaster : Cond.code yX11_bestTaster cX11_bestTaster 2 (some .int) ∈ ev_wd := ev_cw (k := 9) (j := 74) rfl
set_option maxRecDepth 100000 in
theorem cw_X11_lacking : Cond.code yX11_lacking cX11_lacking 1 (some .int) ∈ ev_wd := ev_cw (k := 9) (j := 78) rfl
set_option maxRecDepth 100000 in
theorem cw_X11_lackingAfterFilling : Cond.code yX11_lackingAfterFilling cX11_lackingAfterFilling 2 (some .int) ∈ ev_wd := ev_cw (k := 9) (j := 86) rfl
set_option maxRecDepth 100000 in
theorem cw_X11_scoreOf : Cond.code yX11_scoreOf cX11_scoreOf 3 (some .int) ∈ ev_wd := ev_cw (k := 9) (j := 90) rfl
set_option maxRecDepth 100000 in
theorem cw_X11_scoreCount : Cond.code yX11_scoreCount cX11_scoreCount 2 (some .int) ∈ ev_wd := ev_cw (k := 9) (j := 94) rfl
set_option maxRecDepth 100000 in
theorem cw_X11_meanOf : Cond.code yX11_meanOf cX11_meanOf 2 (some .int) ∈ ev_wd := ev_cw (k := 9) (j := 98) rfl
set_option maxRecDepth 100000 in
theorem cw_X11_adjustedScore : Cond.code yX11_adjustedScore cX11_adjustedScore 3 (some .int) ∈ ev_wd := ev_cw (k := 9) (j := 114) rfl
set_option maxRecDepth 100000 in
theorem cw_X11_harshest : Cond.code yX11_harshest cX11_harshest 3 (some .int) ∈ ev_wd := ev_cw (k := 9) (j := 130) rfl
set_option maxRecDepth 100000 in
theorem cw_X11_disagreement : Cond.code yX11_disagreement cX11_disagreement 4 (some .int) ∈ ev_wd := ev_cw (k := 9) (j := 134) rfl
set_option maxRecDepth 100000 in
theorem cw_X11_totalOf : Cond.code yX11_totalOf cX11_totalOf 2 (some .int) ∈ ev_wd := ev_cw (k := 9) (j := 142) rfl
set_option maxRecDepth 100000 in
theorem cw_X11_spreadOf : Cond.code yX11_spreadOf cX11_spreadOf 2 (some .int) ∈ ev_wd := ev_cw (k := 9) (j := 146) rfl
set_option maxRecDepth 100000 in
theorem cw_X11_needsTalk : Cond.code yX11_needsTalk cX11_needsTalk 2 (some .boolean) ∈ ev_wd := ev_cw (k := 9) (j := 156) rfl
set_option maxRecDepth 100000 in
theorem cw_X11_spreadAfterTalk : Cond.code yX11_spreadAfterTalk cX11_spreadAfterTalk 3 (some .int) ∈ ev_wd := ev_cw (k := 9) (j := 164) rfl
set_option maxRecDepth 100000 in
theorem cw_X11_rankOf : Cond.code yX11_rankOf cX11_rankOf 2 (some .int) ∈ ev_wd := ev_cw (k := 9) (j := 168) rfl
set_option maxRecDepth 100000 in
theorem cw_X11_pancakeAt : Cond.code yX11_pancakeAt cX11_pancakeAt 3 (some .int) ∈ ev_wd := ev_cw (k := 9) (j := 180) rfl
set_option maxRecDepth 100000 in
theorem cw_X11_isAccepted : Cond.code yX11_isAccepted cX11_isAccepted 2 (some .boolean) ∈ ev_wd := ev_cw (k := 9) (j := 184) rfl
set_option maxRecDepth 100000 in
theorem cw_X11_fillCount : Cond.code yX11_fillCount cX11_fillCount 1 (some .int) ∈ ev_wd := ev_cw (k := 9) (j := 188) rfl
set_option maxRecDepth 100000 in
theorem cw_X11_moveCount : Cond.code yX11_moveCount cX11_moveCount 1 (some .int) ∈ ev_wd := ev_cw (k := 9) (j := 192) rfl
set_option maxRecDepth 100000 in
theorem cw_X11_talkCount : Cond.code yX11_talkCount cX11_talkCount 1 (some .int) ∈ ev_wd := ev_cw (k := 9) (j := 196) rfl
set_option maxRecDepth 100000 in
theorem cw_X11_changeCount : Cond.code yX11_changeCount cX11_changeCount 1 (some .int) ∈ ev_wd := ev_cw (k := 9) (j := 200) rfl
set_option maxRecDepth 100000 in
theorem cw_X11_averageScore : Cond.code yX11_averageScore cX11_averageScore 1 (some .double) ∈ ev_wd := ev_cw (k := 9) (j := 204) rfl
set_option maxRecDepth 100000 in
theorem cw_X11_seatShare : Cond.code yX11_seatShare cX11_seatShare 1 (some .float) ∈ ev_wd := ev_cw (k := 9) (j := 208) rfl
set_option maxRecDepth 100000 in
theorem cw_X11_imbalance : Cond.code yX11_imbalance cX11_imbalance 5 (some .int) ∈ ev_wd := ev_cw (k := 9) (j := 212) rfl
set_option maxRecDepth 100000 in
theorem cw_X11_troubles : Cond.code yX11_troubles cX11_troubles 4 (some .int) ∈ ev_wd := ev_cw (k := 9) (j := 216) rfl
set_option maxRecDepth 100000 in
theorem cw_X11_writesByte : Cond.code yX11_writesByte cX11_writesByte 2 none ∈ ev_wd := ev_cw (k := 9) (j := 224) rfl
set_option maxRecDepth 100000 in
theorem cw_X11_writesNumber : Cond.code yX11_writesNumber cX11_writesNumber 4 none ∈ ev_wd := ev_cw (k := 9) (j := 228) rfl
set_option maxRecDepth 100000 in
theorem cw_X11_writePancake : Cond.code yX11_writePancake cX11_writePancake 5 (some .int) ∈ ev_wd := ev_cw (k := 9) (j := 220) rfl
set_option maxRecDepth 100000 in
theorem cw_X11_writeBids : Cond.code yX11_writeBids cX11_writeBids 3 (some .int) ∈ ev_wd := ev_cw (k := 9) (j := 232) rfl
set_option maxRecDepth 100000 in
theorem cw_X11_outputByte : Cond.code yX11_outputByte cX11_outputByte 2 (some .int) ∈ ev_wd := ev_cw (k := 9) (j := 236) rfl
set_option maxRecDepth 100000 in
theorem cw_X11_remembers : Cond.code yX11_remembers cX11_remembers 2 none ∈ ev_wd := ev_cw (k := 10) (j := 4) rfl
set_option maxRecDepth 100000 in
theorem cw_X11_bid : Cond.code yX11_bid cX11_bid 6 (some .int) ∈ ev_wd := ev_cw (k := 10) (j := 0) rfl
set_option maxRecDepth 100000 in
theorem cw_X11_assign : Cond.code yX11_assign cX11_assign 4 (some .int) ∈ ev_wd := ev_cw (k := 10) (j := 8) rfl
set_option maxRecDepth 100000 in
theorem cw_X11_unassign : Cond.code yX11_unassign cX11_unassign 4 (some .int) ∈ ev_wd := ev_cw (k := 10) (j := 12) rfl
set_option maxRecDepth 100000 in
theorem cw_X11_fill : Cond.code yX11_fill cX11_fill 1 (some .int) ∈ ev_wd := ev_cw (k := 10) (j := 16) rfl
set_option maxRecDepth 100000 in
theorem cw_X11_score : Cond.code yX11_score cX11_score 6 (some .int) ∈ ev_wd := ev_cw (k := 10) (j := 20) rfl
set_option maxRecDepth 100000 in
theorem cw_X11_talk : Cond.code yX11_talk cX11_talk 3 (some .int) ∈ ev_wd := ev_cw (k := 10) (j := 24) rfl
set_option maxRecDepth 100000 in
theorem cw_X11_declare : Cond.code yX11_declare cX11_declare 5 (some .boolean) ∈ ev_wd := ev_cw (k := 10) (j := 28) rfl
set_option maxRecDepth 100000 in
theorem cw_X11_undo : Cond.code yX11_undo cX11_undo 1 (some .int) ∈ ev_wd := ev_cw (k := 10) (j := 32) rfl
set_option maxRecDepth 100000 in
theorem cw_X11_undoCount : Cond.code yX11_undoCount cX11_undoCount 1 (some .int) ∈ ev_wd := ev_cw (k := 10) (j := 36) rfl
set_option maxRecDepth 100000 in
theorem cw_X11_isSlot : Cond.code yX11_isSlot cX11_isSlot 1 (some .boolean) ∈ ev_wd := ev_cw (k := 10) (j := 43) rfl
set_option maxRecDepth 100000 in
theorem cw_X11_saveState : Cond.code yX11_saveState cX11_saveState 2 (some .int) ∈ ev_wd := ev_cw (k := 10) (j := 40) rfl
set_option maxRecDepth 100000 in
theorem cw_X11_restoreState : Cond.code yX11_restoreState cX11_restoreState 3 (some .int) ∈ ev_wd := ev_cw (k := 10) (j := 47) rfl
set_option maxRecDepth 100000 in
theorem cw_J7_fill_d0a16 : Cond.code yJ7_fill_d0a16 cJ7_fill_d0a16 5 none ∈ ev_wd := ev_cw (k := 2) (j := 179) rfl
set_option maxRecDepth 100000 in
theorem cw_J7_fill_53178 : Cond.code yJ7_fill_53178 cJ7_fill_53178 4 none ∈ ev_wd := ev_cw (k := 2) (j := 182) rfl
set_option maxRecDepth 100000 in
theorem okF_X1 : ev_okF RX1 fl_X1 := ev_okF_of (hs := [(1, 44), (1, 45)]) (by decide +kernel) (by decide +kernel)
set_option maxRecDepth 100000 in
theorem okC_X1 : ev_okC RX1 ca_X1 := ev_okC_of (cs := ca_X1.map ev_sp) (hs := [(1, 41), (2, 206), (2, 207), (1, 1), (2, 73), (2, 74), (1, 1), (2, 69), (2, 70), (2, 71), (1, 2), (6, 91), (3, 59), (1, 1), (6, 92), (4, 199), (1, 1), (6, 97)]) rfl (by decide +kernel) (by decide +kernel) (List.forall_mem_cons.mpr ⟨(fun h => absurd h (by decide)), (List.forall_mem_cons.mpr ⟨(fun _ => cw_X10_cell), (List.forall_mem_cons.mpr ⟨(fun _ => cw_X10_setCell), (List.forall_mem_cons.mpr ⟨(fun _ => cw_X1_add), (List.forall_mem_cons.mpr ⟨(fun _ => cw_X10_letterCount), (List.forall_mem_cons.mpr ⟨(fun _ => cw_X10_letterOf), (List.forall_mem_cons.mpr ⟨(fun h => absurd h (by decide)), (fun _ h => absurd h List.not_mem_nil)⟩)⟩)⟩)⟩)⟩)⟩)⟩)
theorem okK_X1 : ev_okK RX1 ko_X1 kl_X1 := ⟨by decide +kernel, by decide +kernel⟩
set_option maxRecDepth 100000 in
theorem okF_X2 : ev_okF RX2 fl_X2 := ev_okF_of (hs := [(2, 28), (2, 30), (2, 29)]) (by decide +kernel) (by decide +kernel)
set_option maxRecDepth 100000 in
theorem okC_X2 : ev_okC RX2 ca_X2 := ev_okC_of (cs := ca_X2.map ev_sp) (hs := [(6, 128), (4, 88), (4, 89), (1, 5), (6, 129)]) rfl (by decide +kernel) (by decide +kernel) (List.forall_mem_cons.mpr ⟨(fun _ => cw_X4_copyFrom), (List.forall_mem_cons.mpr ⟨(fun h => absurd h (by decide)), (fun _ h => absurd h List.not_mem_nil)⟩)⟩)
theorem okK_X2 : ev_okK RX2 ko_X2 kl_X2 := ⟨by decide +kernel, by decide +kernel⟩
set_option maxRecDepth 100000 in
theorem okF_X4 : ev_okF RX4 fl_X4 := ev_okF_of (hs := [(1, 141), (1, 142), (1, 145), (1, 148), (1, 150), (1, 153), (1, 155), (1, 158), (1, 161), (1, 164), (1, 167), (1, 124), (1, 126), (1, 128), (1, 131), (1, 134), (1, 137), (1, 139)]) (by decide +kernel) (by decide +kernel)
set_option maxRecDepth 100000 in
theorem okC_X4 : ev_okC RX4 ca_X4 := ev_okC_of (cs := ca_X4.map ev_sp) (hs := [(2, 177), (2, 178), (1, 16), (2, 180), (2, 181), (1, 16), (2, 183), (2, 184), (2, 185), (1, 6), (2, 188), (2, 189), (2, 190), (1, 7), (2, 193), (2, 194), (2, 195), (1, 8), (4, 91), (4, 95), (4, 96), (1, 1), (4, 100), (4, 101), (4, 102), (1, 6), (4, 105), (4, 106), (4, 107), (1, 7), (4, 110), (4, 111), (4, 112), (1, 8), (3, 65), (3, 66), (3, 67), (1, 5), (3, 73), (2, 74), (1, 1), (3, 86), (2, 207), (1, 1), (3, 134), (3, 88), (3, 89), (1, 6), (3, 161), (3, 127), (3, 128), (1, 6), (3, 184), (3, 185), (3, 186), (1, 5), (3, 149), (3, 150), (3, 151), (1, 5), (3, 148), (3, 101), (3, 102), (1, 7), (3, 153), (3, 154), (3, 155), (1, 7), (3, 157), (3, 158), (3, 159), (1, 7), (3, 147), (3, 83), (3, 84), (1, 5), (3, 162), (3, 163), (3, 164), (1, 5), (3, 179), (3, 144), (3, 145), (1, 5), (3, 180), (3, 182), (0, 22), (1, 5), (3, 198), (3, 199), (3, 200), (1, 7), (3, 215), (3, 216), (3, 217), (1, 8), (4, 41), (3, 212), (3, 213), (1, 5), (5, 91), (5, 92), (5, 93), (1, 5), (3, 171), (3, 173), (0, 21), (1, 5), (3, 175), (3, 176), (3, 177), (1, 5), (3, 188), (3, 105), (3, 106), (1, 7), (3, 189), (3, 191), (0, 23), (1, 5), (3, 193), (3, 194), (3, 195), (1, 8), (5, 203), (5, 189), (5, 190), (1, 8)]) rfl (by decide +kernel) (by decide +kernel) (List.forall_mem_cons.mpr ⟨(fun _ => cw_J7_fill_d0a16), (List.forall_mem_cons.mpr ⟨(fun _ => cw_J7_fill_53178), (List.forall_mem_cons.mpr ⟨(fun _ => cw_X8_clear), (List.forall_mem_cons.mpr ⟨(fun _ => cw_X5_clear), (List.forall_mem_cons.mpr ⟨(fun _ => cw_X6_clear), (List.forall_mem_cons.mpr ⟨(fun h => absurd h (by decide)), (List.forall_mem_cons.mpr ⟨(fun h => absurd h (by decide)), (List.forall_mem_cons.mpr ⟨(fun _ => cw_X10_copyRow), (List.forall_mem_cons.mpr ⟨(fun _ => cw_X8_copyFrom), (List.forall_mem_cons.mpr ⟨(fun _ => cw_X5_copyFrom), (List.forall_mem_cons.mpr ⟨(fun _ => cw_X6_copyFrom), (List.forall_mem_cons.mpr ⟨(fun _ => cw_X4_name), (List.forall_mem_cons.mpr ⟨(fun _ => cw_X10_setCell), (List.forall_mem_cons.mpr ⟨(fun _ => cw_X10_cell), (List.forall_mem_cons.mpr ⟨(fun _ => cw_X8_set), (List.forall_mem_cons.mpr ⟨(fun _ => cw_X8_get), (List.forall_mem_cons.mpr ⟨(fun _ => cw_X4_liking), (List.forall_mem_cons.mpr ⟨(fun _ => cw_X4_conflictReason), (List.forall_mem_cons.mpr ⟨(fun _ => cw_X5_contains), (List.forall_mem_cons.mpr ⟨(fun _ => cw_X5_size), (List.forall_mem_cons.mpr ⟨(fun _ => cw_X5_member), (List.forall_mem_cons.mpr ⟨(fun _ => cw_X4_isOneOfTasters), (List.forall_mem_cons.mpr ⟨(fun _ => cw_X4_load), (List.forall_mem_cons.mpr ⟨(fun _ => cw_X4_refusalReason), (List.forall_mem_cons.mpr ⟨(fun _ => cw_X4_isBetter), (List.forall_mem_cons.mpr ⟨(fun _ => cw_X5_remove), (List.forall_mem_cons.mpr ⟨(fun _ => cw_X6_put), (List.forall_mem_cons.mpr ⟨(fun _ => cw_X4_takeSeat), (List.forall_mem_cons.mpr ⟨(fun _ => cw_X4_takenSeats), (List.forall_mem_cons.mpr ⟨(fun _ => cw_X4_neediest), (List.forall_mem_cons.mpr ⟨(fun _ => cw_X4_bestFor), (List.forall_mem_cons.mpr ⟨(fun _ => cw_X5_add), (List.forall_mem_cons.mpr ⟨(fun _ => cw_X4_makeMove), (List.forall_mem_cons.mpr ⟨(fun _ => cw_X6_given), (List.forall_mem_cons.mpr ⟨(fun _ => cw_X6_spread), (fun _ h => absurd h List.not_mem_nil)⟩)⟩)⟩)⟩)⟩)⟩)⟩)⟩)⟩)⟩)⟩)⟩)⟩)⟩)⟩)⟩)⟩)⟩)⟩)⟩)⟩)⟩)⟩)⟩)⟩)⟩)⟩)⟩)⟩)⟩)⟩)⟩)⟩)⟩)⟩)
theorem okK_X4 : ev_okK RX4 ko_X4 kl_X4 := ⟨by decide +kernel, by decide +kernel⟩
set_option maxRecDepth 100000 in
theorem okF_X5 : ev_okF RX5 fl_X5 := ev_okF_of (hs := [(1, 89), (1, 90)]) (by decide +kernel) (by decide +kernel)
set_option maxRecDepth 100000 in
theorem okC_X5 : ev_okC RX5 ca_X5 := ev_okC_of (cs := ca_X5.map ev_sp) (hs := [(3, 108), (2, 207), (1, 1), (3, 109), (2, 74), (1, 1), (3, 202), (3, 158), (3, 159), (1, 7), (2, 192), (2, 181), (1, 16), (4, 109), (4, 96), (1, 1)]) rfl (by decide +kernel) (by decide +kernel) (List.forall_mem_cons.mpr ⟨(fun _ => cw_X10_cell), (List.forall_mem_cons.mpr ⟨(fun _ => cw_X10_setCell), (List.forall_mem_cons.mpr ⟨(fun _ => cw_X5_member), (List.forall_mem_cons.mpr ⟨(fun _ => cw_J7_fill_53178), (List.forall_mem_cons.mpr ⟨(fun _ => cw_X10_copyRow), (fun _ h => absurd h List.not_mem_nil)⟩)⟩)⟩)⟩)⟩)
theorem okK_X5 : ev_okK RX5 ko_X5 kl_X5 := ⟨by decide +kernel, by decide +kernel⟩
set_option maxRecDepth 100000 in
theorem okF_X6 : ev_okF RX6 fl_X6 := ev_okF_of (hs := [(1, 104), (1, 105), (1, 107), (1, 109), (1, 111)]) (by decide +kernel) (by decide +kernel)
set_option maxRecDepth 100000 in
theorem okC_X6 : ev_okC RX6 ca_X6 := ev_okC_of (cs := ca_X6.map ev_sp) (hs := [(2, 197), (2, 184), (2, 185), (1, 6), (4, 114), (4, 101), (4, 102), (1, 6), (3, 197), (3, 127), (3, 128), (1, 6), (3, 219), (3, 88), (3, 89), (1, 6), (5, 141), (5, 127), (5, 128), (1, 8), (5, 157), (5, 159), (0, 42), (1, 8), (5, 153), (5, 154), (5, 155), (1, 8), (4, 9), (4, 12), (5, 161), (5, 162), (5, 163), (1, 8), (4, 13), (5, 224), (5, 226), (0, 43), (1, 8), (6, 0), (5, 221), (5, 222), (1, 8), (3, 237), (3, 238), (3, 239), (1, 8), (4, 5), (4, 7), (0, 29), (1, 8), (4, 16), (3, 216), (3, 217), (1, 8)]) rfl (by decide +kernel) (by decide +kernel) (List.forall_mem_cons.mpr ⟨(fun _ => cw_X8_clear), (List.forall_mem_cons.mpr ⟨(fun _ => cw_X8_copyFrom), (List.forall_mem_cons.mpr ⟨(fun _ => cw_X8_get), (List.forall_mem_cons.mpr ⟨(fun _ => cw_X8_set), (List.forall_mem_cons.mpr ⟨(fun _ => cw_X6_mean), (List.forall_mem_cons.mpr ⟨(fun _ => cw_X6_meanOfAll), (List.forall_mem_cons.mpr ⟨(fun _ => cw_X6_adjusted), (List.forall_mem_cons.mpr ⟨(fun h => absurd h (by decide)), (List.forall_mem_cons.mpr ⟨(fun h => absurd h (by decide)), (List.forall_mem_cons.mpr ⟨(fun _ => cw_X6_total), (List.forall_mem_cons.mpr ⟨(fun h => absurd h (by decide)), (List.forall_mem_cons.mpr ⟨(fun _ => cw_X6_comesBefore), (List.forall_mem_cons.mpr ⟨(fun _ => cw_X6_rank), (List.forall_mem_cons.mpr ⟨(fun _ => cw_X6_countFor), (List.forall_mem_cons.mpr ⟨(fun _ => cw_X6_middle), (List.forall_mem_cons.mpr ⟨(fun _ => cw_X6_put), (fun _ h => absurd h List.not_mem_nil)⟩)⟩)⟩)⟩)⟩)⟩)⟩)⟩)⟩)⟩)⟩)⟩)⟩)⟩)⟩)⟩)
theorem okK_X6 : ev_okK RX6 ko_X6 kl_X6 := ⟨by decide +kernel, by decide +kernel⟩
set_option maxRecDepth 100000 in
theorem okF_X7 : ev_okF RX7 fl_X7 := ev_okF_of (hs := [(1, 229), (1, 233), (1, 235), (1, 236), (1, 237), (1, 231), (1, 238), (1, 239), (1, 127), (1, 129), (1, 132), (1, 136), (1, 151), (1, 146), (1, 163), (1, 156), (1, 154), (1, 159), (1, 165), (1, 168), (1, 144)]) (by decide +kernel) (by decide +kernel)
set_option maxRecDepth 100000 in
theorem okC_X7 : ev_okC RX7 ca_X7 := ev_okC_of (cs := ca_X7.map ev_sp) (hs := [(2, 173), (2, 174), (2, 175), (1, 5), (2, 198), (2, 199), (2, 200), (1, 9), (2, 233), (2, 235), (0, 4), (1, 4), (3, 1), (3, 2), (3, 3), (1, 9), (3, 28), (3, 30), (0, 8), (1, 4), (4, 62), (4, 64), (0, 37), (1, 4), (3, 15), (3, 17), (0, 6), (1, 4), (2, 237), (2, 239), (0, 5), (1, 4), (3, 23), (3, 25), (0, 7), (1, 4), (3, 32), (3, 34), (0, 9), (1, 4), (3, 50), (3, 52), (0, 10), (1, 4), (3, 74), (3, 76), (0, 12), (1, 4), (3, 92), (3, 94), (0, 14), (1, 4), (3, 110), (3, 112), (0, 15), (1, 4), (3, 122), (3, 124), (0, 18), (1, 4), (3, 135), (3, 137), (0, 19), (1, 4), (3, 139), (3, 141), (0, 20), (1, 4), (3, 166), (3, 167), (3, 168), (1, 5), (3, 203), (3, 205), (0, 24), (1, 4), (3, 220), (3, 222), (0, 26), (1, 4), (3, 225), (3, 227), (0, 27), (1, 4), (4, 17), (4, 19), (0, 30), (1, 4), (4, 21), (4, 23), (0, 31), (1, 4), (4, 25), (4, 27), (0, 32), (1, 4), (4, 33), (4, 35), (0, 33), (1, 4), (4, 42), (4, 44), (0, 34), (1, 4), (4, 50), (4, 52), (0, 35), (1, 4), (4, 58), (4, 60), (0, 36), (1, 4), (3, 7), (3, 8), (3, 9), (1, 9), (3, 54), (3, 56), (0, 11), (1, 4), (3, 61), (3, 62), (3, 63), (1, 5), (3, 69), (3, 70), (3, 71), (1, 5), (3, 78), (3, 80), (0, 13), (1, 4), (3, 82), (3, 83), (3, 84), (1, 5), (3, 87), (3, 88), (3, 89), (1, 6), (3, 91), (2, 74), (1, 1), (3, 96), (3, 97), (3, 98), (1, 5), (3, 100), (3, 101), (3, 102), (1, 7), (3, 104), (3, 105), (3, 106), (1, 7), (3, 114), (3, 116), (0, 16), (1, 4), (3, 118), (3, 120), (0, 17), (1, 4), (3, 126), (3, 127), (3, 128), (1, 6), (3, 130), (3, 131), (3, 132), (1, 5), (3, 143), (3, 144), (3, 145), (1, 5), (3, 207), (3, 209), (0, 25), (1, 4), (3, 211), (3, 212), (3, 213), (1, 5), (3, 224), (3, 216), (3, 217), (1, 8), (3, 229), (3, 231), (0, 28), (1, 4), (4, 1), (4, 2), (4, 3), (1, 8), (4, 29), (4, 30), (4, 31), (1, 5), (4, 37), (4, 38), (4, 39), (1, 5), (4, 46), (4, 47), (4, 48), (1, 8), (4, 54), (4, 55), (4, 56), (1, 5), (4, 66), (2, 207), (1, 1), (3, 58), (3, 59), (1, 1), (3, 233), (3, 234), (3, 235), (1, 8), (3, 19), (3, 20), (3, 21), (1, 9)]) rfl (by decide +kernel) (by decide +kernel) (List.forall_mem_cons.mpr ⟨(fun _ => cw_X4_clear), (List.forall_mem_cons.mpr ⟨(fun _ => cw_X9_split), (List.forall_mem_cons.mpr ⟨(fun _ => cw_X7_readHead), (List.forall_mem_cons.mpr ⟨(fun _ => cw_X9_kind), (List.forall_mem_cons.mpr ⟨(fun _ => cw_X7_readItem), (List.forall_mem_cons.mpr ⟨(fun _ => cw_X7_endPass), (List.forall_mem_cons.mpr ⟨(fun _ => cw_X7_fail), (List.forall_mem_cons.mpr ⟨(fun _ => cw_X7_keyword), (List.forall_mem_cons.mpr ⟨(fun _ => cw_X7_number), (List.forall_mem_cons.mpr ⟨(fun _ => cw_X7_isOneTooMany), (List.forall_mem_cons.mpr ⟨(fun _ => cw_X7_readPerson), (List.forall_mem_cons.mpr ⟨(fun _ => cw_X7_readTaster), (List.forall_mem_cons.mpr ⟨(fun _ => cw_X7_readPancake), (List.forall_mem_cons.mpr ⟨(fun _ => cw_X7_readBid), (List.forall_mem_cons.mpr ⟨(fun _ => cw_X7_readTogether), (List.forall_mem_cons.mpr ⟨(fun _ => cw_X7_readConflict), (List.forall_mem_cons.mpr ⟨(fun _ => cw_X7_readSeat), (List.forall_mem_cons.mpr ⟨(fun _ => cw_X4_fillSeats), (List.forall_mem_cons.mpr ⟨(fun _ => cw_X7_readLeave), (List.forall_mem_cons.mpr ⟨(fun _ => cw_X7_readScore), (List.forall_mem_cons.mpr ⟨(fun _ => cw_X7_readTalk), (List.forall_mem_cons.mpr ⟨(fun _ => cw_X7_readLimit), (List.forall_mem_cons.mpr ⟨(fun _ => cw_X7_readKitchen), (List.forall_mem_cons.mpr ⟨(fun _ => cw_X7_readSwap), (List.forall_mem_cons.mpr ⟨(fun _ => cw_X7_readClear), (List.forall_mem_cons.mpr ⟨(fun _ => cw_X7_readEven), (List.forall_mem_cons.mpr ⟨(fun _ => cw_X7_readCopy), (List.forall_mem_cons.mpr ⟨(fun _ => cw_X7_beginRepeat), (List.forall_mem_cons.mpr ⟨(fun _ => cw_X9_value), (List.forall_mem_cons.mpr ⟨(fun _ => cw_X7_checkName), (List.forall_mem_cons.mpr ⟨(fun _ => cw_X4_personNamed), (List.forall_mem_cons.mpr ⟨(fun _ => cw_X4_addPerson), (List.forall_mem_cons.mpr ⟨(fun _ => cw_X7_person), (List.forall_mem_cons.mpr ⟨(fun _ => cw_X4_isOneOfTasters), (List.forall_mem_cons.mpr ⟨(fun _ => cw_X8_set), (List.forall_mem_cons.mpr ⟨(fun _ => cw_X10_setCell), (List.forall_mem_cons.mpr ⟨(fun _ => cw_X4_addPancake), (List.forall_mem_cons.mpr ⟨(fun _ => cw_X5_contains), (List.forall_mem_cons.mpr ⟨(fun _ => cw_X5_add), (List.forall_mem_cons.mpr ⟨(fun _ => cw_X7_checkTaster), (List.forall_mem_cons.mpr ⟨(fun _ => cw_X7_pancake), (List.forall_mem_cons.mpr ⟨(fun _ => cw_X8_get), (List.forall_mem_cons.mpr ⟨(fun _ => cw_X4_joinCooks), (List.forall_mem_cons.mpr ⟨(fun _ => cw_X4_refusalReason), (List.forall_mem_cons.mpr ⟨(fun _ => cw_X7_checkSeat), (List.forall_mem_cons.mpr ⟨(fun _ => cw_X4_takeSeat), (List.forall_mem_cons.mpr ⟨(fun _ => cw_X6_put), (List.forall_mem_cons.mpr ⟨(fun _ => cw_X7_checkScores), (List.forall_mem_cons.mpr ⟨(fun _ => cw_X6_holdTalk), (List.forall_mem_cons.mpr ⟨(fun _ => cw_X4_swapTopics), (List.forall_mem_cons.mpr ⟨(fun _ => cw_X4_clearSeats), (List.forall_mem_cons.mpr ⟨(fun _ => cw_X6_makeEven), (List.forall_mem_cons.mpr ⟨(fun _ => cw_X4_copyBids), (List.forall_mem_cons.mpr ⟨(fun _ => cw_X10_cell), (List.forall_mem_cons.mpr ⟨(fun _ => cw_X10_letterCount), (List.forall_mem_cons.mpr ⟨(fun _ => cw_X6_canBeTalkedOver), (List.forall_mem_cons.mpr ⟨(fun _ => cw_X9_start), (fun _ h => absurd h List.not_mem_nil)⟩)⟩)⟩)⟩)⟩)⟩)⟩)⟩)⟩)⟩)⟩)⟩)⟩)⟩)⟩)⟩)⟩)⟩)⟩)⟩)⟩)⟩)⟩)⟩)⟩)⟩)⟩)⟩)⟩)⟩)⟩)⟩)⟩)⟩)⟩)⟩)⟩)⟩)⟩)⟩)⟩)⟩)⟩)⟩)⟩)⟩)⟩)⟩)⟩)⟩)⟩)⟩)⟩)⟩)⟩)⟩)⟩)
theorem okK_X7 : ev_okK RX7 ko_X7 kl_X7 := ⟨by decide +kernel, by decide +kernel⟩
set_option maxRecDepth 100000 in
theorem okF_X8 : ev_okF RX8 fl_X8 := ev_okF_of (hs := [(1, 72), (1, 73), (1, 74)]) (by decide +kernel) (by decide +kernel)
set_option maxRecDepth 100000 in
theorem okC_X8 : ev_okC RX8 ca_X8 := ev_okC_of (cs := ca_X8.map ev_sp) (hs := [(1, 71), (2, 187), (2, 181), (1, 16), (4, 104), (4, 96), (1, 1)]) rfl (by decide +kernel) (by decide +kernel) (List.forall_mem_cons.mpr ⟨(fun h => absurd h (by decide)), (List.forall_mem_cons.mpr ⟨(fun _ => cw_J7_fill_53178), (List.forall_mem_cons.mpr ⟨(fun _ => cw_X10_copyRow), (fun _ h => absurd h List.not_mem_nil)⟩)⟩)⟩)
theorem okK_X8 : ev_okK RX8 ko_X8 kl_X8 := ⟨by decide +kernel, by decide +kernel⟩
set_option maxRecDepth 100000 in
theorem okF_X9 : ev_okF RX9 fl_X9 := ev_okF_of (hs := [(1, 213), (1, 214), (1, 215), (1, 216), (1, 217)]) (by decide +kernel) (by decide +kernel)
set_option maxRecDepth 100000 in
theorem okC_X9 : ev_okC RX9 ca_X9 := ev_okC_of (cs := ca_X9.map ev_sp) (hs := [(2, 202), (2, 203), (2, 204), (1, 2), (2, 209), (2, 210), (1, 9), (2, 212), (2, 214), (0, 1), (1, 9), (2, 221), (2, 222), (1, 9), (2, 224), (2, 226), (0, 3), (1, 9), (2, 230), (2, 231), (1, 9), (2, 216), (2, 218), (0, 2), (1, 9), (2, 220), (2, 74), (1, 1)]) rfl (by decide +kernel) (by decide +kernel) (List.forall_mem_cons.mpr ⟨(fun _ => cw_X1_get), (List.forall_mem_cons.mpr ⟨(fun _ => cw_X9_isLetter), (List.forall_mem_cons.mpr ⟨(fun _ => cw_X9_addWordAt), (List.forall_mem_cons.mpr ⟨(fun _ => cw_X9_isDigit), (List.forall_mem_cons.mpr ⟨(fun _ => cw_X9_addNumberAt), (List.forall_mem_cons.mpr ⟨(fun _ => cw_X9_kindOf), (List.forall_mem_cons.mpr ⟨(fun _ => cw_X9_add), (List.forall_mem_cons.mpr ⟨(fun _ => cw_X10_setCell), (fun _ h => absurd h List.not_mem_nil)⟩)⟩)⟩)⟩)⟩)⟩)⟩)⟩)
theorem okK_X9 : ev_okK RX9 ko_X9 kl_X9 := ⟨by decide +kernel, by decide +kernel⟩
set_option maxRecDepth 100000 in
theorem okF_X10 : ev_okF RX10 fl_X10 := ev_okF_of (hs := [(2, 39), (2, 40), (2, 41), (2, 42), (2, 43), (2, 44), (2, 45), (1, 46), (1, 230), (1, 125), (1, 135), (1, 232), (1, 234), (1, 149), (1, 162), (1, 133), (1, 143), (1, 147), (1, 152), (1, 157), (1, 166), (1, 169), (1, 130), (1, 138), (1, 140), (1, 110), (1, 112), (1, 106), (1, 108), (1, 160), (2, 31)]) (by decide +kernel) (by decide +kernel)
set_option maxRecDepth 100000 in
theorem okC_X10 : ev_okC RX10 ca_X10 := ev_okC_of (cs := ca_X10.map ev_sp) (hs := [(2, 65), (2, 66), (2, 67), (1, 2), (2, 169), (2, 170), (2, 171), (1, 4), (4, 67), (4, 68), (4, 69), (1, 2), (4, 87), (4, 88), (4, 89), (1, 5), (4, 115), (4, 116), (4, 117), (1, 10), (4, 127), (4, 129), (0, 38), (1, 1), (4, 154), (4, 156), (0, 39), (1, 1), (4, 159), (2, 207), (1, 1), (4, 167), (3, 154), (3, 155), (1, 7), (4, 176), (3, 158), (3, 159), (1, 7), (4, 191), (4, 193), (0, 40), (1, 1), (4, 196), (3, 66), (3, 67), (1, 5), (4, 197), (3, 59), (1, 1), (4, 198), (4, 199), (1, 1), (4, 215), (3, 83), (3, 84), (1, 5), (4, 231), (3, 127), (3, 128), (1, 6), (4, 239), (5, 1), (0, 41), (1, 1), (5, 10), (3, 185), (3, 186), (1, 5), (5, 18), (3, 150), (3, 151), (1, 5), (5, 26), (5, 27), (5, 28), (1, 5), (5, 37), (5, 38), (5, 39), (1, 5), (5, 63), (3, 163), (3, 164), (1, 5), (5, 71), (3, 144), (3, 145), (1, 5), (5, 79), (3, 176), (3, 177), (1, 5), (5, 87), (5, 88), (5, 89), (1, 5), (5, 102), (3, 167), (3, 168), (1, 5), (5, 110), (3, 194), (3, 195), (1, 8), (5, 118), (3, 238), (3, 239), (1, 8), (5, 126), (5, 127), (5, 128), (1, 8), (5, 137), (5, 138), (5, 139), (1, 8), (5, 149), (5, 150), (5, 151), (1, 8), (5, 172), (5, 154), (5, 155), (1, 8), (5, 180), (5, 162), (5, 163), (1, 8), (5, 188), (5, 189), (5, 190), (1, 8), (5, 199), (5, 200), (5, 201), (1, 5), (5, 211), (3, 234), (3, 235), (1, 8), (5, 212), (4, 2), (4, 3), (1, 8), (5, 220), (5, 221), (5, 222), (1, 8), (5, 236), (5, 237), (5, 238), (1, 8), (6, 50), (5, 92), (5, 93), (1, 5), (6, 58), (6, 59), (6, 60), (1, 5), (6, 62), (6, 63), (6, 64), (1, 5), (6, 66), (6, 67), (6, 68), (1, 5), (6, 70), (6, 71), (6, 72), (1, 5), (6, 74), (6, 82), (2, 70), (2, 71), (1, 2), (6, 83), (6, 85), (0, 44), (1, 1), (6, 93), (6, 94), (6, 95), (1, 2), (6, 106), (3, 101), (3, 102), (1, 7), (6, 115), (2, 203), (2, 204), (1, 2), (6, 124), (6, 125), (6, 126), (1, 10), (6, 130), (3, 88), (3, 89), (1, 6), (6, 139), (3, 105), (3, 106), (1, 7), (6, 147), (6, 149), (0, 45), (1, 1), (6, 152), (3, 212), (3, 213), (1, 5), (6, 168), (3, 216), (3, 217), (1, 8), (6, 192), (6, 193), (6, 194), (1, 10), (6, 87), (6, 88), (6, 89), (1, 2), (4, 98)]) rfl (by decide +kernel) (by decide +kernel) (List.forall_mem_cons.mpr ⟨(fun _ => cw_X1_addFourBytes), (List.forall_mem_cons.mpr ⟨(fun _ => cw_X7_parse), (List.forall_mem_cons.mpr ⟨(fun _ => cw_X1_empty), (List.forall_mem_cons.mpr ⟨(fun _ => cw_X4_copyFrom), (List.forall_mem_cons.mpr ⟨(fun _ => cw_X2_forget), (List.forall_mem_cons.mpr ⟨(fun _ => cw_X10_requirePanel), (List.forall_mem_cons.mpr ⟨(fun _ => cw_X10_requirePancake), (List.forall_mem_cons.mpr ⟨(fun _ => cw_X10_cell), (List.forall_mem_cons.mpr ⟨(fun _ => cw_X5_size), (List.forall_mem_cons.mpr ⟨(fun _ => cw_X5_member), (List.forall_mem_cons.mpr ⟨(fun _ => cw_X10_requirePerson), (List.forall_mem_cons.mpr ⟨(fun _ => cw_X4_name), (List.forall_mem_cons.mpr ⟨(fun _ => cw_X10_letterCount), (List.forall_mem_cons.mpr ⟨(fun _ => cw_X10_letterOf), (List.forall_mem_cons.mpr ⟨(fun _ => cw_X4_isOneOfTasters), (List.forall_mem_cons.mpr ⟨(fun _ => cw_X8_get), (List.forall_mem_cons.mpr ⟨(fun _ => cw_X10_requirePair), (List.forall_mem_cons.mpr ⟨(fun _ => cw_X4_liking), (List.forall_mem_cons.mpr ⟨(fun _ => cw_X4_conflictReason), (List.forall_mem_cons.mpr ⟨(fun _ => cw_X4_tastersInConflict), (List.forall_mem_cons.mpr ⟨(fun _ => cw_X4_mostLiked), (List.forall_mem_cons.mpr ⟨(fun _ => cw_X4_load), (List.forall_mem_cons.mpr ⟨(fun _ => cw_X4_refusalReason), (List.forall_mem_cons.mpr ⟨(fun _ => cw_X4_bestFor), (List.forall_mem_cons.mpr ⟨(fun _ => cw_X4_freeSeats), (List.forall_mem_cons.mpr ⟨(fun _ => cw_X4_fillSeats), (List.forall_mem_cons.mpr ⟨(fun _ => cw_X6_given), (List.forall_mem_cons.mpr ⟨(fun _ => cw_X6_countFor), (List.forall_mem_cons.mpr ⟨(fun _ => cw_X6_mean), (List.forall_mem_cons.mpr ⟨(fun _ => cw_X6_personWithLeastMean), (List.forall_mem_cons.mpr ⟨(fun _ => cw_X6_distanceFromTotals), (List.forall_mem_cons.mpr ⟨(fun _ => cw_X6_adjusted), (List.forall_mem_cons.mpr ⟨(fun _ => cw_X6_total), (List.forall_mem_cons.mpr ⟨(fun _ => cw_X6_spread), (List.forall_mem_cons.mpr ⟨(fun _ => cw_X4_isDisputed), (List.forall_mem_cons.mpr ⟨(fun _ => cw_X6_canBeTalkedOver), (List.forall_mem_cons.mpr ⟨(fun _ => cw_X6_holdTalk), (List.forall_mem_cons.mpr ⟨(fun _ => cw_X6_rank), (List.forall_mem_cons.mpr ⟨(fun _ => cw_X6_pancakeWithRank), (List.forall_mem_cons.mpr ⟨(fun _ => cw_X4_takenSeats), (List.forall_mem_cons.mpr ⟨(fun _ => cw_X4_seatsInConflict), (List.forall_mem_cons.mpr ⟨(fun _ => cw_X4_overloadedTasters), (List.forall_mem_cons.mpr ⟨(fun _ => cw_X4_scoresWithoutSeat), (List.forall_mem_cons.mpr ⟨(fun _ => cw_X4_loadSum), (List.forall_mem_cons.mpr ⟨(fun h => absurd h (by decide)), (List.forall_mem_cons.mpr ⟨(fun _ => cw_X1_add), (List.forall_mem_cons.mpr ⟨(fun _ => cw_X10_writeTaster), (List.forall_mem_cons.mpr ⟨(fun _ => cw_X1_addNumber), (List.forall_mem_cons.mpr ⟨(fun _ => cw_X5_contains), (List.forall_mem_cons.mpr ⟨(fun _ => cw_X1_get), (List.forall_mem_cons.mpr ⟨(fun _ => cw_X2_remember), (List.forall_mem_cons.mpr ⟨(fun _ => cw_X8_set), (List.forall_mem_cons.mpr ⟨(fun _ => cw_X5_add), (List.forall_mem_cons.mpr ⟨(fun _ => cw_X10_requireSeat), (List.forall_mem_cons.mpr ⟨(fun _ => cw_X4_takeSeat), (List.forall_mem_cons.mpr ⟨(fun _ => cw_X6_put), (List.forall_mem_cons.mpr ⟨(fun _ => cw_X2_bringBack), (List.forall_mem_cons.mpr ⟨(fun _ => cw_X1_addWord), (List.forall_mem_cons.mpr ⟨(fun h => absurd h (by decide)), (List.forall_mem_cons.mpr ⟨(fun h => absurd h (by decide)), (fun _ h => absurd h List.not_mem_nil)⟩)⟩)⟩)⟩)⟩)⟩)⟩)⟩)⟩)⟩)⟩)⟩)⟩)⟩)⟩)⟩)⟩)⟩)⟩)⟩)⟩)⟩)⟩)⟩)⟩)⟩)⟩)⟩)⟩)⟩)⟩)⟩)⟩)⟩)⟩)⟩)⟩)⟩)⟩)⟩)⟩)⟩)⟩)⟩)⟩)⟩)⟩)⟩)⟩)⟩)⟩)⟩)⟩)⟩)⟩)⟩)⟩)⟩)⟩)⟩)
theorem okK_X10 : ev_okK RX10 ko_X10 kl_X10 := ⟨by decide +kernel, by decide +kernel⟩
set_option maxRecDepth 100000 in
theorem okF_X11 : ev_okF RX11 fl_X11 := ev_okF_of (hs := [(6, 219), (6, 220), (6, 221), (6, 222), (6, 223), (6, 226), (6, 229), (6, 236), (6, 237), (6, 218), (6, 224), (6, 227), (6, 228), (6, 230), (6, 231), (6, 232), (6, 233), (6, 234), (6, 235), (6, 225), (6, 238)]) (by decide +kernel) (by decide +kernel)
set_option maxRecDepth 100000 in
theorem okC_X11 (r : Nat) : ev_okC RX11 (ca_X11 r) := ev_okC_of (cs := (ca_X11 0).map ev_sp) (hs := [(7, 78), (7, 80), (0, 48), (1, 11), (7, 86), (7, 87), (1, 11), (7, 51), (7, 53), (0, 46), (1, 11), (7, 59), (7, 61), (0, 47), (1, 11), (7, 75), (7, 76), (1, 11), (7, 97), (7, 99), (0, 52), (1, 11), (7, 101), (7, 103), (0, 53), (1, 11), (7, 105), (7, 106), (1, 11), (7, 165), (7, 167), (0, 56), (1, 11), (7, 113), (7, 115), (0, 55), (1, 11), (7, 173), (7, 175), (0, 58), (1, 11), (7, 93), (7, 95), (0, 51), (1, 11), (7, 202), (7, 204), (0, 65), (1, 11), (7, 198), (7, 200), (0, 64), (1, 11), (7, 190), (7, 192), (0, 62), (1, 11), (7, 194), (7, 196), (0, 63), (1, 11), (7, 206), (7, 208), (0, 66), (1, 11), (7, 219), (7, 221), (0, 69), (1, 11), (7, 223), (7, 225), (0, 70), (1, 11), (8, 17), (8, 19), (0, 78), (1, 11), (7, 186), (7, 188), (0, 61), (1, 11), (7, 210), (7, 212), (0, 67), (1, 11), (7, 169), (7, 171), (0, 57), (1, 11), (7, 232), (7, 234), (0, 72), (1, 11), (8, 0), (8, 2), (0, 74), (1, 11), (8, 9), (8, 11), (0, 76), (1, 11), (8, 13), (8, 15), (0, 77), (1, 11), (8, 26), (8, 28), (0, 80), (1, 11), (8, 40), (8, 42), (0, 83), (1, 11), (8, 59), (8, 61), (0, 87), (1, 11), (8, 72), (8, 74), (0, 90), (1, 11), (8, 44), (8, 46), (0, 84), (1, 11), (8, 113), (8, 115), (0, 100), (1, 11), (8, 104), (8, 106), (0, 98), (1, 11), (8, 127), (8, 129), (0, 103), (1, 11), (8, 131), (8, 133), (0, 104), (1, 11), (7, 236), (7, 238), (0, 73), (1, 11), (8, 135), (8, 137), (0, 105), (1, 11), (8, 139), (8, 141), (0, 106), (1, 11), (7, 177), (7, 179), (0, 59), (1, 11), (8, 179), (8, 181), (0, 114), (1, 11), (7, 109), (7, 111), (0, 54), (1, 11), (7, 182), (7, 184), (0, 60), (1, 11), (7, 215), (7, 217), (0, 68), (1, 11), (7, 228), (7, 230), (0, 71), (1, 11), (8, 5), (8, 7), (0, 75), (1, 11), (8, 22), (8, 24), (0, 79), (1, 11), (8, 31), (8, 33), (0, 81), (1, 11), (8, 36), (8, 38), (0, 82), (1, 11), (8, 63), (8, 65), (0, 88), (1, 11), (8, 68), (8, 70), (0, 89), (1, 11), (8, 109), (8, 111), (0, 99), (1, 11), (8, 118), (8, 120), (0, 101), (1, 11), (8, 123), (8, 125), (0, 102), (1, 11), (8, 145), (8, 147), (0, 107), (1, 11), (8, 150), (8, 152), (0, 108), (1, 11), (8, 155), (8, 157), (0, 109), (1, 11), (8, 160), (8, 162), (0, 110), (1, 11), (8, 165), (8, 167), (0, 111), (1, 11), (8, 170), (8, 172), (0, 112), (1, 11), (8, 175), (8, 177), (0, 113), (1, 11), (7, 82), (7, 84), (0, 49), (1, 11), (7, 89), (7, 91), (0, 50), (1, 11), (8, 183), (8, 185), (0, 115), (1, 11), (8, 56), (8, 57), (1, 11), (8, 48), (8, 50), (0, 85), (1, 11), (8, 52), (8, 54), (0, 86), (1, 11), (8, 88), (8, 90), (0, 94), (1, 11), (8, 84), (8, 86), (0, 93), (1, 11), (8, 76), (8, 78), (0, 91), (1, 11), (8, 80), (8, 82), (0, 92), (1, 11), (8, 92), (8, 94), (0, 95), (1, 11), (8, 96), (8, 98), (0, 96), (1, 11), (8, 100), (8, 102), (0, 97), (1, 11), (9, 99), (9, 101), (0, 129), (1, 11), (9, 107), (9, 109), (0, 131), (1, 11), (9, 103), (9, 105), (0, 130), (1, 11), (9, 119), (9, 121), (0, 133), (1, 11), (9, 123), (9, 125), (0, 134), (1, 11), (9, 115), (9, 117), (0, 132), (1, 11), (9, 151), (9, 152), (9, 147), (9, 149), (0, 136), (1, 11), (8, 143), (9, 135), (9, 137), (0, 135), (1, 11), (9, 173), (9, 175), (0, 139), (1, 11), (8, 211), (8, 213), (0, 120), (1, 11), (8, 215), (8, 217), (0, 121), (1, 11), (9, 3), (9, 5), (0, 124), (1, 11), (9, 35), (9, 37), (0, 127), (1, 11), (8, 195), (8, 197), (0, 117), (1, 11), (8, 207), (8, 209), (0, 119), (1, 11), (8, 239), (9, 1), (0, 123), (1, 11), (8, 191), (8, 193), (0, 116), (1, 11), (8, 203), (8, 205), (0, 118), (1, 11), (8, 227), (8, 229), (0, 122), (1, 11), (9, 11), (9, 13), (0, 125), (1, 11), (9, 31), (9, 33), (0, 126), (1, 11), (9, 79), (9, 81), (0, 128), (1, 11), (9, 157), (9, 159), (0, 137), (1, 11), (9, 169), (9, 171), (0, 138), (1, 11), (9, 213), (9, 215), (0, 140), (1, 11), (9, 221), (9, 223), (0, 141), (1, 11), (9, 225), (9, 227), (0, 142), (1, 11), (10, 1), (10, 3), (0, 143), (1, 11), (10, 41), (10, 42), (1, 11)]) rfl (by decide +kernel) (by decide +kernel) (List.forall_mem_cons.mpr ⟨(fun _ => cw_X11_may), (List.forall_mem_cons.mpr ⟨(fun _ => cw_X11_lays), (List.forall_mem_cons.mpr ⟨(fun _ => cw_X11_four), (List.forall_mem_cons.mpr ⟨(fun _ => cw_X11_told), (List.forall_mem_cons.mpr ⟨(fun _ => cw_X11_in), (List.forall_mem_cons.mpr ⟨(fun _ => cw_X11_isSmall), (List.forall_mem_cons.mpr ⟨(fun _ => cw_X11_isDigit), (List.forall_mem_cons.mpr ⟨(fun _ => cw_X11_signOf), (List.forall_mem_cons.mpr ⟨(fun _ => cw_X11_faults), (List.forall_mem_cons.mpr ⟨(fun _ => cw_X11_is), (List.forall_mem_cons.mpr ⟨(fun _ => cw_X11_numberHere), (List.forall_mem_cons.mpr ⟨(fun _ => cw_X11_goes), (List.forall_mem_cons.mpr ⟨(fun _ => cw_X11_of), (List.forall_mem_cons.mpr ⟨(fun _ => cw_X11_isNamed), (List.forall_mem_cons.mpr ⟨(fun _ => cw_X11_wantsName), (List.forall_mem_cons.mpr ⟨(fun _ => cw_X11_personNamed), (List.forall_mem_cons.mpr ⟨(fun _ => cw_X11_refuses), (List.forall_mem_cons.mpr ⟨(fun _ => cw_X11_personHere), (List.forall_mem_cons.mpr ⟨(fun _ => cw_X11_isTasting), (List.forall_mem_cons.mpr ⟨(fun _ => cw_X11_pancakeHere), (List.forall_mem_cons.mpr ⟨(fun _ => cw_X11_limits), (List.forall_mem_cons.mpr ⟨(fun _ => cw_X11_puts), (List.forall_mem_cons.mpr ⟨(fun _ => cw_X11_readNumber), (List.forall_mem_cons.mpr ⟨(fun _ => cw_X11_cooks), (List.forall_mem_cons.mpr ⟨(fun _ => cw_X11_putsCake), (List.forall_mem_cons.mpr ⟨(fun _ => cw_X11_readTaster), (List.forall_mem_cons.mpr ⟨(fun _ => cw_X11_readPancake), (List.forall_mem_cons.mpr ⟨(fun _ => cw_X11_readPerson), (List.forall_mem_cons.mpr ⟨(fun _ => cw_X11_why), (List.forall_mem_cons.mpr ⟨(fun _ => cw_X11_seats), (List.forall_mem_cons.mpr ⟨(fun _ => cw_X11_fills), (List.forall_mem_cons.mpr ⟨(fun _ => cw_X11_seatOf), (List.forall_mem_cons.mpr ⟨(fun _ => cw_X11_tastedHere), (List.forall_mem_cons.mpr ⟨(fun _ => cw_X11_leaves), (List.forall_mem_cons.mpr ⟨(fun _ => cw_X11_scores), (List.forall_mem_cons.mpr ⟨(fun _ => cw_X11_talks), (List.forall_mem_cons.mpr ⟨(fun _ => cw_X11_ofCake), (List.forall_mem_cons.mpr ⟨(fun _ => cw_X11_middle), (List.forall_mem_cons.mpr ⟨(fun _ => cw_X11_isScored), (List.forall_mem_cons.mpr ⟨(fun _ => cw_X11_readsItem), (List.forall_mem_cons.mpr ⟨(fun _ => cw_X11_readsItems), (List.forall_mem_cons.mpr ⟨(fun _ => cw_X11_isWord), (List.forall_mem_cons.mpr ⟨(fun _ => cw_X11_readsPerson), (List.forall_mem_cons.mpr ⟨(fun _ => cw_X11_readsTaster), (List.forall_mem_cons.mpr ⟨(fun _ => cw_X11_readsPancake), (List.forall_mem_cons.mpr ⟨(fun _ => cw_X11_readsBid), (List.forall_mem_cons.mpr ⟨(fun _ => cw_X11_readsTogether), (List.forall_mem_cons.mpr ⟨(fun _ => cw_X11_readsConflict), (List.forall_mem_cons.mpr ⟨(fun _ => cw_X11_readsSeat), (List.forall_mem_cons.mpr ⟨(fun _ => cw_X11_readsMore), (List.forall_mem_cons.mpr ⟨(fun _ => cw_X11_readsFill), (List.forall_mem_cons.mpr ⟨(fun _ => cw_X11_readsLeave), (List.forall_mem_cons.mpr ⟨(fun _ => cw_X11_readsScore), (List.forall_mem_cons.mpr ⟨(fun _ => cw_X11_readsTalk), (List.forall_mem_cons.mpr ⟨(fun _ => cw_X11_readsLimit), (List.forall_mem_cons.mpr ⟨(fun _ => cw_X11_readsKitchen), (List.forall_mem_cons.mpr ⟨(fun _ => cw_X11_readsSwap), (List.forall_mem_cons.mpr ⟨(fun _ => cw_X11_readsClear), (List.forall_mem_cons.mpr ⟨(fun _ => cw_X11_readsEven), (List.forall_mem_cons.mpr ⟨(fun _ => cw_X11_readsCopy), (List.forall_mem_cons.mpr ⟨(fun _ => cw_X11_readsRepeat), (List.forall_mem_cons.mpr ⟨(fun _ => cw_X11_thinks), (List.forall_mem_cons.mpr ⟨(fun _ => cw_X11_readsText), (List.forall_mem_cons.mpr ⟨(fun _ => cw_X11_back), (List.forall_mem_cons.mpr ⟨(fun _ => cw_X11_one), (List.forall_mem_cons.mpr ⟨(fun _ => cw_X11_conflictOf), (List.forall_mem_cons.mpr ⟨(fun _ => cw_X11_load), (List.forall_mem_cons.mpr ⟨(fun _ => cw_X11_wish), (List.forall_mem_cons.mpr ⟨(fun _ => cw_X11_isBetter), (List.forall_mem_cons.mpr ⟨(fun _ => cw_X11_neediest), (List.forall_mem_cons.mpr ⟨(fun _ => cw_X11_best), (List.forall_mem_cons.mpr ⟨(fun _ => cw_X11_moves), (List.forall_mem_cons.mpr ⟨(fun _ => cw_X11_movesFor), (List.forall_mem_cons.mpr ⟨(fun _ => cw_X11_other), (List.forall_mem_cons.mpr ⟨(fun _ => cw_X11_scoresBy), (List.forall_mem_cons.mpr ⟨(fun _ => cw_X11_sumBy), (List.forall_mem_cons.mpr ⟨(fun _ => cw_X11_mean), (List.forall_mem_cons.mpr ⟨(fun _ => cw_X11_allSum), (List.forall_mem_cons.mpr ⟨(fun _ => cw_X11_allScores), (List.forall_mem_cons.mpr ⟨(fun _ => cw_X11_adjusted), (List.forall_mem_cons.mpr ⟨(fun h => absurd h (by decide)), (List.forall_mem_cons.mpr ⟨(fun h => absurd h (by decide)), (List.forall_mem_cons.mpr ⟨(fun _ => cw_X11_spread), (List.forall_mem_cons.mpr ⟨(fun h => absurd h (by decide)), (List.forall_mem_cons.mpr ⟨(fun _ => cw_X11_total), (List.forall_mem_cons.mpr ⟨(fun _ => cw_X11_isAhead), (List.forall_mem_cons.mpr ⟨(fun _ => cw_X11_isPancake), (List.forall_mem_cons.mpr ⟨(fun _ => cw_X11_mayTwo), (List.forall_mem_cons.mpr ⟨(fun _ => cw_X11_isPerson), (List.forall_mem_cons.mpr ⟨(fun _ => cw_X11_areBoth), (List.forall_mem_cons.mpr ⟨(fun _ => cw_X11_mayLook), (List.forall_mem_cons.mpr ⟨(fun _ => cw_X11_mayPancake), (List.forall_mem_cons.mpr ⟨(fun _ => cw_X11_mayPerson), (List.forall_mem_cons.mpr ⟨(fun _ => cw_X11_look), (List.forall_mem_cons.mpr ⟨(fun _ => cw_X11_lookCake), (List.forall_mem_cons.mpr ⟨(fun _ => cw_X11_lookAt), (List.forall_mem_cons.mpr ⟨(fun _ => cw_X11_lookPerson), (List.forall_mem_cons.mpr ⟨(fun _ => cw_X11_mayBoth), (List.forall_mem_cons.mpr ⟨(fun _ => cw_X11_lacks), (List.forall_mem_cons.mpr ⟨(fun _ => cw_X11_mustTalk), (List.forall_mem_cons.mpr ⟨(fun _ => cw_X11_rank), (List.forall_mem_cons.mpr ⟨(fun _ => cw_X11_troubles), (List.forall_mem_cons.mpr ⟨(fun _ => cw_X11_writesByte), (List.forall_mem_cons.mpr ⟨(fun _ => cw_X11_writesNumber), (List.forall_mem_cons.mpr ⟨(fun _ => cw_X11_remembers), (List.forall_mem_cons.mpr ⟨(fun _ => cw_X11_isSlot), (fun _ h => absurd h List.not_mem_nil)⟩)⟩)⟩)⟩)⟩)⟩)⟩)⟩)⟩)⟩)⟩)⟩)⟩)⟩)⟩)⟩)⟩)⟩)⟩)⟩)⟩)⟩)⟩)⟩)⟩)⟩)⟩)⟩)⟩)⟩)⟩)⟩)⟩)⟩)⟩)⟩)⟩)⟩)⟩)⟩)⟩)⟩)⟩)⟩)⟩)⟩)⟩)⟩)⟩)⟩)⟩)⟩)⟩)⟩)⟩)⟩)⟩)⟩)⟩)⟩)⟩)⟩)⟩)⟩)⟩)⟩)⟩)⟩)⟩)⟩)⟩)⟩)⟩)⟩)⟩)⟩)⟩)⟩)⟩)⟩)⟩)⟩)⟩)⟩)⟩)⟩)⟩)⟩)⟩)⟩)⟩)⟩)⟩)⟩)⟩)⟩)⟩)⟩)⟩)⟩)⟩)⟩)⟩)⟩)⟩)⟩)
theorem okK_X11 : ev_okK RX11 ko_X11 kl_X11 := ⟨by decide +kernel, by decide +kernel⟩
set_option maxRecDepth 100000 in
theorem okF_J7 : ev_okF RJ7 fl_J7 := ev_okF_of (hs := []) (by decide +kernel) (by decide +kernel)
set_option maxRecDepth 100000 in
theorem okC_J7 : ev_okC RJ7 ca_J7 := ev_okC_of (cs := ca_J7.map ev_sp) (hs := []) rfl (by decide +kernel) (by decide +kernel) (fun _ h => absurd h List.not_mem_nil)
theorem okK_J7 : ev_okK RJ7 ko_J7 kl_J7 := ⟨by decide +kernel, by decide +kernel⟩
theorem okE_X10_56_60 : ev_okE RX10 56 60 "java/lang/IndexOutOfBoundsException" := ⟨by decide +kernel, by decide +kernel, by decide +kernel, by decide +kernel, by decide +kernel⟩
theorem okE_X10_70_74 : ev_okE RX10 70 74 "java/lang/IllegalArgumentException" := ⟨by decide +kernel, by decide +kernel, by decide +kernel, by decide +kernel, by decide +kernel⟩
theorem okE_X10_340_344 : ev_okE RX10 340 344 "java/lang/IllegalStateException" := ⟨by decide +kernel, by decide +kernel, by decide +kernel, by decide +kernel, by decide +kernel⟩
