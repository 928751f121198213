/-! ===== the law's helpers: a call whose throws are caught ===== -/
section Hb
variable {G : ev_G} {μ μ1 μ' : ev_M}
def eI : String := "java/lang/IllegalStateException"
def eO : String := "java/lang/IndexOutOfBoundsException"
def eA : String := "java/lang/IllegalArgumentException"
/-- of the three exceptions none is another -/
def NCs (G : ev_G) : Prop := ∀ E ∈ [eI, eO, eA], ∀ T ∈ [eI, eO, eA], E ≠ T → va_Nc E T G.2.2.2.2.1
/-- THE TRIPLE of a helper: it always comes back -/
def hb_T (G : ev_G) (y : ev_Mi) (hh : List (Nat × Nat × Nat × Nat)) (args : List Value) (μ : ev_M) (x : Int32) (μ' : ev_M) : Prop :=
  vx_Met G.1 y.1 (.codeWith y.1 y.2.1 y.2.2.1 y.2.2.2.1 hh :: []) { frames := y.2.2.2.2, cells := 1, slots := 6, locals := 40 * y.2.2.2.2 } (ev_pre sh_S G args μ) (ev_Q sh_S G (.inl (some (.int x), μ'))) (fun _ _ _ => False) 1 6 (ev_fr G)
def hb_B (G : ev_G) (p : Program) (R : Room) (s : State) (m : MethodId) (meth : Method) (c : Code) (y : ev_Mi) (hh : List (Nat × Nat × Nat × Nat)) : Prop :=
  ev_ok sh_S G ∧ p.tables.exec = Jvm.exec ∧ c.code = y.2.1 ∧ c.maxLocals = y.2.2.1 ∧ s.vm.findClass RL = some m.cls ∧ G.2.2.2.2.1.WarmedH s.vm ∧ ev_lo G ≤ s.heap.size ∧ (∀ q : Nat, q < ev_lo G → s.heap[q]? = G.2.2.2.2.1.heap[q]?) ∧ meth.locks = false ∧
  R = { frames := y.2.2.2.2, cells := 1, slots := 6, locals := 40 * y.2.2.2.2 } ∧ c.exceptionTable.toList = tableOf hh ∧ meth.sig.returnType = some .int
def HW (G : ev_G) (p : Program) (e : Env) (R : Room) (s : State) (m : MethodId) (args : Array Value) (below : List Frame) (meth : Method) (c : Code) (nL : Nat) (x : Int32) (μ' : ev_M) (pc : Nat) (l : List (Nat × Value)) (st : List Value) (μ : ev_M) : Prop :=
  ∀ (H : Heap) (locs : List Loc) (ls : Array Slot), va_P G.2.2.1 vwCl (ev_ws sh_S G μ) H → va_S (ev_fr G) s.heap H locs → lv_has ls nL (ev_ml G l) →
    W p G.1 e R s m args below meth c H locs 0 0 (vx_MQ below (ev_Q sh_S G (.inl (some (.int x), μ'))) (fun _ _ _ => False) args s 1 6 (ev_fr G)) (F0 m pc ls (st.map (ev_tr G.2.1)))
/-- from here the helper comes to its end with x, over μ' -/
def HL (G : ev_G) (y : ev_Mi) (hh : List (Nat × Nat × Nat × Nat)) (pc : Nat) (l : List (Nat × Value)) (st : List Value) (μ : ev_M) (x : Int32) (μ' : ev_M) : Prop :=
  ∀ (p : Program) (e : Env) (R : Room) (s : State) (m : MethodId) (args : Array Value) (below : List Frame) (meth : Method) (c : Code), hb_B G p R s m meth c y hh → HW G p e R s m args below meth c y.2.2.1 x μ' pc l st μ
variable {y : ev_Mi} {hh : List (Nat × Nat × Nat × Nat)} {pc : Nat} {l : List (Nat × Value)} {st : List Value} {x : Int32}
theorem hb_w {p : Program} {R : Room} {s : State} {m : MethodId} {meth : Method} {c : Code} {args : Array Value} (hB : hb_B G p R s m meth c y hh) : ∀ w ∈ ev_wd, w.before args s = true := fun w hw => ev_gw_warm hB.2.2.2.2.2.1 (hB.1.2.2.2.1 w (ev_wd_in hw).1) (ev_wd_in hw).2
theorem hb_K {p : Program} {R : Room} {s : State} {m : MethodId} {meth : Method} {c : Code} (hB : hb_B G p R s m meth c y hh) : va_K G.2.2.1 vwCl (ev_tys G) s := va_K.moved hB.2.2.2.2.2.1.alike hB.1.2.2.1
theorem hb_H {p : Program} {R : Room} {s : State} {m : MethodId} {meth : Method} {c : Code} {H : Heap} {locs : List Loc} (hB : hb_B G p R s m meth c y hh) (hP : va_P G.2.2.1 vwCl (ev_ws sh_S G μ) H) (hS : va_S (ev_fr G) s.heap H locs) : ev_H sh_S G μ H :=
  ⟨hP, Nat.le_trans hB.2.2.2.2.2.2.1 hS.1, fun q hq => by rw [hS.2.1 q (Nat.lt_of_lt_of_le hq hB.2.2.2.2.2.2.1) (by show ¬ ev_lo G ≤ q; omega)]; exact hB.2.2.2.2.2.2.2.1 q hq⟩
theorem hb_S {p : Program} {R : Room} {s : State} {m : MethodId} {meth : Method} {c : Code} {H' : Heap} {locs' : List Loc} (hB : hb_B G p R s m meth c y hh) (hH : ev_H sh_S G μ' H') (hz : s.heap.size ≤ H'.size) (hL : ∀ q ∈ locs', ev_fr G q.base) : va_S (ev_fr G) s.heap H' locs' :=
  ⟨hz, fun q _ h2 => by
    have hq : q < ev_lo G := by
      have : ¬ ev_lo G ≤ q := h2
      omega
    rw [hH.2.2 q hq, hB.2.2.2.2.2.2.2.1 q hq], hL⟩
theorem HL_T {args : List Value} (hcls : y.1.cls = RL) (hy : y.2.2.2.1 = some .int) (hok : ev_ok sh_S G) (hargs : (lg_sl (args.map (ev_tr G.2.1))).length ≤ y.2.2.1) (h : HL G y hh 0 (lv_args 0 args) [] μ x μ') : hb_T G y hh args μ x μ' := by
  refine vx_ofWH (cc := y.2.1) (maxL := y.2.2.1) (ret := y.2.2.2.1) (hh := hh) (by rw [hcls]; decide +kernel) rfl ?_
  intro p e s m args9 below meth c s₁ B hml hv
  obtain ⟨rfl, hW, hH⟩ := hv
  have htab : c.exceptionTable.toList = tableOf hh := vx_table (l := G.1) (x := y.1) B (atoms_spec (ws := _) B.pre _ List.mem_cons_self)
  have hB : hb_B G p { frames := y.2.2.2.2, cells := 1, slots := 6, locals := 40 * y.2.2.2.2 } s m meth c y hh :=
    ⟨hok, B.exec, B.bytes, hml, by rw [← hcls]; exact findClass_of_methodNamed B.named, hW, hH.2.1, hH.2.2, B.notSynchronized, rfl, htab, B.returns.trans hy⟩
  have hl := lv_entry (args.map (ev_tr G.2.1)) (n := y.2.2.1) hargs
  rw [lg_entry_eq]
  generalize (lg_sl (args.map (ev_tr G.2.1)) ++ List.replicate (y.2.2.1 - (lg_sl (args.map (ev_tr G.2.1))).length) Slot.unset).toArray = ls at hl ⊢
  rw [ev_args_ml] at hl
  exact h p e _ s m _ below meth c hB s.heap [] ls hH.1 va_S.rf hl
theorem HL_al {k : Fin 4} {a : Nat} (hd : decode y.2.1 pc = .ok (.aload_n k, 1)) (hk : ev_lk l k = some (.ref a)) (h : HL G y hh (pc + 1) l (.ref a :: st) μ x μ') : HL G y hh pc l st μ x μ' := by
  intro p e R s m args below meth c hB H locs ls hP hS hl
  exact lv_aload_n hB.2.1 hB.2.2.1 hd rfl (ev_lv0 hl (v := .ref a) hk) (h p e R s m args below meth c hB H locs ls hP hS hl)
theorem HL_ald {k a : Nat} (hd : decode y.2.1 pc = .ok (.aload k, 2)) (hk : ev_lk l k = some (.ref a)) (h : HL G y hh (pc + 2) l (.ref a :: st) μ x μ') : HL G y hh pc l st μ x μ' := by
  intro p e R s m args below meth c hB H locs ls hP hS hl
  exact lv_aload hB.2.1 hB.2.2.1 hd (ev_lv0 hl (v := .ref a) hk) (h p e R s m args below meth c hB H locs ls hP hS hl)
theorem HL_il {k : Fin 4} {a : Int32} (hd : decode y.2.1 pc = .ok (.iload_n k, 1)) (hk : ev_lk l k = some (.int a)) (h : HL G y hh (pc + 1) l (.int a :: st) μ x μ') : HL G y hh pc l st μ x μ' := by
  intro p e R s m args below meth c hB H locs ls hP hS hl
  exact lv_iload_n hB.2.1 hB.2.2.1 hd rfl (ev_lv0 hl (v := .int a) hk) (h p e R s m args below meth c hB H locs ls hP hS hl)
theorem HL_ic {n : Int} (hd : decode y.2.1 pc = .ok (.iconst n, 1)) (h : HL G y hh (pc + 1) l (.int (Int32.ofInt n) :: st) μ x μ') : HL G y hh pc l st μ x μ' := by
  intro p e R s m args below meth c hB H locs ls hP hS hl
  exact lv_iconst hB.2.1 hB.2.2.1 hd rfl (h p e R s m args below meth c hB H locs ls hP hS hl)
theorem HL_lc {n : Fin 2} (hd : decode y.2.1 pc = .ok (.lconst n, 1)) (h : HL G y hh (pc + 1) l (.long (Int64.ofNat n) :: st) μ x μ') : HL G y hh pc l st μ x μ' := by
  intro p e R s m args below meth c hB H locs ls hP hS hl
  exact lv_lconst hB.2.1 hB.2.2.1 hd rfl (h p e R s m args below meth c hB H locs ls hP hS hl)
theorem HL_i2l {a : Int32} (hd : decode y.2.1 pc = .ok (.i2l, 1)) (h : HL G y hh (pc + 1) l (.long a.toInt64 :: st) μ x μ') : HL G y hh pc l (.int a :: st) μ x μ' := by
  intro p e R s m args below meth c hB H locs ls hP hS hl
  exact lv_i2l hB.2.1 hB.2.2.1 hd rfl (h p e R s m args below meth c hB H locs ls hP hS hl)
theorem HL_gt {off : Int} {t : Nat} (hd : decode y.2.1 pc = .ok (.goto off, 3)) (ht : (pc : Int) + off = (t : Int)) (h : HL G y hh t l st μ x μ') : HL G y hh pc l st μ x μ' := by
  intro p e R s m args below meth c hB H locs ls hP hS hl
  exact lv_goto hB.2.1 hB.2.2.1 hd ht (h p e R s m args below meth c hB H locs ls hP hS hl)
theorem HL_ie {off : Int} {t : Nat} {a : Int32} (hd : decode y.2.1 pc = .ok (.ifCond .eq off, 3)) (ht : (pc : Int) + off = (t : Int)) (h1 : a = 0 → HL G y hh t l st μ x μ') (h2 : ¬ a = 0 → HL G y hh (pc + 3) l st μ x μ') : HL G y hh pc l (.int a :: st) μ x μ' := by
  intro p e R s m args below meth c hB H locs ls hP hS hl
  exact lv_if_eq hB.2.1 hB.2.2.1 hd ht (fun q => h1 q p e R s m args below meth c hB H locs ls hP hS hl) (fun q => h2 q p e R s m args below meth c hB H locs ls hP hS hl)
theorem HL_ret (hd : decode y.2.1 pc = .ok (.ireturn, 1)) : HL G y hh pc l [.int x] μ' x μ' := by
  intro p e R s m args below meth c hB H locs ls hP hS hl
  have hq : ∀ t : State, t.heap = H → s.WarmedH t.vm → ev_Q sh_S G (.inl (some (.int x), μ')) args s (.returned (some (.int x))) t := fun t ht _ => ⟨some (.int x), μ', rfl, rfl, by rw [ht]; exact hb_H hB hP hS⟩
  have k : W p G.1 e R s m args below meth c H locs 1 6 (vx_MQ below (ev_Q sh_S G (.inl (some (.int x), μ'))) (fun _ _ _ => False) args s 1 6 (ev_fr G)) (F0 m pc ls [.int x]) := vx_ret (W.iret hB.2.1 hB.2.2.1 hB.2.2.2.2.2.2.2.2.2.2.2 hq hS.2.2 hd hB.2.2.2.2.2.2.2.2.1)
  exact fun T hT X => k T hT (stand_widen X (by decide) (by decide))
theorem HL_ls {v : Int64} (hd : decode y.2.1 pc = .ok (.lastore, 1)) (h : HL G y hh (pc + 1) l st (μ.1, ev_up μ.2.1 310 0 v, μ.2.2) x μ') : HL G y hh pc l (.long v :: .int 0 :: .ref 310 :: st) μ x μ' := by
  intro p e R s m args below meth c hB H locs ls hP hS hl
  have h1 : 310 < ev_nc sh_S := by decide +kernel
  have h2 : ev_kd sh_S 310 = 13 := by decide +kernel
  have h9 : ev_ln sh_S 310 = 1 := by decide +kernel
  have h3 : vp_in 0 (ev_ln sh_S 310) := by rw [h9]; exact vp_in_nI (n := 0) (by omega) (by omega)
  refine va_last hB.2.1 hB.2.2.1 (hb_K hB) hP (ev_D hB.1 μ) hS 310 3 (by rw [ev_ws_at h1, ev_E_13 h2]) rfl h3 hd (fun H1 locs1 hP1 hD1 hS1 => ?_)
  refine h p e R s m args below meth c hB H1 locs1 ls ?_ hS1 hl
  have e9 : ev_E sh_S G (μ.1, ev_up μ.2.1 310 0 v, μ.2.2) 310 = .inl (G.2.2.2.1 13, ev_ln sh_S 310, .inr (.inl (vp_updL (μ.2.1 310) 0 v))) := by
    rw [ev_E_13 h2, ev_updL]
  have h0 : (0 : Int32).toNatClampNeg = 0 := by decide
  rw [h0, ev_ws_set (μ := μ) h1 (μ' := (μ.1, ev_up μ.2.1 310 0 v, μ.2.2)) e9 (fun b hb => ev_E_eq rfl (ev_up_ne hb) rfl)] at hP1
  exact hP1
/-- what throwing leads to: the handler that takes it -/
def hb_h (y : ev_Mi) (h : Nat) (j : Int) : Prop :=
  (∃ k : Fin 4, (k : Nat) < y.2.2.1 ∧ decode y.2.1 h = .ok (.astore_n k, 1) ∧ decode y.2.1 (h + 1) = .ok (.iconst j, 1) ∧ decode y.2.1 (h + 2) = .ok (.ireturn, 1)) ∨
  (∃ k : Nat, k < y.2.2.1 ∧ decode y.2.1 h = .ok (.astore k, 2) ∧ decode y.2.1 (h + 2) = .ok (.iconst j, 1) ∧ decode y.2.1 (h + 3) = .ok (.ireturn, 1))
theorem hb_hand {h : Nat} {j : Int} (hh1 : hb_h y h j) {p : Program} {e : Env} {R : Room} {s : State} {m : MethodId} {args : Array Value} {below : List Frame} {meth : Method} {c : Code} (hB : hb_B G p R s m meth c y hh) {H : Heap} {locs : List Loc} {ls : Array Slot} {q : Nat} {lv : List (Nat × Value)} (hP : va_P G.2.2.1 vwCl (ev_ws sh_S G μ') H) (hS : va_S (ev_fr G) s.heap H locs) (hl : lv_has ls y.2.2.1 lv) :
    W p G.1 e R s m args below meth c H locs 1 6 (vx_MQ below (ev_Q sh_S G (.inl (some (.int (Int32.ofInt j)), μ'))) (fun _ _ _ => False) args s 1 6 (ev_fr G)) (F0 m h ls [.ref q]) := by
  have hq : ∀ t : State, t.heap = H → s.WarmedH t.vm → ev_Q sh_S G (.inl (some (.int (Int32.ofInt j)), μ')) args s (.returned (some (.int (Int32.ofInt j)))) t := fun t ht _ => ⟨some (.int (Int32.ofInt j)), μ', rfl, rfl, by rw [ht]; exact hb_H hB hP hS⟩
  rcases hh1 with ⟨k, h1, h2, h3, h4⟩ | ⟨k, h1, h2, h3, h4⟩
  · refine lv_astore_n hB.2.1 hB.2.2.1 h2 rfl hl h1 rfl (fun ls' hl' => ?_)
    refine lv_iconst hB.2.1 hB.2.2.1 h3 rfl ?_
    exact vx_ret (W.iret hB.2.1 hB.2.2.1 hB.2.2.2.2.2.2.2.2.2.2.2 hq hS.2.2 h4 hB.2.2.2.2.2.2.2.2.1)
  · refine lv_astore hB.2.1 hB.2.2.1 h2 hl h1 rfl (fun ls' hl' => ?_)
    refine lv_iconst hB.2.1 hB.2.2.1 h3 rfl ?_
    exact vx_ret (W.iret hB.2.1 hB.2.2.1 hB.2.2.2.2.2.2.2.2.2.2.2 hq hS.2.2 h4 hB.2.2.2.2.2.2.2.2.1)
/-- how the table takes E at pc: the rows ahead name others -/
def hb_x (hh : List (Nat × Nat × Nat × Nat)) (pc : Nat) (E : String) (h : Nat) : Prop := ∃ (pre suf : List (Nat × Nat × Nat × Nat)) (z : Nat × Nat × Nat × Nat), hh = pre ++ z :: suf ∧ z.2.2.1 = h ∧ covers ⟨z.1, z.2.1, z.2.2.1, z.2.2.2⟩ pc = true ∧ z.2.2.2 ≠ 0 ∧ Cond.classLink RL z.2.2.2 E ∈ ev_wd ∧
  ∀ w ∈ pre, w.2.2.2 ≠ 0 ∧ ∃ T ∈ [eI, eO, eA], E ≠ T ∧ Cond.classLink RL w.2.2.2 T ∈ ev_wd
theorem hb_cast : ∀ E ∈ [eI, eO, eA], Cond.castable E E ∈ ev_wd := by decide +kernel
/-- a call: it answers, or it throws and is caught -/
theorem HL_call (hnc : NCs G) {n na : Nat} {yc : ev_Mi} (hw : eh_ok RL n na yc) {C : String} (w2 : Cond.instanceMethod yc.1 ∈ ev_wd) (w3 : Cond.selects C yc.1 yc.1 ∈ ev_wd) {b : Nat} (hb1 : b < ev_nc sh_S) (hrec : ∀ (p : Program) (R : Room) (s : State) (m : MethodId) (meth : Method) (c : Code), hb_B G p R s m meth c y hh → ∀ (H : Heap), va_P G.2.2.1 vwCl (ev_ws sh_S G μ) H → ∃ cell : Cell, H[G.2.1 b]? = some cell ∧ cell.vm.isStatics = false ∧ s.vm.findClass C = some cell.cls)
    {As r : List Value} (hlen : As.length = na) (hsz : ev_sz r ≤ 8) (hdp : yc.2.2.2.2 < y.2.2.2.2) {res' : ev_R} (hT : ev_T sh_S G yc (.ref b :: As) μ res') (hd : decode y.2.1 pc = .ok (.invokevirtual n, 3))
    (hok : ∀ v μ1, res' = .inl (v, μ1) → HL G y hh (pc + 3) l (v.toList ++ r) μ1 x μ') (hex : ∀ E μ1, res' = .inr (E, μ1) → E ∈ [eI, eO, eA] ∧ μ1 = μ' ∧ ∃ h j, hb_x hh pc E h ∧ hb_h y h j ∧ x = Int32.ofInt j) : HL G y hh pc l (As.reverse ++ .ref b :: r) μ x μ' := by
  intro p e R s m args below meth c hB H locs ls hP hS hl
  obtain ⟨hok1, hx, hb, hml, hown, hW0, hlo, hlow, hlk, hR, htab, hret⟩ := id hB
  obtain ⟨w1, w4, w5, w6, w7⟩ := hw
  have hco : (ev_co res').1 ≤ 1 ∧ (ev_co res').2 ≤ 6 := by
    cases res' with
    | inl _ => exact ⟨Nat.zero_le _, Nat.zero_le _⟩
    | inr _ => exact ⟨Nat.le_refl _, Nat.le_refl _⟩
  have hr : vx_Run p G.1 e R s m args below meth c H locs 0 0 (ev_co res').1 (ev_co res').2 (F0 m pc ls ((As.reverse ++ .ref b :: r).map (ev_tr G.2.1))) (r.map (ev_tr G.2.1)) (ev_Q sh_S G res' (Value.ref (G.2.1 b) :: As.map (ev_tr G.2.1)).toArray) (ev_X sh_S G res') (ev_fr G) := vx_runV (As := As.map (ev_tr G.2.1)) (C := C) (b := G.2.1 b) ⟨hx, hb, hml, hown, hb_w (args := args) hB⟩ hT ⟨callB_of na (hb_w hB) (ev_good w5) rfl rfl rfl (hb_w hB _ w4) (hb_w hB _ w1) w7 ⟨by rw [hR]; exact hdp, by rw [hR]; show 8 + (yc.2.2.1 + 11) + 40 * yc.2.2.2.2 ≤ 40 * y.2.2.2.2; have : yc.2.2.1 ≤ 20 := w6; omega⟩, hb_w hB _ w2, hb_w hB _ w3⟩ ⟨ev_pre_blind, hrec p R s m meth c hB H hP, fun U hU hW => ⟨by simp [ev_tr], hW0.trans hW, by rw [hU]; exact hb_H hB hP hS⟩⟩ rfl (by simpa using hlen) hl.1 (by simp [ev_tr]) (lv_room (by rw [ev_sz_eq]; exact hsz)) hd (by rw [hR]; exact ⟨by show 0 + _ ≤ 1; omega, by show 0 + _ ≤ 6; omega⟩)
  intro T hT X
  rcases hr T hT X with ⟨v, st0, t, T', L, h0, X', hL, e1, e2, ⟨v9, μ1, hr1, hr2, hr3⟩, stp⟩ | ⟨q, st0, t, T', L, E, ce, h0, X', hL, e1, e2, ⟨μ1, hr1, hr3⟩, hce, hcv, hcl, stp⟩
  · cases hr2
    have hz : s.heap.size ≤ T'.heap.size := X'.same.2.1
    have hH : ev_H sh_S G μ1 T'.heap := by rw [e1]; exact hr3
    have X9 : Stand p G.1 e R s m args below meth c T' (locs ++ L) 0 0 := by
      have : ev_co res' = (0, 0) := by rw [hr1]; rfl
      rw [this] at X'
      exact X'
    obtain ⟨t2, a1, b1⟩ := hok v9 μ1 hr1 p e R s m args below meth c hB T'.heap (locs ++ L) ls hH.1 (hb_S hB hH hz (fun q hq => by
      rcases List.mem_append.mp hq with h | h
      · exact hS.2.2 q h
      · exact hL q h)) hl T' rfl X9
    refine ⟨t2, stp t2 ?_, b1⟩
    have e9 : (v9.map (ev_tr G.2.1)).toList ++ r.map (ev_tr G.2.1) = (v9.toList ++ r).map (ev_tr G.2.1) := by cases v9 <;> simp
    show Steps p.tables e below (T'.setTop (F0 m (pc + 3) ls ((v9.map (ev_tr G.2.1)).toList ++ r.map (ev_tr G.2.1)))) t2
    rw [e9]
    exact a1
  · obtain ⟨hE, rfl, h, j, ⟨pre, suf, z, g1, g2, g3, g4, g5, g6⟩, hh1, rfl⟩ := hex E μ1 hr1
    have hz : s.heap.size ≤ T'.heap.size := X'.same.2.1
    have hH : ev_H sh_S G μ1 T'.heap := by rw [e1]; exact hr3
    have hS1 : va_S (ev_fr G) s.heap T'.heap (locs ++ L) := hb_S hB hH hz (fun q hq => by
      rcases List.mem_append.mp hq with h | h
      · exact hS.2.2 q h
      · exact hL q h)
    have X9 : Stand p G.1 e R s m args below meth c T' (locs ++ L) 1 6 := stand_widen X' (by show 0 + _ ≤ 1; omega) (by show 0 + _ ≤ 6; omega)
    have hx1 : c.exceptionTable.toList = tableOf pre ++ (⟨z.1, z.2.1, z.2.2.1, z.2.2.2⟩ : ExceptionTableEntry) :: tableOf suf := by
      rw [htab, g1]
      unfold tableOf
      rw [List.map_append, List.map_cons]
    have k := hb_hand (args := args) (below := below) (e := e) hh1 hB (q := q) hH.1 hS1 hl
    obtain ⟨t2, a1, b1⟩ := vx_catch (E := E) (name := E) (ce := ce) (q := q) (pc := pc) (rest := r.map (ev_tr G.2.1)) (ls := ls) (own := RL) hown (tableOf pre) ⟨z.1, z.2.1, z.2.2.1, z.2.2.2⟩ (tableOf suf) hx1 (fun w hw => by
      unfold tableOf at hw
      obtain ⟨u, hu, rfl⟩ := List.mem_map.mp hw
      obtain ⟨k1, T9, k2, k3, k4⟩ := g6 u hu
      exact Or.inr ⟨k1, T9, hb_w hB _ k4, va_Nc.moved hW0.alike (hnc E hE T9 k2 k3)⟩) g3 g4 (hb_w hB _ g5) (hb_w hB _ (hb_cast E hE)) (by rw [e1]; exact hce) hcv hcl (by
      show W p G.1 e R s m args below meth c T'.heap (locs ++ L) 1 6 _ (F0 m z.2.2.1 ls [.ref q])
      rw [g2]
      exact k) T' rfl X9
    exact ⟨t2, stp.trans a1, b1⟩
end Hb
