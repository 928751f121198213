/-! ===== BEGIN a private method of a nest mate that may throw (follows va_callVN, va_callSN, va_runVN, va_runSN) ===== -/
section
variable {p : Program} {l : Launch} {e : Env} {R : Room} {s : State} {m : MethodId} {args : Array Value} {below : List Frame} {meth : Method} {c : Code} {H : Heap} {locs : List Loc} {cells slots : Nat}
variable {T : State}
theorem vx_callVN (X : Stand p l e R s m args below meth c T locs cells slots) (hexec : p.tables.exec = Jvm.exec) {own C : String} {index : Nat} {host : String} {y : MethodName} {bytes : ByteArray} {maxL : Nat} {ret : Option FieldType}
    (hown : s.vm.findClass own = some m.cls) (hlink : (Cond.methodLinkNest own index y host).before args s = true) (hinst : (Cond.instanceMethod y).before args s = true) (hsel : (Cond.selects C y y).before args s = true)
    (hcode : (Cond.code y bytes maxL ret).before args s = true) (hy : y.cls ≠ "java/lang/invoke/MethodHandle" ∧ y.cls ≠ "java/lang/invoke/VarHandle")
    {W : Nat} {Pre : Pt → Array Value → Prop} {Post : Pt → Array Value → Option Value → Pt → Prop} {PostX : Pt → Array Value → Addr → Pt → Prop} (hK : vx_Back l R p e below s args y 3 W Pre Post PostX)
    {b : Addr} {cellB : Cell} (hcell : T.heap[b]? = some cellB) (hobj : cellB.vm.isStatics = false) (hcls : s.vm.findClass C = some cellB.cls)
    {g : JFrame} (hg : g.method = m) (hsize : g.locals.size = c.maxLocals) {argsL rest : List Value} (hlen : ∀ sig, parseMethodDescriptor y.desc = some sig → argsL.length = sig.parameters.length)
    (hstack : g.stack = argsL.reverse ++ .ref b :: rest) (hW : 2 * g.monitorRoom + (rest.map fun v => v.category).sum ≤ W) (hdg : decode c.code g.pc = .ok (.invokevirtual index, 3))
    (hpre : ∀ vm₁, s.WarmedH vm₁ → Pre ⟨T.setVm vm₁, locs, cells, slots⟩ (Value.ref b :: argsL).toArray) :
    (∃ (v : Option Value) (vm₁ : Vm) (B : Pt), s.WarmedH vm₁ ∧ Stand p l e R s m args below meth c B.U B.locs B.cells B.slots ∧ Post ⟨T.setVm vm₁, locs, cells, slots⟩ (Value.ref b :: argsL).toArray v B ∧
      ∀ target, Steps p.tables e below (B.U.setTop { g with pc := g.pc + 3, stack := v.toList ++ rest }) target → Steps p.tables e below (T.setTop g) target) ∨
    (∃ (q : Addr) (vm₁ : Vm) (B : Pt), s.WarmedH vm₁ ∧ Stand p l e R s m args below meth c B.U B.locs B.cells B.slots ∧ PostX ⟨T.setVm vm₁, locs, cells, slots⟩ (Value.ref b :: argsL).toArray q B ∧
      Steps p.tables e below (T.setTop g) ((B.U.setTop { g with stack := rest }).pushFrame (.throwing q))) := by
  obtain ⟨mk, methM, hnamed, hmethM, hstM, habM⟩ := Cond.instanceMethod_spec hinst
  obtain ⟨methM', cM, hmethM', -, -, -, -, -, -, hsigM⟩ := Cond.code_spec hnamed hcode
  cases hmethM.symm.trans hmethM'
  obtain ⟨c2, r2, m2, q1, q2, q3, q4, kP, hkP, hkPi⟩ := Cond.selects_spec hsel
  cases hcls.symm.trans q1
  cases (State.methodFound?_of_named hnamed hy).symm.trans q2
  cases hnamed.symm.trans q3
  have hselP : selectMethod e.platform s.vm cellB.cls mk = .method mk := by rw [Launch.admits_selectMethod X.admits]; exact q4
  obtain ⟨vm₁, X₁, hstep₁⟩ := X.invokevirtualNest hexec hown hlink hnamed hmethM hstM hkP hkPi hy (a := b) (cell := cellB) hcell
    (fun z h => by rw [h] at hobj; cases hobj) hselP hmethM habM hkP hkPi (g := g) hg (argsL := argsL) (rest := rest) (hlen _ hsigM) hstack hdg
  rcases hK m meth c ⟨T.setVm vm₁, locs, cells, slots⟩ { g with stack := rest } (.invokevirtual index) mk (Value.ref b :: argsL).toArray X₁ hg hsize hdg hW (X₁.named hnamed) (hpre vm₁ X₁.warmed) with ⟨v, B, X', hpost, hsteps⟩ | ⟨q, B, X', hpost, hsteps⟩
  · exact Or.inl ⟨v, vm₁, B, X₁.warmed, X', hpost, fun target h => hstep₁ _ fun acts => by rw [doInvoke_state]; exact hsteps.trans h⟩
  · exact Or.inr ⟨q, vm₁, B, X₁.warmed, X', hpost, hstep₁ _ fun acts => by rw [doInvoke_state]; exact hsteps⟩
theorem vx_callSN (X : Stand p l e R s m args below meth c T locs cells slots) (hexec : p.tables.exec = Jvm.exec) {own : String} {index : Nat} {host : String} {y : MethodName} {bytes : ByteArray} {maxL : Nat} {ret : Option FieldType}
    (hown : s.vm.findClass own = some m.cls) (hlink : (Cond.methodLinkNest own index y host).before args s = true) (hstat : (Cond.static y).before args s = true) (hinit : (Cond.initialized y.cls).before args s = true)
    (hcode : (Cond.code y bytes maxL ret).before args s = true) (hy : y.cls ≠ "java/lang/invoke/MethodHandle" ∧ y.cls ≠ "java/lang/invoke/VarHandle")
    {W : Nat} {Pre : Pt → Array Value → Prop} {Post : Pt → Array Value → Option Value → Pt → Prop} {PostX : Pt → Array Value → Addr → Pt → Prop} (hK : vx_Back l R p e below s args y 3 W Pre Post PostX)
    {g : JFrame} (hg : g.method = m) (hsize : g.locals.size = c.maxLocals) {argsL rest : List Value} (hlen : ∀ sig, parseMethodDescriptor y.desc = some sig → argsL.length = sig.parameters.length)
    (hstack : g.stack = argsL.reverse ++ rest) (hW : 2 * g.monitorRoom + (rest.map fun v => v.category).sum ≤ W) (hdg : decode c.code g.pc = .ok (.invokestatic index, 3))
    (hpre : ∀ vm₁, s.WarmedH vm₁ → Pre ⟨T.setVm vm₁, locs, cells, slots⟩ argsL.toArray) :
    (∃ (v : Option Value) (vm₁ : Vm) (B : Pt), s.WarmedH vm₁ ∧ Stand p l e R s m args below meth c B.U B.locs B.cells B.slots ∧ Post ⟨T.setVm vm₁, locs, cells, slots⟩ argsL.toArray v B ∧
      ∀ target, Steps p.tables e below (B.U.setTop { g with pc := g.pc + 3, stack := v.toList ++ rest }) target → Steps p.tables e below (T.setTop g) target) ∨
    (∃ (q : Addr) (vm₁ : Vm) (B : Pt), s.WarmedH vm₁ ∧ Stand p l e R s m args below meth c B.U B.locs B.cells B.slots ∧ PostX ⟨T.setVm vm₁, locs, cells, slots⟩ argsL.toArray q B ∧
      Steps p.tables e below (T.setTop g) ((B.U.setTop { g with stack := rest }).pushFrame (.throwing q))) := by
  obtain ⟨mk, hnamed⟩ := Cond.code_named hcode
  obtain ⟨methM, cM, hmethM, -, -, -, -, -, -, hsigM⟩ := Cond.code_spec hnamed hcode
  have hstatic : methM.isStatic = true := Cond.static_spec hnamed hmethM hstat
  obtain ⟨kP, hkP, -⟩ := className_of_methodNamed hnamed
  have hinitP : kP.init = .initialized := Cond.initialized_spec (findClass_of_methodNamed hnamed) hkP hinit
  obtain ⟨vm₁, X₁, hstep₁⟩ := X.invokestaticNest hexec hown hlink hnamed hmethM hstatic hkP hinitP hy (g := g) hg (argsL := argsL) (rest := rest) (hlen _ hsigM) hstack hdg
  rcases hK m meth c ⟨T.setVm vm₁, locs, cells, slots⟩ { g with stack := rest } (.invokestatic index) mk argsL.toArray X₁ hg hsize hdg hW (X₁.named hnamed) (hpre vm₁ X₁.warmed) with ⟨v, B, X', hpost, hsteps⟩ | ⟨q, B, X', hpost, hsteps⟩
  · exact Or.inl ⟨v, vm₁, B, X₁.warmed, X', hpost, fun target h => hstep₁ _ fun acts => by rw [doInvoke_state]; exact hsteps.trans h⟩
  · exact Or.inr ⟨q, vm₁, B, X₁.warmed, X', hpost, hstep₁ _ fun acts => by rw [doInvoke_state]; exact hsteps⟩
theorem vx_runVN {y : MethodName} {bytes cc : ByteArray} {maxL nL mc ms n index : Nat} {ret : Option FieldType} {ws : List Cond} {rm : Room} {Pc : Array Value → State → Prop} {Qc : Array Value → State → Outcome → State → Prop} {XC : String → State → State → Prop} {free : Addr → Prop} {Ts : List Cond} {own C host : String} {b : Addr} {As rest : List Value} {g : JFrame}
    (S : CallFix p m c cc nL s args Ts own) (hM : vx_Met l y ws rm Pc Qc XC mc ms free) (cw : va_CN R s args own index y host bytes maxL ret ws rm mc ms n ∧ (Cond.instanceMethod y).before args s = true ∧ (Cond.selects C y y).before args s = true) (hp : PreV s H C b Pc As)
    (hg : g.method = m) (hn : As.length = n) (hsize : g.locals.size = nL) (hstack : g.stack = As.reverse ++ .ref b :: rest) (hW : 2 * g.monitorRoom + (rest.map fun v => v.category).sum ≤ 8) (hdg : decode cc g.pc = .ok (.invokevirtual index, 3)) (hf : cells + mc ≤ R.cells ∧ slots + ms ≤ R.slots) :
    vx_Run p l e R s m args below meth c H locs cells slots mc ms g rest (Qc (Value.ref b :: As).toArray) XC free := by
  obtain ⟨⟨⟨hrc, hrs, hfr, hlo, hws, hcw⟩, hcode, hini, hy, hlen, hl⟩, hx1, hx2⟩ := cw
  have hK : vx_Back l R p e below s args y 3 8 (PreOf R mc ms Pc) (PostOf Qc mc ms free) (vx_Post XC mc ms free) := vx_back (bytes := bytes) (maxL := maxL) (ret := ret) hM hp.1 hrc hrs hfr hlo hws hcw (fun a' U hW => word_at hW (Or.inl (by first | rfl | simp [Cond.onTables, Cond.keeps, Cond.steady])) hini)
  obtain ⟨hx, hb, hml, ho, -⟩ := S
  obtain ⟨-, ⟨cellB, hcB, hoB, hclB⟩, hPc⟩ := hp
  intro T hT X
  rcases vx_callVN X hx (C := C) (bytes := bytes) (maxL := maxL) (ret := ret) ho hl hx1 hx2 hcode hy hK (by rw [hT]; exact hcB) hoB hclB hg (hsize.trans hml.symm) (argsL := As) (rest := rest) (fun sig h => hn.trans (hlen sig h)) hstack hW (by rw [hb]; exact hdg)
    (fun vm₁ hW₁ => ⟨hf.1, hf.2, hPc (T.setVm vm₁) hT hW₁⟩) with ⟨v, vm₁, ⟨U', l2, c2, s2⟩, hW₁, X', ⟨g', mk, t, L, e1, e2, hq, h1, hL, h2, h3⟩, st⟩ | ⟨q, vm₁, ⟨U', l2, c2, s2⟩, hW₁, X', ⟨g', mk, t, L, E, ce, e1, e2, hq, hce, hcv, hcl, h1, hL, h2, h3⟩, st⟩
  · dsimp only [Pt.U, Pt.locs, Pt.cells, Pt.slots] at X' e1 e2 h1 h2 h3 st
    subst h1; subst h2; subst h3
    exact Or.inl ⟨v, (T.setVm vm₁).calling g' mk (Value.ref b :: As).toArray, t, U', L, hT, X', hL, e1, e2, hq, st⟩
  · dsimp only [Pt.U, Pt.locs, Pt.cells, Pt.slots] at X' e1 e2 h1 h2 h3 st hcl
    subst h1; subst h2; subst h3
    exact Or.inr ⟨q, (T.setVm vm₁).calling g' mk (Value.ref b :: As).toArray, t, U', L, E, ce, hT, X', hL, e1, e2, hq, hce, hcv, vx_cls hW₁ hcl, st⟩
theorem vx_runSN {y : MethodName} {bytes cc : ByteArray} {maxL nL mc ms n index : Nat} {ret : Option FieldType} {ws : List Cond} {rm : Room} {Pc : Array Value → State → Prop} {Qc : Array Value → State → Outcome → State → Prop} {XC : String → State → State → Prop} {free : Addr → Prop} {Ts : List Cond} {own host : String} {As rest : List Value} {g : JFrame}
    (S : CallFix p m c cc nL s args Ts own) (hM : vx_Met l y ws rm Pc Qc XC mc ms free) (cw : va_CN R s args own index y host bytes maxL ret ws rm mc ms n ∧ (Cond.static y).before args s = true ∧ True) (hp : PreS s H Pc As)
    (hg : g.method = m) (hn : As.length = n) (hsize : g.locals.size = nL) (hstack : g.stack = As.reverse ++ rest) (hW : 2 * g.monitorRoom + (rest.map fun v => v.category).sum ≤ 8) (hdg : decode cc g.pc = .ok (.invokestatic index, 3)) (hf : cells + mc ≤ R.cells ∧ slots + ms ≤ R.slots) :
    vx_Run p l e R s m args below meth c H locs cells slots mc ms g rest (Qc As.toArray) XC free := by
  obtain ⟨⟨⟨hrc, hrs, hfr, hlo, hws, hcw⟩, hcode, hini, hy, hlen, hl⟩, hx1, hx2⟩ := cw
  have hK : vx_Back l R p e below s args y 3 8 (PreOf R mc ms Pc) (PostOf Qc mc ms free) (vx_Post XC mc ms free) := vx_back (bytes := bytes) (maxL := maxL) (ret := ret) hM hp.1 hrc hrs hfr hlo hws hcw (fun a' U hW => word_at hW (Or.inl (by first | rfl | simp [Cond.onTables, Cond.keeps, Cond.steady])) hini)
  obtain ⟨hx, hb, hml, ho, -⟩ := S
  have hPc := hp.2
  intro T hT X
  rcases vx_callSN X hx (bytes := bytes) (maxL := maxL) (ret := ret) ho hl hx1 hini hcode hy hK hg (hsize.trans hml.symm) (argsL := As) (rest := rest) (fun sig h => hn.trans (hlen sig h)) hstack hW (by rw [hb]; exact hdg)
    (fun vm₁ hW₁ => ⟨hf.1, hf.2, hPc (T.setVm vm₁) hT hW₁⟩) with ⟨v, vm₁, ⟨U', l2, c2, s2⟩, hW₁, X', ⟨g', mk, t, L, e1, e2, hq, h1, hL, h2, h3⟩, st⟩ | ⟨q, vm₁, ⟨U', l2, c2, s2⟩, hW₁, X', ⟨g', mk, t, L, E, ce, e1, e2, hq, hce, hcv, hcl, h1, hL, h2, h3⟩, st⟩
  · dsimp only [Pt.U, Pt.locs, Pt.cells, Pt.slots] at X' e1 e2 h1 h2 h3 st
    subst h1; subst h2; subst h3
    exact Or.inl ⟨v, (T.setVm vm₁).calling g' mk As.toArray, t, U', L, hT, X', hL, e1, e2, hq, st⟩
  · dsimp only [Pt.U, Pt.locs, Pt.cells, Pt.slots] at X' e1 e2 h1 h2 h3 st hcl
    subst h1; subst h2; subst h3
    exact Or.inr ⟨q, (T.setVm vm₁).calling g' mk As.toArray, t, U', L, E, ce, hT, X', hL, e1, e2, hq, hce, hcv, vx_cls hW₁ hcl, st⟩
end
/-! ===== END ===== -/
/-! ===== the evaluator: what a method's bytecode asks of a state with a fixed shape ===== -/
section EvDefs
abbrev vwCl : List vw_C := [(RX1, TX1, 2), (RX2, TX2, 3), (RX4, TX4, 18), (RX5, TX5, 2), (RX6, TX6, 5), (RX7, TX7, 8), (RX8, TX8, 3), (RX9, TX9, 5), (RX10, TX10, 7), (RX11, TX11, 21)]
/-- contents: ints (fields and elements), longs, references of the reference rows; by logical cell and place -/
abbrev ev_M : Type := (Nat → Nat → Int32) × (Nat → Nat → Int64) × (Nat → Nat → Nat)
/-- how a call ends: an answer and the contents, or the class of what it threw and the contents -/
abbrev ev_R : Type := (Option Value × ev_M) ⊕ (String × ev_M)
/-- the shape: kind of each cell, length of each row, constant references, constant ints; the number of cells -/
abbrev ev_S : Type := (Nat → Nat) × (Nat → Nat) × (Nat → Nat → Nat) × (Nat → Nat → Int32) × Nat
/-- the machine's side: launch, addresses of logical cells, classes and slots, classes of rows, the law's entry -/
abbrev ev_G : Type := Launch × (Nat → Nat) × va_G × (Nat → ClassId) × State × Array Value
/-- a method: name, code, locals, answer, depth -/
abbrev ev_Mi : Type := MethodName × ByteArray × Nat × Option FieldType × Nat
abbrev ev_kd (S : ev_S) : Nat → Nat := S.1
abbrev ev_ln (S : ev_S) : Nat → Nat := S.2.1
abbrev ev_pt (S : ev_S) : Nat → Nat → Nat := S.2.2.1
abbrev ev_cs (S : ev_S) : Nat → Nat → Int32 := S.2.2.2.1
abbrev ev_nc (S : ev_S) : Nat := S.2.2.2.2
/-- the kind of each field of each class: 0 a number that changes, 1 a constant reference, 2 a constant number, 3 a truth value -/
def ev_tc : Nat → List Nat
  | 0 => [1, 0]
  | 1 => [1, 0, 0]
  | 2 => [3, 0, 0, 0, 0, 0, 0, 1, 1, 1, 1, 1, 1, 1, 1, 1, 1, 1]
  | 3 => [1, 1]
  | 4 => [1, 0, 0, 0, 0]
  | 5 => [1, 0, 0, 1, 1, 1, 0, 0]
  | 6 => [2, 2, 1]
  | 7 => [1, 1, 1, 0, 0]
  | 8 => [1, 1, 1, 1, 1, 1, 1]
  | 9 => [0, 1, 1, 1, 1, 1, 3, 0, 1, 0, 0, 0, 0, 0, 0, 0, 0, 0, 1, 1, 0]
  | _ => []
/-- what a field holds -/
def ev_fv (S : ev_S) (μ : ev_M) (a k : Nat) : Nat → Value
  | 1 => .ref (ev_pt S a k)
  | 2 => .int (ev_cs S a k)
  | _ => .int (μ.1 a k)
def ev_tr (ρ : Nat → Nat) : Value → Value
  | .ref a => .ref (ρ a)
  | v => v
def ev_up {α : Type} (f : Nat → Nat → α) (a k : Nat) (v : α) : Nat → Nat → α := fun b j => if b = a ∧ j = k then v else f b j
/-- a value of a local place -/
def ev_lk : List (Nat × Value) → Nat → Option Value
  | [], _ => none
  | (i, v) :: l, k => if i = k then some v else ev_lk l k
def ev_rm : List (Nat × Value) → Nat → List (Nat × Value)
  | [], _ => []
  | (k, v) :: l, i => if k = i then ev_rm l i else if k + 1 = i then (match v with
    | .long _ => ev_rm l i
    | .double _ => ev_rm l i
    | _ => (k, v) :: ev_rm l i) else (k, v) :: ev_rm l i
def ev_st1 (l : List (Nat × Value)) (i : Nat) (v : Value) : List (Nat × Value) := (i, v) :: ev_rm l i
def ev_st2 (l : List (Nat × Value)) (i : Nat) (v : Value) : List (Nat × Value) := (i, v) :: ev_rm (ev_rm l (i + 1)) i
def ev_sz : List Value → Nat
  | [] => 0
  | v :: r => v.category + ev_sz r
/-- one logical cell, as the kit's worlds have it -/
def ev_E (S : ev_S) (G : ev_G) (μ : ev_M) (a : Nat) : va_E :=
  if ev_kd S a = 10 then .inl (G.2.2.2.1 10, ev_ln S a, .inl (μ.1 a))
  else if ev_kd S a = 11 then .inl (G.2.2.2.1 11, ev_ln S a, .inl (μ.1 a))
  else if ev_kd S a = 12 then .inl (G.2.2.2.1 12, ev_ln S a, .inl (μ.1 a))
  else if ev_kd S a = 13 then .inl (G.2.2.2.1 13, ev_ln S a, .inr (.inl (μ.2.1 a)))
  else if ev_kd S a = 14 then .inl (G.2.2.2.1 14, ev_ln S a, .inr (.inr (.inr (.inr (fun k => some (G.2.1 (μ.2.2 a k)))))))
  else if ev_kd S a = 15 then .inl (G.2.2.2.1 15, ev_ln S a, .inr (.inr (.inr (.inl (fun k => (μ.2.1 a k).toUInt64)))))
  else .inr (ev_kd S a, (ev_tc (ev_kd S a)).zipIdx.map (fun q => ev_tr G.2.1 (ev_fv S μ a q.2 q.1)))
def ev_ws (S : ev_S) (G : ev_G) (μ : ev_M) : va_W := (List.range (ev_nc S)).map (fun a => (G.2.1 a, ev_E S G μ a))
def ev_tys (G : ev_G) : List (ClassId × FieldType) := [(G.2.2.2.1 10, .int), (G.2.2.2.1 11, .byte), (G.2.2.2.1 12, .boolean), (G.2.2.2.1 13, .long), (G.2.2.2.1 14, .object RX4), (G.2.2.2.1 15, .double)]
abbrev ev_lo (G : ev_G) : Nat := G.2.2.2.2.1.heap.size
/-- the heap holds the contents; what was there before the law began is as it was -/
def ev_H (S : ev_S) (G : ev_G) (μ : ev_M) (H : Heap) : Prop := va_P G.2.2.1 vwCl (ev_ws S G μ) H ∧ ev_lo G ≤ H.size ∧ ∀ q : Nat, q < ev_lo G → H[q]? = G.2.2.2.2.1.heap[q]?
def ev_co (res : ev_R) : Nat × Nat := match res with
  | .inl _ => (0, 0)
  | .inr _ => (1, 6)
def ev_pre (S : ev_S) (G : ev_G) (args : List Value) (μ : ev_M) : Array Value → State → Prop := va_Pc (args.map (ev_tr G.2.1)) (fun U => G.2.2.2.2.1.WarmedH U.vm ∧ ev_H S G μ U.heap)
def ev_Q (S : ev_S) (G : ev_G) (res : ev_R) : Array Value → State → Outcome → State → Prop := fun _ _ o t => ∃ (r : Option Value) (μ : ev_M), res = .inl (r, μ) ∧ o = .returned (r.map (ev_tr G.2.1)) ∧ ev_H S G μ t.heap
def ev_X (S : ev_S) (G : ev_G) (res : ev_R) : String → State → State → Prop := fun E _ t => ∃ μ : ev_M, res = .inr (E, μ) ∧ ev_H S G μ t.heap
abbrev ev_fr (G : ev_G) : Addr → Prop := fun q => ev_lo G ≤ q
/-- THE TRIPLE: called with these arguments over these contents, the method ends so -/
def ev_T (S : ev_S) (G : ev_G) (y : ev_Mi) (args : List Value) (μ : ev_M) (res : ev_R) : Prop :=
  vx_Met G.1 y.1 (.code y.1 y.2.1 y.2.2.1 y.2.2.2.1 :: []) { frames := y.2.2.2.2, cells := (ev_co res).1, slots := (ev_co res).2, locals := 40 * y.2.2.2.2 } (ev_pre S G args μ) (ev_Q S G res) (ev_X S G res) (ev_co res).1 (ev_co res).2 (ev_fr G)
/-- a call site: 0 virtual, 1 static, 2 private or nest mate virtual, 3 nest mate static; 10 max, 11 min, 12 abs, 13 arraycopy; the method, its arguments, the receiver's kind -/
abbrev ev_Ca : Type := Nat × ev_Mi × Nat × Nat
/-- what the method at hand is: fields and calls by their places in the constant pool, exceptions and ints likewise; locals; whether it answers a truth value -/
abbrev ev_Tb : Type := (Nat → Option (Nat × Nat × Nat)) × (Nat → Option ev_Ca) × (Nat → Option String) × (Nat → Option Int32) × (Nat → Option Int64) × Nat × Bool
def ev_lu {α : Type} : List (Nat × α) → Nat → Option α
  | [], _ => none
  | (i, v) :: l, k => if i = k then some v else ev_lu l k
/-- the cut points: pc, the locals that are kept, the claim there -/
abbrev ev_J : Type := List (Nat × List Nat × (List Value → List Value → ev_M → Prop))
def ev_fj : ev_J → Nat → Option (List Nat × (List Value → List Value → ev_M → Prop))
  | [], _ => none
  | (pc, q) :: J, k => if pc = k then some q else ev_fj J k
def ev_pk (l : List (Nat × Value)) : List Nat → Option (List Value)
  | [] => some []
  | k :: ks => match ev_lk l k with
    | some v => match ev_pk l ks with
      | some vs => some (v :: vs)
      | none => none
    | none => none
def ev_at : List (Nat × Instr) → Nat → List (Nat × Instr)
  | [], _ => []
  | (pc, i) :: is, k => if pc = k then (pc, i) :: is else ev_at is k
end EvDefs

section EvStep
/-- an instruction with its place spelled out: locals by a number, jumps by their goal -/
def ev_nm (pc : Nat) : Instr → Instr
  | .iload_n n => .iload n
  | .lload_n n => .lload n
  | .aload_n n => .aload n
  | .fload_n n => .fload n
  | .dload_n n => .dload n
  | .istore_n n => .istore n
  | .lstore_n n => .lstore n
  | .astore_n n => .astore n
  | .fstore_n n => .fstore n
  | .dstore_n n => .dstore n
  | .goto off => .goto (pc + off)
  | .ifCond c off => .ifCond c (pc + off)
  | .if_icmp c off => .if_icmp c (pc + off)
  | .if_acmp c off => .if_acmp c (pc + off)
  | i => i
def ev_hl (is : List (Nat × Instr)) : List (Nat × Instr) := is
def ev_cn (res res' : ev_R) (kc : Option Value → ev_M → Prop) : Prop := match res' with
  | .inl (v, μ) => kc v μ
  | .inr (E, μ) => res = .inr (E, μ)
def ev_as : Nat → List Value → List Value → Option (List Value × List Value)
  | 0, acc, st => some (acc, st)
  | _ + 1, _, [] => none
  | n + 1, acc, v :: st => ev_as n (v :: acc) st
/-- one instruction: k goes on behind it, j at another place, kc behind a call -/
def ev_stp (S : ev_S) (G : ev_G) (Tb : ev_Tb) (d : Nat) (res : ev_R) (i : Instr) (pc : Nat) (l : List (Nat × Value)) (st : List Value) (μ : ev_M)
    (k : List (Nat × Value) → List Value → ev_M → Prop) (j : Nat → List (Nat × Value) → List Value → ev_M → Prop) (kc : List (Nat × Value) → List Value → ev_M → Prop) : Prop :=
  match i with
  | .iload n => match ev_lk l n with
    | some (.int x) => k l (.int x :: st) μ
    | _ => False
  | .lload n => match ev_lk l n with
    | some (.long x) => k l (.long x :: st) μ
    | _ => False
  | .aload n => match ev_lk l n with
    | some (.ref x) => k l (.ref x :: st) μ
    | _ => False
  | .istore n => match st with
    | .int x :: r => n < Tb.2.2.2.2.2.1 ∧ k (ev_st1 l n (.int x)) r μ
    | _ => False
  | .astore n => match st with
    | .ref x :: r => n < Tb.2.2.2.2.2.1 ∧ k (ev_st1 l n (.ref x)) r μ
    | _ => False
  | .lstore n => match st with
    | .long x :: r => n + 1 < Tb.2.2.2.2.2.1 ∧ k (ev_st2 l n (.long x)) r μ
    | _ => False
  | .iinc n c => match ev_lk l n with
    | some (.int x) => n < Tb.2.2.2.2.2.1 ∧ k (ev_st1 l n (.int (x + Int32.ofInt c))) st μ
    | _ => False
  | .iconst n => k l (.int (Int32.ofInt n) :: st) μ
  | .bipush n => k l (.int (Int8.ofInt n).toInt32 :: st) μ
  | .sipush n => k l (.int (Int16.ofInt n).toInt32 :: st) μ
  | .lconst n => k l (.long (Int64.ofNat (n : Nat)) :: st) μ
  | .ldc n => match Tb.2.2.2.1 n with
    | some v => k l (.int v :: st) μ
    | none => False
  | .ldc_w n => match Tb.2.2.2.1 n with
    | some v => k l (.int v :: st) μ
    | none => False
  | .ldc2_w n => match Tb.2.2.2.2.1 n with
    | some v => k l (.long v :: st) μ
    | none => False
  | .iadd => match st with
    | .int y :: .int x :: r => k l (.int (x + y) :: r) μ
    | _ => False
  | .isub => match st with
    | .int y :: .int x :: r => k l (.int (x - y) :: r) μ
    | _ => False
  | .imul => match st with
    | .int y :: .int x :: r => k l (.int (x * y) :: r) μ
    | _ => False
  | .iand => match st with
    | .int y :: .int x :: r => k l (.int (x &&& y) :: r) μ
    | _ => False
  | .ior => match st with
    | .int y :: .int x :: r => k l (.int (x ||| y) :: r) μ
    | _ => False
  | .idiv => match st with
    | .int y :: .int x :: r => ¬ y = 0 ∧ k l (.int (x / y) :: r) μ
    | _ => False
  | .irem => match st with
    | .int y :: .int x :: r => ¬ y = 0 ∧ k l (.int (x - x / y * y) :: r) μ
    | _ => False
  | .ineg => match st with
    | .int x :: r => k l (.int (-x) :: r) μ
    | _ => False
  | .ladd => match st with
    | .long y :: .long x :: r => k l (.long (x + y) :: r) μ
    | _ => False
  | .lsub => match st with
    | .long y :: .long x :: r => k l (.long (x - y) :: r) μ
    | _ => False
  | .lmul => match st with
    | .long y :: .long x :: r => k l (.long (x * y) :: r) μ
    | _ => False
  | .lor => match st with
    | .long y :: .long x :: r => k l (.long (x ||| y) :: r) μ
    | _ => False
  | .i2l => match st with
    | .int x :: r => k l (.long x.toInt64 :: r) μ
    | _ => False
  | .l2i => match st with
    | .long x :: r => k l (.int x.toInt32 :: r) μ
    | _ => False
  | .i2b => match st with
    | .int x :: r => k l (.int x.toInt8.toInt32 :: r) μ
    | _ => False
  | .i2c => match st with
    | .int x :: r => k l (.int (x.toUInt32 % 65536).toInt32 :: r) μ
    | _ => False
  | .iushr => match st with
    | .int y :: .int x :: r => k l (.int (x.toUInt32 >>> (y.toUInt32 &&& Int32.toUInt32 31)).toInt32 :: r) μ
    | _ => False
  | .lushr => match st with
    | .int y :: .long x :: r => k l (.long (x.toUInt64 >>> (y.toInt64.toUInt64 &&& Int64.toUInt64 63)).toInt64 :: r) μ
    | _ => False
  | .lshl => match st with
    | .int y :: .long x :: r => k l (.long (x <<< (y.toInt64 &&& 63)) :: r) μ
    | _ => False
  | .ishl => match st with
    | .int y :: .int x :: r => k l (.int (x <<< (y &&& 31)) :: r) μ
    | _ => False
  | .ishr => match st with
    | .int y :: .int x :: r => k l (.int (x >>> (y &&& 31)) :: r) μ
    | _ => False
  | .dup => match st with
    | v :: r => v.category = 1 ∧ k l (v :: v :: r) μ
    | _ => False
  | .pop => match st with
    | v :: r => v.category = 1 ∧ k l r μ
    | _ => False
  | .dup2 => match st with
    | v :: w :: r => v.category = 1 ∧ w.category = 1 ∧ k l (v :: w :: v :: w :: r) μ
    | _ => False
  | .lcmp => match st with
    | .long y :: .long x :: r => k l (.int (lg_cmp x y) :: r) μ
    | _ => False
  | .goto off => j off.toNat l st μ
  | .ifCond .eq off => match st with
    | .int x :: r => (x = 0 → j off.toNat l r μ) ∧ (¬ (x = 0) → k l r μ)
    | _ => False
  | .ifCond .ne off => match st with
    | .int x :: r => (¬ x = 0 → j off.toNat l r μ) ∧ (x = 0 → k l r μ)
    | _ => False
  | .ifCond .lt off => match st with
    | .int x :: r => (x < 0 → j off.toNat l r μ) ∧ (¬ (x < 0) → k l r μ)
    | _ => False
  | .ifCond .ge off => match st with
    | .int x :: r => (0 ≤ x → j off.toNat l r μ) ∧ (¬ (0 ≤ x) → k l r μ)
    | _ => False
  | .ifCond .gt off => match st with
    | .int x :: r => (0 < x → j off.toNat l r μ) ∧ (¬ (0 < x) → k l r μ)
    | _ => False
  | .ifCond .le off => match st with
    | .int x :: r => (x ≤ 0 → j off.toNat l r μ) ∧ (¬ (x ≤ 0) → k l r μ)
    | _ => False
  | .if_icmp .eq off => match st with
    | .int y :: .int x :: r => (x = y → j off.toNat l r μ) ∧ (¬ (x = y) → k l r μ)
    | _ => False
  | .if_icmp .ne off => match st with
    | .int y :: .int x :: r => (¬ x = y → j off.toNat l r μ) ∧ (x = y → k l r μ)
    | _ => False
  | .if_icmp .lt off => match st with
    | .int y :: .int x :: r => (x < y → j off.toNat l r μ) ∧ (¬ (x < y) → k l r μ)
    | _ => False
  | .if_icmp .ge off => match st with
    | .int y :: .int x :: r => (y ≤ x → j off.toNat l r μ) ∧ (¬ (y ≤ x) → k l r μ)
    | _ => False
  | .if_icmp .gt off => match st with
    | .int y :: .int x :: r => (y < x → j off.toNat l r μ) ∧ (¬ (y < x) → k l r μ)
    | _ => False
  | .if_icmp .le off => match st with
    | .int y :: .int x :: r => (x ≤ y → j off.toNat l r μ) ∧ (¬ (x ≤ y) → k l r μ)
    | _ => False
  | .getfield n => match Tb.1 n, st with
    | some (ci, kx, t), .ref a :: r => a < ev_nc S ∧ ev_kd S a = ci ∧ k l (ev_fv S μ a kx t :: r) μ
    | _, _ => False
  | .putfield n => match Tb.1 n, st with
    | some (ci, kx, 0), .int x :: .ref a :: r => a < ev_nc S ∧ ev_kd S a = ci ∧ k l r (ev_up μ.1 a kx x, μ.2)
    | some (ci, kx, 3), .int x :: .ref a :: r => a < ev_nc S ∧ ev_kd S a = ci ∧ (x = 0 ∨ x = 1) ∧ k l r (ev_up μ.1 a kx x, μ.2)
    | _, _ => False
  | .iaload => match st with
    | .int x :: .ref a :: r => a < ev_nc S ∧ ev_kd S a = 10 ∧ vp_in x (ev_ln S a) ∧ k l (.int (μ.1 a x.toNatClampNeg) :: r) μ
    | _ => False
  | .baload => match st with
    | .int x :: .ref a :: r => a < ev_nc S ∧ (ev_kd S a = 11 ∨ ev_kd S a = 12) ∧ vp_in x (ev_ln S a) ∧ k l (.int (μ.1 a x.toNatClampNeg) :: r) μ
    | _ => False
  | .laload => match st with
    | .int x :: .ref a :: r => a < ev_nc S ∧ ev_kd S a = 13 ∧ vp_in x (ev_ln S a) ∧ k l (.long (μ.2.1 a x.toNatClampNeg) :: r) μ
    | _ => False
  | .aaload => match st with
    | .int x :: .ref a :: r => a < ev_nc S ∧ ev_kd S a = 14 ∧ vp_in x (ev_ln S a) ∧ k l (.ref (μ.2.2 a x.toNatClampNeg) :: r) μ
    | _ => False
  | .iastore => match st with
    | .int v :: .int x :: .ref a :: r => a < ev_nc S ∧ ev_kd S a = 10 ∧ vp_in x (ev_ln S a) ∧ k l r (ev_up μ.1 a x.toNatClampNeg v, μ.2)
    | _ => False
  | .bastore => match st with
    | .int v :: .int x :: .ref a :: r => a < ev_nc S ∧ vp_in x (ev_ln S a) ∧ ((ev_kd S a = 11 ∧ k l r (ev_up μ.1 a x.toNatClampNeg v.toInt8.toInt32, μ.2)) ∨ (ev_kd S a = 12 ∧ k l r (ev_up μ.1 a x.toNatClampNeg (vp_nar .boolean v), μ.2)))
    | _ => False
  | .lastore => match st with
    | .long v :: .int x :: .ref a :: r => a < ev_nc S ∧ ev_kd S a = 13 ∧ vp_in x (ev_ln S a) ∧ k l r (μ.1, ev_up μ.2.1 a x.toNatClampNeg v, μ.2.2)
    | _ => False
  | .arraylength => match st with
    | .ref a :: r => a < ev_nc S ∧ 10 ≤ ev_kd S a ∧ ev_kd S a ≤ 15 ∧ k l (.int (Int32.ofNat (ev_ln S a)) :: r) μ
    | _ => False
  | .invokevirtual n => match Tb.2.1 n with
    | some (0, y, na, c) => match ev_as na [] st with
      | some (As, .ref b :: r) => b < ev_nc S ∧ ev_kd S b = c ∧ ev_sz r ≤ 8 ∧ y.2.2.2.2 < d ∧ ∃ res' : ev_R, ev_T S G y (.ref b :: As) μ res' ∧ ev_cn res res' (fun v μ => kc l (v.toList ++ r) μ)
      | _ => False
    | _ => False
  | .invokestatic n => match Tb.2.1 n with
    | some (1, y, na, _) => match ev_as na [] st with
      | some (As, r) => ev_sz r ≤ 8 ∧ y.2.2.2.2 < d ∧ ∃ res' : ev_R, ev_T S G y As μ res' ∧ ev_cn res res' (fun v μ => kc l (v.toList ++ r) μ)
      | _ => False
    | some (3, y, na, _) => match ev_as na [] st with
      | some (As, r) => ev_sz r ≤ 8 ∧ y.2.2.2.2 < d ∧ ∃ res' : ev_R, ev_T S G y As μ res' ∧ ev_cn res res' (fun v μ => kc l (v.toList ++ r) μ)
      | _ => False
    | some (10, _, _, _) => match st with
      | .int y :: .int x :: r => ev_sz r ≤ 8 ∧ 0 < d ∧ k l (.int (if x < y then y else x) :: r) μ
      | _ => False
    | some (11, _, _, _) => match st with
      | .int y :: .int x :: r => ev_sz r ≤ 8 ∧ 0 < d ∧ k l (.int (if y < x then y else x) :: r) μ
      | _ => False
    | some (12, _, _, _) => match st with
      | .int x :: r => ev_sz r ≤ 8 ∧ 0 < d ∧ k l (.int (if 0 ≤ x then x else 0 - x) :: r) μ
      | _ => False
    | _ => False
  | .ireturn => match st with
    | [.int x] => (Tb.2.2.2.2.2.2 = true → (x = 0 ∨ x = 1)) ∧ res = .inl (some (.int x), μ)
    | _ => False
  | .lreturn => match st with
    | [.long x] => res = .inl (some (.long x), μ)
    | _ => False
  | .return_ => match st with
    | [] => res = .inl (none, μ)
    | _ => False
  | .new n => match Tb.2.2.1 n with
    | some E => ev_sz st ≤ 8 ∧ 6 < d ∧ res = .inr (E, μ)
    | none => False
  | _ => False

/-- a stretch of the method's code, up to its ends and its cut points -/
def ev_run0 (S : ev_S) (G : ev_G) (Tb : ev_Tb) (d : Nat) (J : ev_J) (cd : List (Nat × Instr)) (res : ev_R) : Nat → List (Nat × Instr) → List (Nat × Value) → List Value → ev_M → Prop
  | 0, _, _, _, _ => False
  | n + 1, is, l, st, μ => match is with
    | [] => False
    | (pc, i) :: is => match ev_fj J pc with
      | some (ks, P) => ∃ vs : List Value, ev_pk l ks = some vs ∧ P vs st μ
      | none => ev_stp S G Tb d res i pc l st μ (ev_run0 S G Tb d J cd res n is) (fun t => ev_run0 S G Tb d J cd res n (ev_at cd t)) (ev_run0 S G Tb d J cd res n (ev_hl is))
abbrev ev_RT : Type := ev_S → ev_G → ev_Tb → Nat → ev_J → List (Nat × Instr) → ev_R → Nat → List (Nat × Instr) → List (Nat × Value) → List Value → ev_M → Prop
theorem ev_ex : ∃ f : ev_RT, (∀ S G Tb d J cd res is l st μ, f S G Tb d J cd res 0 is l st μ = False) ∧ (∀ S G Tb d J cd res n l st μ, f S G Tb d J cd res n [] l st μ = False) ∧
    ∀ S G Tb d J cd res n pc i is l st μ, f S G Tb d J cd res (n + 1) ((pc, i) :: is) l st μ = (match ev_fj J pc with
      | some (ks, P) => ∃ vs : List Value, ev_pk l ks = some vs ∧ P vs st μ
      | none => ev_stp S G Tb d res i pc l st μ (f S G Tb d J cd res n is) (fun t => f S G Tb d J cd res n (ev_at cd t)) (f S G Tb d J cd res n (ev_hl is))) :=
  ⟨ev_run0, fun _ _ _ _ _ _ _ _ _ _ _ => rfl, fun _ _ _ _ _ _ _ n _ _ _ => by cases n <;> rfl, fun _ _ _ _ _ _ _ _ _ _ _ _ _ _ => rfl⟩
/-- the same, told by its equations alone -/
noncomputable def ev_run : ev_RT := Classical.choose ev_ex
theorem ev_run_0 {S : ev_S} {G : ev_G} {Tb : ev_Tb} {d : Nat} {J : ev_J} {cd : List (Nat × Instr)} {res : ev_R} {is : List (Nat × Instr)} {l : List (Nat × Value)} {st : List Value} {μ : ev_M} : ev_run S G Tb d J cd res 0 is l st μ = False := (Classical.choose_spec ev_ex).1 ..
theorem ev_run_n {S : ev_S} {G : ev_G} {Tb : ev_Tb} {d : Nat} {J : ev_J} {cd : List (Nat × Instr)} {res : ev_R} {n : Nat} {l : List (Nat × Value)} {st : List Value} {μ : ev_M} : ev_run S G Tb d J cd res n [] l st μ = False := (Classical.choose_spec ev_ex).2.1 ..
theorem ev_run_c {S : ev_S} {G : ev_G} {Tb : ev_Tb} {d : Nat} {J : ev_J} {cd : List (Nat × Instr)} {res : ev_R} {n pc : Nat} {i : Instr} {is : List (Nat × Instr)} {l : List (Nat × Value)} {st : List Value} {μ : ev_M} :
    ev_run S G Tb d J cd res (n + 1) ((pc, i) :: is) l st μ = (match ev_fj J pc with
      | some (ks, P) => ∃ vs : List Value, ev_pk l ks = some vs ∧ P vs st μ
      | none => ev_stp S G Tb d res i pc l st μ (ev_run S G Tb d J cd res n is) (fun t => ev_run S G Tb d J cd res n (ev_at cd t)) (ev_run S G Tb d J cd res n (ev_hl is))) := (Classical.choose_spec ev_ex).2.2 ..
end EvStep
