/-! ===== what constructors make: one row of cells behind the law's entry, in the order of the shape ===== -/
section Ct
variable {G : ev_G} {μ : ev_M} {E : Nat → va_E}
/-- the cells a .. a + n - 1 stand, none behind them; what lies ahead is as it was -/
def ct_H (G : ev_G) (E : Nat → va_E) (a n : Nat) (H0 H : Heap) : Prop := H.size = ev_lo G + a + n ∧ (∀ b : Nat, a ≤ b → b < a + n → va_at G.2.2.1 vwCl (ev_lo G + b, E b) H) ∧ ∀ q : Nat, q < ev_lo G + a → H[q]? = H0[q]?
abbrev ct_E (G : ev_G) (μ : ev_M) : Nat → va_E := ev_E sh_S G μ
/-- what is given in a method: the machine, its code, the addresses -/
def ct_C (G : ev_G) (p : Program) (s : State) (m : MethodId) (c : Code) (cc : ByteArray) (own : String) (nL : Nat) : Prop :=
  ev_ok sh_S G ∧ (∀ a : Nat, a < 312 → G.2.1 a = ev_lo G + a) ∧ p.tables.exec = Jvm.exec ∧ c.code = cc ∧ c.maxLocals = nL ∧ s.vm.findClass own = some m.cls ∧ G.2.2.2.2.1.WarmedH s.vm
/-- THE TRIPLE of a constructor: the object stands at a, fresh and last; then its N cells stand -/
def ct_T (G : ev_G) (μ : ev_M) (y : ev_Mi) (as : List Value) (a N ms : Nat) (e0 : va_E) : Prop :=
  Met G.1 y.1 (.code y.1 y.2.1 y.2.2.1 y.2.2.2.1 :: []) { frames := y.2.2.2.2, cells := N - 1, slots := ms, locals := 40 * y.2.2.2.2 }
    (va_Pc (.ref (ev_lo G + a) :: as) (fun U => G.2.2.2.2.1.WarmedH U.vm ∧ U.heap.size = ev_lo G + a + 1 ∧ va_at G.2.2.1 vwCl (ev_lo G + a, e0) U.heap))
    (fun _ st o t => o = .returned none ∧ ct_H G (ct_E G μ) a N st.heap t.heap) (N - 1) ms (fun q => ev_lo G + a ≤ q)
theorem va_up_s {f : Nat → va_E} {k : Nat} {v : va_E} : va_up f k v k = v := by unfold va_up; rw [if_pos rfl]
theorem va_up_n {f : Nat → va_E} {k j : Nat} {v : va_E} (h : j ≠ k) : va_up f k v j = f j := by unfold va_up; rw [if_neg h]
theorem va_up_2 {f : Nat → va_E} {k : Nat} {v w : va_E} : va_up (va_up f k v) k w = va_up f k w := by
  funext j
  unfold va_up
  by_cases h : j = k
  · rw [if_pos h, if_pos h]
  · rw [if_neg h, if_neg h, if_neg h]
theorem va_up_id {f : Nat → va_E} {k : Nat} {v : va_E} (h : v = f k) : va_up f k v = f := by
  funext j
  unfold va_up
  by_cases hj : j = k
  · rw [if_pos hj, h, hj]
  · rw [if_neg hj]
/-- a place of a row is changed -/
def va_up_f (f : Nat → Option Nat) (k : Nat) (v : Option Nat) : Nat → Option Nat := fun j => if j = k then v else f j
theorem va_at_eq {D : va_G} {cl : List vw_C} {q : Nat} {e : va_E} {H H1 : Heap} (h : va_at D cl (q, e) H) (hq : H1[q]? = H[q]?) : va_at D cl (q, e) H1 := h.kept hq
section
variable {p : Program} {e : Env} {R : Room} {s : State} {m : MethodId} {args : Array Value} {below : List Frame} {meth : Method} {c : Code} {cc : ByteArray} {own : String} {nL : Nat} {H0 H : Heap} {locs : List Loc} {cells slots : Nat} {Q : State → Prop} {a n pc : Nat} {ls : Array Slot} {st : List Value}
theorem ct_w (C0 : ct_C G p s m c cc own nL) : ∀ w ∈ ev_wd, w.before args s = true := fun w hw => ev_gw_warm C0.2.2.2.2.2.2 (C0.1.2.2.2.1 w (ev_wd_in hw).1) (ev_wd_in hw).2
theorem ct_K (C0 : ct_C G p s m c cc own nL) : va_K G.2.2.1 vwCl (ev_tys G) s := va_K.moved C0.2.2.2.2.2.2.alike C0.1.2.2.1
/-- a cell is added -/
theorem ct_push (h : ct_H G E a n H0 H) {e1 : va_E} {H1 : Heap} (hz : H1.size = ev_lo G + a + n + 1) (he : va_at G.2.2.1 vwCl (ev_lo G + (a + n), e1) H1) (ho : ∀ q : Nat, q < ev_lo G + a + n → H1[q]? = H[q]?) : ct_H G (va_up E (a + n) e1) a (n + 1) H0 H1 := by
  refine ⟨by omega, fun b h1 h2 => ?_, fun q hq => ?_⟩
  · by_cases hb : b = a + n
    · subst hb
      rw [va_up_s]
      exact he
    · rw [va_up_n hb]
      exact va_at_eq (h.2.1 b h1 (by omega)) (ho _ (by omega))
  · rw [ho q (by omega)]
    exact h.2.2 q hq
/-- a cell is changed -/
theorem ct_upd (h : ct_H G E a n H0 H) {b : Nat} {e1 : va_E} {H1 : Heap} (hb : a ≤ b) (hz : H1.size = H.size) (he : va_at G.2.2.1 vwCl (ev_lo G + b, e1) H1) (ho : ∀ q : Nat, q ≠ ev_lo G + b → H1[q]? = H[q]?) : ct_H G (va_up E b e1) a n H0 H1 := by
  refine ⟨by rw [hz]; exact h.1, fun d h1 h2 => ?_, fun q hq => ?_⟩
  · by_cases hd : d = b
    · subst hd
      rw [va_up_s]
      exact he
    · rw [va_up_n hd]
      exact va_at_eq (h.2.1 d h1 h2) (ho _ (by omega))
  · rw [ho q (by omega)]
    exact h.2.2 q hq
theorem ct_eq {E' : Nat → va_E} (h : ct_H G E a n H0 H) (hE : ∀ b, a ≤ b → b < a + n → E' b = E b) : ct_H G E' a n H0 H := ⟨h.1, fun b h1 h2 => by rw [hE b h1 h2]; exact h.2.1 b h1 h2, h.2.2⟩
/-- an array of numbers is made -/
theorem ct_arr (C0 : ct_C G p s m c cc own nL) (hH : ct_H G E a n H0 H) {at9 : ArrayType} {ty : FieldType} (hty : newarray.typeOf at9 = ty) (hw : Cond.arrayClass ty ∈ ev_wd) {K N t0 : Nat} {z : (Nat → Int32) ⊕ (Nat → Int64) ⊕ (Nat → UInt32) ⊕ (Nat → UInt64) ⊕ (Nat → Option Nat)}
    (hz : ∀ cA : ClassId, vp_cell cA (N, z) = arrV cA N (fun _ => defaultValue ty)) (ht : (ev_tys G)[t0]? = some (G.2.2.2.1 K, ty)) (hra : ∀ (U : State) (cA : ClassId), va_RA U cA ty → U.vm.findClass ("[" ++ ty.toString) = some cA) {v : Int32} (hn : ¬ v < 0) (hN : v.toNatClampNeg = N) (hbytes : N * componentBytes ty ≤ 536870912) (hcells : cells + 1 ≤ R.cells) (hslots : slots + N ≤ R.slots) (hdg : decode cc pc = .ok (.newarray at9, 2))
    (kk : ∀ H1 : Heap, ct_H G (va_up E (a + n) (.inl (G.2.2.2.1 K, N, z))) a (n + 1) H0 H1 → W p G.1 e R s m args below meth c H1 locs (cells + 1) (slots + N) Q (F0 m (pc + 2) ls (.ref (ev_lo G + (a + n)) :: st))) : W p G.1 e R s m args below meth c H locs cells slots Q (F0 m pc ls (.int v :: st)) := by
  subst hty
  refine va_newaK C0.2.2.1 C0.2.2.2.1 (ct_w C0 _ hw) rfl hdg rfl hn hN hbytes hcells hslots (h := ev_lo G + (a + n)) (by rw [hH.1]; omega) fun H1 cA e1 z1 o1 hAr hNm => ?_
  have hcA : cA = G.2.2.2.1 K := Option.some.inj (hNm.symm.trans (hra s _ ((ct_K C0).2 t0 _ ht).2))
  refine kk H1 (ct_push hH (by rw [z1]; omega) ?_ (fun q hq => o1 q (by omega)))
  show H1[ev_lo G + (a + n)]? = some (vp_cell (G.2.2.2.1 K) (N, z))
  rw [hz, ← hcA]
  exact e1
/-- an array of references is made -/
theorem ct_anew (C0 : ct_C G p s m c cc own nL) (hH : ct_H G E a n H0 H) {index N : Nat} (hw1 : Cond.classLink own index RX4 ∈ ev_wd) (hw2 : Cond.arrayOver (.object RX4) ∈ lw_tbl) {v : Int32} (hn : ¬ v < 0) (hN : v.toNatClampNeg = N) (hbytes : N * 4 ≤ 536870912) (hcells : cells + 1 ≤ R.cells) (hslots : slots + N ≤ R.slots) (hdg : decode cc pc = .ok (.anewarray index, 3))
    (kk : ∀ H1 : Heap, ct_H G (va_up E (a + n) (.inl (G.2.2.2.1 14, N, .inr (.inr (.inr (.inr (fun _ => none))))))) a (n + 1) H0 H1 → W p G.1 e R s m args below meth c H1 locs (cells + 1) (slots + N) Q (F0 m (pc + 3) ls (.ref (ev_lo G + (a + n)) :: st))) : W p G.1 e R s m args below meth c H locs cells slots Q (F0 m pc ls (.int v :: st)) := by
  subst hN
  refine W.anew C0.2.2.1 C0.2.2.2.1 C0.2.2.2.2.2.1 (ct_w C0 _ hw1) (va_AO.use (va_AO.moved C0.2.2.2.2.2.2.alike (va_AO.of (C0.1.2.2.2.1 _ hw2)))) rfl hdg rfl hn hbytes hcells hslots fun cA kA comp f1 f2 f3 f4 => ?_
  have hcA : cA = G.2.2.2.1 14 := by
    obtain ⟨kA', comp', -, -, -, g4⟩ := ((ct_K C0).2 4 (G.2.2.2.1 14, .object RX4) rfl).2
    exact Option.some.inj (f1.symm.trans g4)
  have hsz : H.size = ev_lo G + (a + n) := by rw [hH.1]; omega
  generalize hH1 : H.push ({ cls := cA, slots := Array.replicate v.toNatClampNeg .null, vm := .none } : Cell) = H1
  have z1 : H1.size = H.size + 1 := by rw [← hH1, Array.size_push]
  have e1 : H1[H.size]? = some (arrV cA v.toNatClampNeg (fun _ => .null)) := by rw [← hH1, Array.getElem?_push_size, ← arrV_new]
  have o1 : ∀ q : Nat, q < H.size → H1[q]? = H[q]? := fun q hq => by rw [← hH1, Array.getElem?_push, if_neg (Nat.ne_of_lt hq)]
  rw [hsz]
  refine kk H1 (ct_push hH (by rw [z1, hsz]; omega) ?_ (fun q hq => o1 q (by omega)))
  show H1[ev_lo G + (a + n)]? = some (vp_cell (G.2.2.2.1 14) _)
  rw [vp_cell_q, ← hcA, ← hsz]
  exact e1
/-- a field is written -/
theorem ct_put (C0 : ct_C G p s m c cc own nL) (hH : ct_H G E a n H0 H) (hL : ∀ q ∈ locs, ev_lo G + a ≤ q.base) {b ci N index : Nat} {T : u_T} {fs : List Value} (hb1 : a ≤ b) (hb2 : b < a + n) (hE : E b = .inr (ci, fs)) (hc : vwCl[ci]? = some (own, T, N)) (k : Nat) (hk : k < N) (hlink : Cond.fieldLink own index own (T k).2.1 (T k).2.2.1 ∈ ev_wd) (hdecl : (T k).1 = own) (hin2 : meth.name = "<init>") {ty : FieldType} {v : Value} (hd : parseFieldDescriptor (T k).2.2.1 = some ty) (hn : narrow ty v = v) (hfit : fits ty v = true) (hl : k < fs.length)
    (hdg : decode cc pc = .ok (.putfield index, 3)) (kk : ∀ (H1 : Heap) (locs1 : List Loc), ct_H G (va_up E b (.inr (ci, fs.set k v))) a n H0 H1 → (∀ q ∈ locs1, ev_lo G + a ≤ q.base) → W p G.1 e R s m args below meth c H1 locs1 cells slots Q (F0 m (pc + 3) ls st)) : W p G.1 e R s m args below meth c H locs cells slots Q (F0 m pc ls (v :: .ref (ev_lo G + b) :: st)) := by
  obtain ⟨hin, hnm, -, -, ty0, hty, -⟩ := ev_cls ci own T N hc
  have hown := C0.2.2.2.2.2.1
  have hK := ct_K C0
  have hap := va_apart (own := own) (args := args) (ct_w C0) hin ty0 hty hnm hK hc
  have hat := hH.2.1 b hb1 hb2
  rw [hE] at hat
  obtain ⟨r, h1, cell, q1, q2, q3, q4⟩ := hat
  have hr : r = (own, T, N) := Option.some.inj (h1.symm.trans hc)
  subst hr
  obtain ⟨hS, hfc, kC, hkC, hkind⟩ := hK.1 ci _ hc
  obtain ⟨cf, kf, fi, f, hi, hsl⟩ := hS k hk
  have hi2 : s.fieldFound? own (T k).2.1 (T k).2.2.1 = some (cf, kf, fi, f) := by
    have h9 := hi
    rw [hdecl] at h9
    exact h9
  have hlay := ct_w (args := args) C0 _ (hin _ (u_in_lay hk))
  have hst := (u_facts hfc hkC (u_lays (ct_w (args := args) C0) hin hk) hi).1
  have fin : ∀ (H' : Heap), H'[ev_lo G + b]? = some (cell.setSlot f.slot v) → H'.size = H.size → (∀ q, q ≠ ev_lo G + b → H'[q]? = H[q]?) → W p G.1 e R s m args below meth c H' (locs ++ [⟨ev_lo G + b, f.slot⟩]) cells slots Q (F0 m (pc + 3) ls st) := fun H' e1 e2 e3 => by
    rw [hsl] at e1
    refine kk H' _ (ct_upd hH hb1 e2 ⟨_, hc, t_OB.to (V := updV (vp_V fs) k v) ⟨_, e1, q2, q3, t_set q4 hap hk v⟩ (fun j _ => vp_updV_set hl v j)⟩ e3) (fun q hq => ?_)
    rcases List.mem_append.mp hq with h | h
    · exact hL q h
    · rw [List.mem_singleton.mp h]
      show ev_lo G + a ≤ ev_lo G + b
      omega
  unfold u_lay at hlay
  cases hf : (T k).2.2.2 with
  | false =>
    rw [if_neg (by rw [hf]; decide)] at hlay
    have h6 := u_store hfc hkC hkind hlay hi hd hn hfit
    exact W.putK C0.2.2.1 C0.2.2.2.1 (f := f) ⟨hown, ct_w C0 _ hlink, ⟨_, _, _, hi2⟩, hst⟩ (by rw [q2]; exact h6) q1 q3 (by rw [hsl]; exact k2_hasslot (q4 k hk)) rfl rfl hdg fin
  | true =>
    rw [if_pos hf] at hlay
    have hcf : m.cls = cf := by
      obtain ⟨_, _, c', _, _, _, -, -, hf', -, -, -, hown2, -⟩ := Cond.laysFinal_spec hlay
      have e1 : c' = cf := by have := hi.symm.trans hf'; simp at this; exact this.1.symm
      rw [hdecl] at hown2
      rw [← e1]; exact Option.some.inj (hown.symm.trans hown2)
    have h6 := u_fits hfc hkC hkind (Or.inr hlay) hi hd hn hfit
    exact W.putFinK C0.2.2.1 C0.2.2.2.1 hown (ct_w C0 _ hlink) hi2 hst hcf hin2 (by rw [q2]; exact h6) q1 q3 (by rw [hsl]; exact k2_hasslot (q4 k hk)) rfl rfl hdg fin
/-- a field is read -/
theorem ct_get (C0 : ct_C G p s m c cc own nL) (hH : ct_H G E a n H0 H) {b ci N index : Nat} {T : u_T} {fs : List Value} (hb1 : a ≤ b) (hb2 : b < a + n) (hE : E b = .inr (ci, fs)) (hc : vwCl[ci]? = some (own, T, N)) (k : Nat) (hk : k < N) (hlink : Cond.fieldLink own index own (T k).2.1 (T k).2.2.1 ∈ ev_wd) (hdecl : (T k).1 = own) {v : Value} (hv : fs[k]? = some v)
    (hdg : decode cc pc = .ok (.getfield index, 3)) (kk : W p G.1 e R s m args below meth c H locs cells slots Q (F0 m (pc + 3) ls (v :: st))) : W p G.1 e R s m args below meth c H locs cells slots Q (F0 m pc ls (.ref (ev_lo G + b) :: st)) := by
  have hat := hH.2.1 b hb1 hb2
  rw [hE] at hat
  exact va_get (D := G.2.2.1) (ws := [(ev_lo G + b, .inr (ci, fs))]) C0.2.2.1 C0.2.2.2.1 (ct_w C0) (ev_cls ci own T N hc).1 C0.2.2.2.2.2.1 (ct_K C0) (fun k q hq => by
    have hz : k < 1 := (List.getElem?_eq_some_iff.mp hq).1
    rw [show k = 0 by omega] at hq
    cases hq
    exact hat) 0 rfl hc k hk (ct_w C0 _ hlink) (fun x h => by rw [hdecl] at h; exact h) hv hdg kk
/-- an object is made and its constructor runs -/
theorem ct_new (C0 : ct_C G p s m c cc own nL) (hH : ct_H G E a n H0 H) (hL : ∀ q ∈ locs, ev_lo G + a ≤ q.base) (hE : ∀ b, a + n ≤ b → E b = ct_E G μ b) (hls : ls.size = nL) {ix iy na ci N9 N ms yl yd pc2 : Nat} {Cn : String} {T9 : u_T} {ty9 : Nat → FieldType} {fs as : List Value} {yn : MethodName} {yc : ByteArray}
    (hc : vwCl[ci]? = some (Cn, T9, N9)) (w1 : Cond.classLink own ix Cn ∈ ev_wd) (w2 : Cond.instantiable Cn N9 ∈ ev_wd) (w3 : Cond.initialized Cn ∈ ev_wd) (hty : ∀ k, k < N9 → parseFieldDescriptor (T9 k).2.2.1 = some (ty9 k)) (hfs : ∀ j, j < N9 → defaultValue (ty9 j) = vp_V fs j)
    (hT : ct_T G μ (yn, yc, yl, none, yd) as (a + n) N ms (.inr (ci, fs))) (hN : 1 ≤ N) (hy : yn.cls = Cn ∧ yn.name = "<init>") (w4 : Cond.methodLink own iy yn ∈ ev_wd ∨ ∃ host, Cond.methodLinkNest own iy yn host ∈ ev_wd) (w5 : Cond.instanceMethod yn ∈ ev_wd) (w6 : Cond.code yn yc yl none ∈ ev_wd)
    (w7 : yn.cls ≠ "java/lang/invoke/MethodHandle" ∧ yn.cls ≠ "java/lang/invoke/VarHandle" ∧ (parseMethodDescriptor yn.desc).map (fun d => d.parameters.length) = some na) (hna : as.length = na) (hR : yd + 1 ≤ R.frames ∧ 8 + (yl + 11) + 40 * yd ≤ R.locals) (hcells : cells + N ≤ R.cells) (hslots : slots + N9 + ms ≤ R.slots) (hst : (st.map fun v => v.category).sum ≤ 7)
    (d1 : decode cc pc = .ok (.new ix, 3)) (d2 : decode cc (pc + 3) = .ok (.dup, 1)) (hpush : ∀ (H9 : Heap) (c9 s9 : Nat) (r : List Value), W p G.1 e R s m args below meth c H9 locs c9 s9 Q (F0 m pc2 ls (as.reverse ++ r)) → W p G.1 e R s m args below meth c H9 locs c9 s9 Q (F0 m (pc + 4) ls r)) (d3 : decode cc pc2 = .ok (.invokespecial iy, 3))
    (kk : ∀ (H1 : Heap) (locs1 : List Loc), ct_H G E a (n + N) H0 H1 → (∀ q ∈ locs1, ev_lo G + a ≤ q.base) → W p G.1 e R s m args below meth c H1 locs1 (cells + N) (slots + N9 + ms) Q (F0 m (pc2 + 3) ls (.ref (ev_lo G + (a + n)) :: st))) : W p G.1 e R s m args below meth c H locs cells slots Q (F0 m pc ls st) := by
  have hsz : H.size = ev_lo G + (a + n) := by rw [hH.1]; omega
  have hcw := ct_w (args := args) C0
  have hin := (ev_cls ci Cn T9 N9 hc).1
  have hKn := (ct_K C0).1 ci _ hc
  obtain ⟨-, -, hx, hb, hml, hown, hW0⟩ := id C0
  refine W.newcK hx hb hown (hcw _ w1) (hcw _ w2) (hcw _ w3) rfl d1 (by omega) (by omega) hKn.2.1 (h := ev_lo G + (a + n)) hsz fun H1 kC hkC e1 z1 o1 => ?_
  have hat : va_at G.2.2.1 vwCl (ev_lo G + (a + n), .inr (ci, fs)) H1 := ⟨_, hc, (u_born ty9 hcw hin hKn hkC e1 hty).to hfs⟩
  refine lv_dup hx hb d2 rfl ?_
  refine hpush _ _ _ _ ?_
  have hpre : PreS s H1 (va_Pc (.ref (ev_lo G + (a + n)) :: as) (fun U => G.2.2.2.2.1.WarmedH U.vm ∧ U.heap.size = ev_lo G + (a + n) + 1 ∧ va_at G.2.2.1 vwCl (ev_lo G + (a + n), .inr (ci, fs)) U.heap)) (.ref (ev_lo G + (a + n)) :: as) :=
    ⟨fun a U g mk q => q, fun U hU hW => ⟨rfl, hW0.trans hW, by rw [hU]; exact z1, by rw [hU]; exact hat⟩⟩
  have hst8 : 2 * (F0 m pc2 ls (as.reverse ++ .ref (ev_lo G + (a + n)) :: .ref (ev_lo G + (a + n)) :: st)).monitorRoom + ((Value.ref (ev_lo G + (a + n)) :: st).map fun v => v.category).sum ≤ 8 := by
    show 2 * 0 + (1 + (st.map fun v => v.category).sum) ≤ 8
    omega
  have hf : cells + 1 + (N - 1) ≤ R.cells ∧ slots + N9 + ms ≤ R.slots := ⟨by omega, hslots⟩
  have hgood : GoodIn ev_wd (.code yn yc yl none :: []) := ev_good (y := (yn, yc, yl, none, yd)) w6
  have hini : (Cond.initialized yn.cls).before args s = true := by rw [hy.1]; exact hcw _ w3
  have hr : va_Run p G.1 e R s m args below meth c H1 locs (cells + 1) (slots + N9) (N - 1) ms (F0 m pc2 ls (as.reverse ++ .ref (ev_lo G + (a + n)) :: .ref (ev_lo G + (a + n)) :: st)) (.ref (ev_lo G + (a + n)) :: st) (fun st o t => o = .returned none ∧ ct_H G (ct_E G μ) (a + n) N st.heap t.heap) (fun q => ev_lo G + (a + n) ≤ q) := by
    rcases w4 with w4 | ⟨host, w4⟩
    · exact va_runI (As := as) (n := na) (own := own) (Ts := ev_wd) ⟨hx, hb, hml, hown, hcw⟩ hT ⟨callB_of na hcw hgood rfl rfl rfl hini (hcw _ w4) w7 hR, hy.2, hcw _ w5⟩ hpre rfl hna hls rfl hst8 d3 hf
    · exact va_runIN (As := as) (n := na) (own := own) (host := host) (Ts := ev_wd) ⟨hx, hb, hml, hown, hcw⟩ hT ⟨va_cnB na hcw hgood rfl rfl rfl (va_Nw.of rfl (hcw _ w4)) hini w7 hR, hy.2, hcw _ w5⟩ hpre rfl hna hls rfl hst8 d3 hf
  intro T hT2 X
  obtain ⟨v, st0, t, T', L, h0, X', hLq, e2, e3, ⟨hv, k1, k2, k3⟩, stp⟩ := hr T hT2 X
  cases hv
  have hH1 : ct_H G E a (n + N) H0 T'.heap := by
    rw [e2]
    refine ⟨by rw [k1]; omega, fun b h1 h2 => ?_, fun q hq => ?_⟩
    · by_cases hb9 : b < a + n
      · exact va_at_eq (hH.2.1 b h1 hb9) (by rw [k3 _ (by omega), h0, o1 _ (by omega)])
      · rw [hE b (by omega)]
        exact k2 b (by omega) (by omega)
    · rw [k3 q (by omega), h0, o1 q (by omega)]
      exact hH.2.2 q hq
  have hc9 : cells + 1 + (N - 1) = cells + N := by omega
  rw [hc9] at X'
  obtain ⟨t2, a1, b1⟩ := kk T'.heap (locs ++ L) hH1 (fun q hq => by
    rcases List.mem_append.mp hq with h | h
    · exact hL q h
    · have := hLq q h
      have h9 : ev_lo G + (a + n) ≤ q.base := this
      omega) T' rfl X'
  exact ⟨t2, stp t2 a1, b1⟩
/-- java.lang.Object's constructor -/
theorem ct_oi (C0 : ct_C G p s m c cc own nL) (hls : ls.size = nL) {idx x : Nat} (w1 : Cond.methodLink own idx Lib.objectInit ∈ ev_wd) (w2 : Cond.instanceMethod Lib.objectInit ∈ ev_wd) (w3 : Cond.code Lib.objectInit ⟨#[0xb1]⟩ 1 none ∈ ev_wd) (hR : 1 ≤ R.frames ∧ 12 ≤ R.locals) (hd : decode cc pc = .ok (.invokespecial idx, 3))
    (kk : W p G.1 e R s m args below meth c H locs cells slots Q (F0 m (pc + 3) ls [])) : W p G.1 e R s m args below meth c H locs cells slots Q (F0 m pc ls [.ref x]) :=
  W.objInit C0.2.2.1 C0.2.2.2.1 C0.2.2.2.2.2.1 (ct_w C0 _ w1) (ct_w C0 _ w2) (ct_w C0 _ w3) rfl (hls.trans C0.2.2.2.2.1.symm) rfl hd hR.1 (by show 2 * 0 + 0 + 12 ≤ _; exact hR.2) kk
/-- the end -/
theorem ct_ret (C0 : ct_C G p s m c cc own nL) {N ms : Nat} (hH : ct_H G E a N s.heap H) (hE : ∀ b, a ≤ b → b < a + N → ct_E G μ b = E b) (hL : ∀ q ∈ locs, ev_lo G + a ≤ q.base) (hr : meth.sig.returnType = none) (hlocks : meth.locks = false) (hdg : decode cc pc = .ok (.return_, 1)) (h1 : cells ≤ N - 1) (h2 : slots ≤ ms) :
    W p G.1 e R s m args below meth c H locs cells slots (MQ below (fun _ st o t => o = .returned none ∧ ct_H G (ct_E G μ) a N st.heap t.heap) args s (N - 1) ms (fun q => ev_lo G + a ≤ q)) (F0 m pc ls []) := by
  refine W.widen h1 h2 ?_
  exact W.vret C0.2.2.1 C0.2.2.2.1 hr (fun t ht _ => ⟨rfl, by rw [ht]; exact ct_eq hH hE⟩) hL hdg hlocks
/-- a reference is stored in an array of panels -/
theorem ct_ast (C0 : ct_C G p s m c cc own nL) (hH : ct_H G E a n H0 H) (hL : ∀ q ∈ locs, ev_lo G + a ≤ q.base) {b0 b1 n9 : Nat} {f : Nat → Option Nat} {vs : List Value} (h1 : a ≤ b0) (h2 : b0 < a + n) (h3 : a ≤ b1) (h4 : b1 < a + n) (hE0 : E b0 = .inl (G.2.2.2.1 14, n9, .inr (.inr (.inr (.inr f))))) (hE1 : E b1 = .inr (2, vs)) {i : Int32} (hin : vp_in i n9) (hdg : decode cc pc = .ok (.aastore, 1))
    (kk : ∀ (H1 : Heap) (locs1 : List Loc), ct_H G (va_up E b0 (.inl (G.2.2.2.1 14, n9, .inr (.inr (.inr (.inr (va_up_f f i.toNatClampNeg (some (ev_lo G + b1))))))))) a n H0 H1 → (∀ q ∈ locs1, ev_lo G + a ≤ q.base) → W p G.1 e R s m args below meth c H1 locs1 cells slots Q (F0 m (pc + 1) ls st)) : W p G.1 e R s m args below meth c H locs cells slots Q (F0 m pc ls (.ref (ev_lo G + b1) :: .int i :: .ref (ev_lo G + b0) :: st)) := by
  have hlt : i.toNatClampNeg < n9 := Nat.not_le.mp fun q => hin (Or.inr q)
  have h0 : ¬ i < 0 := fun q => hin (Or.inl q)
  have hK := ct_K C0
  have ha0 := hH.2.1 b0 h1 h2
  rw [hE0] at ha0
  have ha0 : H[ev_lo G + b0]? = some (vp_cell (G.2.2.2.1 14) (n9, .inr (.inr (.inr (.inr f))))) := ha0
  have ha1 := hH.2.1 b1 h3 h4
  rw [hE1] at ha1
  obtain ⟨r', hr', cellV, g1, g2, g3, -⟩ := ha1
  have hr : r' = (RX4, TX4, 18) := Option.some.inj (hr'.symm.trans rfl)
  subst hr
  have hcls := (hK.1 2 (RX4, TX4, 18) rfl).2
  obtain ⟨kA, comp, k1, k2, k3, -⟩ := (hK.2 4 (G.2.2.2.1 14, .object RX4) rfl).2
  have hcomp : comp = G.2.2.1.1 2 := Option.some.inj (k3.symm.trans hcls.1)
  subst hcomp
  obtain ⟨kC, hkC, -⟩ := hcls.2
  refine W.aast C0.2.2.1 C0.2.2.2.1 ha0 (fun q h => by cases h) (fun h => by cases h) k1 k2 rfl hkC ⟨h0, by show _ < (arrV _ _ _).slots.size; rw [arrV_size]; exact hlt⟩ g1 (fun q h => by rw [g3] at h; cases h) (by rw [g2]; exact hkC) (by rw [g2]; exact va_assign hcls) rfl rfl hdg fun H1 e9 z oq => ?_
  refine kk H1 _ (ct_upd hH h1 z ?_ oq) (fun q hq => ?_)
  · show H1[ev_lo G + b0]? = some (vp_cell _ _)
    rw [e9]
    rw [vp_cell_q, vp_cell_q, arrV_store]
    congr 2
    funext q
    by_cases hq : q = i.toNatClampNeg
    · subst hq
      simp [updV, va_up_f, va_rf]
    · simp [updV, va_up_f, hq]
  · rcases List.mem_append.mp hq with h | h
    · exact hL q h
    · rw [List.mem_singleton.mp h]
      show ev_lo G + a ≤ ev_lo G + b0
      omega
/-- what an array holds behind its end is of no matter -/
theorem ct_ref {b0 n9 : Nat} {cA : ClassId} {f g : Nat → Option Nat} (hH : ct_H G (va_up E b0 (.inl (cA, n9, .inr (.inr (.inr (.inr f)))))) a n H0 H) (hfg : ∀ x, x < n9 → f x = g x) : ct_H G (va_up E b0 (.inl (cA, n9, .inr (.inr (.inr (.inr g)))))) a n H0 H := by
  have e9 : vp_cell cA (n9, .inr (.inr (.inr (.inr f)))) = vp_cell cA (n9, .inr (.inr (.inr (.inr g)))) := by
    rw [vp_cell_q, vp_cell_q]
    unfold arrV
    congr 2
    funext j
    show va_rf (f j.val) = va_rf (g j.val)
    rw [hfg j.val j.isLt]
  refine ⟨hH.1, fun b h1 h2 => ?_, hH.2.2⟩
  have h := hH.2.1 b h1 h2
  by_cases hb : b = b0
  · subst hb
    rw [va_up_s] at h ⊢
    have h : H[ev_lo G + b]? = some (vp_cell cA (n9, .inr (.inr (.inr (.inr f))))) := h
    rw [e9] at h
    exact h
  · rw [va_up_n hb] at h ⊢
    exact h
/-- the length of an array of panels -/
theorem ct_len (C0 : ct_C G p s m c cc own nL) (hH : ct_H G E a n H0 H) {b0 n9 : Nat} {f : Nat → Option Nat} (h1 : a ≤ b0) (h2 : b0 < a + n) (hE0 : E b0 = .inl (G.2.2.2.1 14, n9, .inr (.inr (.inr (.inr f))))) (hdg : decode cc pc = .ok (.arraylength, 1))
    (kk : W p G.1 e R s m args below meth c H locs cells slots Q (F0 m (pc + 1) ls (.int (Int32.ofNat n9) :: st))) : W p G.1 e R s m args below meth c H locs cells slots Q (F0 m pc ls (.ref (ev_lo G + b0) :: st)) := by
  have hat := hH.2.1 b0 h1 h2
  rw [hE0] at hat
  exact va_alen (D := G.2.2.1) (ws := [(ev_lo G + b0, .inl (G.2.2.2.1 14, n9, .inr (.inr (.inr (.inr f)))))]) C0.2.2.1 C0.2.2.2.1 (ct_K C0) (fun k q hq => by
    have hz : k < 1 := (List.getElem?_eq_some_iff.mp hq).1
    rw [show k = 0 by omega] at hq
    cases hq
    exact hat) 0 4 rfl rfl rfl hdg kk
/-- an array that is as it will be -/
theorem ct_arrO (C0 : ct_C G p s m c cc own nL) (hH : ct_H G E a n H0 H) {at9 : ArrayType} {ty : FieldType} (hty : newarray.typeOf at9 = ty) (hw : Cond.arrayClass ty ∈ ev_wd) {K N t0 : Nat} {z : (Nat → Int32) ⊕ (Nat → Int64) ⊕ (Nat → UInt32) ⊕ (Nat → UInt64) ⊕ (Nat → Option Nat)} (he : ct_E G μ (a + n) = .inl (G.2.2.2.1 K, N, z)) (hEn : E (a + n) = ct_E G μ (a + n))
    (hz : ∀ cA : ClassId, vp_cell cA (N, z) = arrV cA N (fun _ => defaultValue ty)) (ht : (ev_tys G)[t0]? = some (G.2.2.2.1 K, ty)) (hra : ∀ (U : State) (cA : ClassId), va_RA U cA ty → U.vm.findClass ("[" ++ ty.toString) = some cA) {v : Int32} (hn : ¬ v < 0) (hN : v.toNatClampNeg = N) (hbytes : N * componentBytes ty ≤ 536870912) (hcells : cells + 1 ≤ R.cells) (hslots : slots + N ≤ R.slots) (hdg : decode cc pc = .ok (.newarray at9, 2))
    (kk : ∀ H1 : Heap, ct_H G E a (n + 1) H0 H1 → W p G.1 e R s m args below meth c H1 locs (cells + 1) (slots + N) Q (F0 m (pc + 2) ls (.ref (ev_lo G + (a + n)) :: st))) : W p G.1 e R s m args below meth c H locs cells slots Q (F0 m pc ls (.int v :: st)) :=
  ct_arr C0 hH hty hw hz ht hra hn hN hbytes hcells hslots hdg (fun H1 h => kk H1 (by rw [va_up_id (he.symm.trans hEn.symm)] at h; exact h))
/-- a field of the object that is being made -/
theorem ct_putO (C0 : ct_C G p s m c cc own nL) {ci : Nat} {fs : List Value} (hH : ct_H G (va_up E a (.inr (ci, fs))) a n H0 H) (hL : ∀ q ∈ locs, ev_lo G + a ≤ q.base) (hn0 : 0 < n) {N index : Nat} {T : u_T} (hc : vwCl[ci]? = some (own, T, N)) (k : Nat) (hk : k < N) (hlink : Cond.fieldLink own index own (T k).2.1 (T k).2.2.1 ∈ ev_wd) (hdecl : (T k).1 = own) (hin2 : meth.name = "<init>") {ty : FieldType} {v : Value} (hd : parseFieldDescriptor (T k).2.2.1 = some ty) (hn : narrow ty v = v) (hfit : fits ty v = true) (hl : k < fs.length)
    (hdg : decode cc pc = .ok (.putfield index, 3)) (kk : ∀ (H1 : Heap) (locs1 : List Loc), ct_H G (va_up E a (.inr (ci, fs.set k v))) a n H0 H1 → (∀ q ∈ locs1, ev_lo G + a ≤ q.base) → W p G.1 e R s m args below meth c H1 locs1 cells slots Q (F0 m (pc + 3) ls st)) : W p G.1 e R s m args below meth c H locs cells slots Q (F0 m pc ls (v :: .ref (ev_lo G + a) :: st)) :=
  ct_put C0 hH hL (Nat.le_refl a) (by omega) va_up_s hc k hk hlink hdecl hin2 hd hn hfit hl hdg (fun H1 locs1 h1 h2 => kk H1 locs1 (by rw [va_up_2] at h1; exact h1) h2)
end
/-- a constructor, from its entry -/
theorem ct_of (hok : ev_ok sh_S G) (hρ : ∀ a : Nat, a < 312 → G.2.1 a = ev_lo G + a) {yn : MethodName} {yc : ByteArray} {yl yd : Nat} {as : List Value} {a N ms : Nat} {e0 : va_E} (hp : plainName yn.cls = true) (hnm : yn.name = "<init>") (hargs : (lg_sl (.ref (ev_lo G + a) :: as)).length ≤ yl)
    (h : ∀ (p : Program) (e : Env) (s : State) (m : MethodId) (args : Array Value) (below : List Frame) (meth : Method) (c : Code), ct_C G p s m c yc yn.cls yl → meth.locks = false → meth.sig.returnType = none → meth.name = "<init>" → ct_H G (va_up (ct_E G μ) a e0) a 1 s.heap s.heap → ∀ ls : Array Slot, lv_has ls yl (lv_args 0 (.ref (ev_lo G + a) :: as)) →
      W p G.1 e { frames := yd, cells := N - 1, slots := ms, locals := 40 * yd } s m args below meth c s.heap [] 0 0 (MQ below (fun _ st o t => o = .returned none ∧ ct_H G (ct_E G μ) a N st.heap t.heap) args s (N - 1) ms (fun q => ev_lo G + a ≤ q)) (F0 m 0 ls [])) : ct_T G μ (yn, yc, yl, none, yd) as a N ms e0 := by
  refine Met.ofW (cc := yc) (maxL := yl) (ret := none) hp rfl ?_
  intro p e s m args9 below meth c s₁ B hml hv
  obtain ⟨rfl, hW, hz, hat⟩ := hv
  have C0 : ct_C G p s m c yc yn.cls yl := ⟨hok, hρ, B.exec, B.bytes, hml, findClass_of_methodNamed B.named, hW⟩
  have hin : meth.name = "<init>" := (name_of_methodNamed B.named B.method).1.trans hnm
  have hl := lv_entry (.ref (ev_lo G + a) :: as) (n := yl) hargs
  rw [lg_entry_eq]
  generalize (lg_sl (.ref (ev_lo G + a) :: as) ++ List.replicate (yl - (lg_sl (.ref (ev_lo G + a) :: as)).length) Slot.unset).toArray = ls at hl ⊢
  refine h p e s m _ below meth c C0 B.notSynchronized B.returns hin ⟨hz, fun b h1 h2 => ?_, fun _ _ => rfl⟩ ls hl
  have : b = a := by omega
  subst this
  rw [va_up_s]
  exact hat
end Ct
