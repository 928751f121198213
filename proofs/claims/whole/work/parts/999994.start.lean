/-! ===== the law, from its entry ===== -/
section Sta
def lw_rho (sz b : Nat) (ad adK adV : Nat → Nat) (t1 t2 t3 a : Nat) : Nat := if a < 312 then sz + a else if a < 332 then ad (a - 312) else if a = 332 then t1 else if a = 333 then t2 else if a < 359 then adK (a - 340) else if a < 379 then adV (a - 360) else if a = 380 then t3 else b
theorem vw_inst (ci : Nat) (C : String) (T : u_T) (N : Nat) (h : vwCl[ci]? = some (C, T, N)) : Cond.instantiable C N ∈ ev_wd := by
  match ci, h with
  | 0, h => cases h; exact cw_X1.1
  | 1, h => cases h; exact cw_X2.1
  | 2, h => cases h; exact cw_X4.1
  | 3, h => cases h; exact cw_X5.1
  | 4, h => cases h; exact cw_X6.1
  | 5, h => cases h; exact cw_X7.1
  | 6, h => cases h; exact cw_X8.1
  | 7, h => cases h; exact cw_X9.1
  | 8, h => cases h; exact cw_X10.1
  | 9, h => cases h; exact cw_X11.1
  | n + 10, h => simp [vwCl] at h
theorem lw_arr {s : State} {args : Array Value} {ty : FieldType} (h : (Cond.arrayClass ty).before args s = true) (hra : ∀ cA : ClassId, s.vm.findClass ("[" ++ ty.toString) = some cA → va_RA s cA ty) : ∃ cA : ClassId, ArrOfT s cA ty ∧ va_RA s cA ty := by
  obtain ⟨c, k, comp, h1, h2, h3⟩ := Cond.arrayClass_spec h
  exact ⟨c, fun n z => ⟨fun k h => (by cases h), k, h2, comp, h3⟩, hra c h1⟩
theorem lw_aro {s : State} {args : Array Value} {C : String} (h : (Cond.arrayOver (.object C)).before args s = true) : ∃ cA : ClassId, ArrOfT s cA (.object C) ∧ va_RA s cA (.object C) := by
  obtain ⟨comp, c, k, h1, h2, h3, h4, h5⟩ := Cond.arrayOver_spec h
  exact ⟨c, fun n z => ⟨fun k h => (by cases h), k, h3, comp, h4⟩, k, comp, h3, h4, h1, h5⟩
set_option maxHeartbeats 2000000 in
theorem lw_G (l : Launch) (hflags : l.flags = flags0) {p : Program} {s : State} {m : MethodId} {meth : Method} {c : Code} {b L : Nat} {xs : Nat → Int32} (C0 : lw_At p s m meth c b L xs) :
    ∃ G : ev_G, G.1 = l ∧ G.2.2.2.2.1 = s ∧ G.2.1 400 = b ∧ (∀ a : Nat, a < 312 → G.2.1 a = s.heap.size + a) ∧ ev_ok sh_S G ∧ NCs G ∧ KW G ∧ KS G := by
  obtain ⟨hx, hb, hr, hml, hown, hts, hX, hbl, hlocks, hgv⟩ := C0
  have ht1 : ∀ w ∈ tables_1, w.before #[Value.ref b] s = true := fun w hw => hts w (List.mem_append_right _ hw)
  have hwd : ∀ w ∈ ev_wd, w.before #[Value.ref b] s = true := fun w hw => hts w (ev_wd_in hw).1
  have hA : ∀ a : Nat, a < s.heap.size → ¬ (fun q : Nat => s.heap.size ≤ q) a := fun a h => Nat.not_le.mpr h
  obtain ⟨ad, t1, t2, k1, k2, k3, k4, k5, k6⟩ := gv_kw hgv ht1 (A := fun q => s.heap.size ≤ q) hA
  obtain ⟨adK, adV, q1, q2⟩ := gv_ks hgv ht1 (A := fun q => s.heap.size ≤ q) hA
  obtain ⟨z1, z2, z3, z4⟩ := gv_st hgv ht1 (A := fun q => s.heap.size ≤ q) hA
  have hcl : ∀ k : Nat, ∃ q : ClassId × (Nat → Nat), ∀ r : vw_C, vwCl[k]? = some r → u_Kn s r.1 r.2.1 r.2.2 q.1 q.2 := by
    intro k
    cases h : vwCl[k]? with
    | none => exact ⟨(m.cls, fun _ => 0), fun r hr => by cases hr⟩
    | some r =>
      obtain ⟨C, T, N⟩ := r
      obtain ⟨cC, iS, h9⟩ := u_known (args := #[Value.ref b]) hwd (ev_cls k C T N h).1 (hwd _ (vw_inst k C T N h))
      exact ⟨(cC, iS), fun r hr => by cases hr; exact h9⟩
  obtain ⟨cf, hcf⟩ := Classical.axiomOfChoice hcl
  obtain ⟨c10, a10⟩ := lw_arr (ty := .int) (hwd _ cw_ar.1) (fun _ h => h)
  obtain ⟨c11, a11⟩ := lw_arr (ty := .byte) (hwd _ cw_ar.2.2.2.1) (fun _ h => h)
  obtain ⟨c12, a12⟩ := lw_arr (ty := .boolean) (hwd _ cw_ar.2.2.1) (fun _ h => h)
  obtain ⟨c13, a13⟩ := lw_arr (ty := .long) (hwd _ cw_ar.2.1) (fun _ h => h)
  obtain ⟨c14, a14⟩ := lw_aro (hts _ cw_ao)
  obtain ⟨c15, a15⟩ := lw_arr (ty := .double) (hwd _ cw_ar.2.2.2.2) (fun _ h => h)
  obtain ⟨t3, v3, hv3, z2'⟩ : ∃ (t3 : Nat) (v3 : Value), (v3 = .null ∨ v3 = .ref 380) ∧ ∀ ρ : Nat → Nat, ρ 380 = t3 → va_Z RJ3 "SIOOBE_FORMATTER" "Ljava/util/function/BiFunction;" (ev_tr ρ v3) (fun q => s.heap.size ≤ q) s s.heap := by
    rcases z2 with z2 | ⟨t3, z2⟩
    · exact ⟨0, .null, Or.inl rfl, fun _ _ => z2⟩
    · exact ⟨t3, .ref 380, Or.inr rfl, fun ρ h => by show va_Z _ _ _ (.ref (ρ 380)) _ _ _; rw [h]; exact z2⟩
  have r1 : ∀ a, a < 312 → lw_rho s.heap.size b ad adK adV t1 t2 t3 a = s.heap.size + a := fun a h => if_pos h
  have r2 : ∀ i, i < 20 → lw_rho s.heap.size b ad adK adV t1 t2 t3 (312 + i) = ad i := fun i h => by
    unfold lw_rho
    rw [if_neg (by omega), if_pos (by omega), Nat.add_sub_cancel_left]
  have r3 : lw_rho s.heap.size b ad adK adV t1 t2 t3 332 = t1 := rfl
  have r4 : lw_rho s.heap.size b ad adK adV t1 t2 t3 333 = t2 := rfl
  have r5 : ∀ i, i < 19 → lw_rho s.heap.size b ad adK adV t1 t2 t3 (340 + i) = adK i := fun i h => by
    unfold lw_rho
    rw [if_neg (by omega), if_neg (by omega), if_neg (by omega), if_neg (by omega), if_pos (by omega), Nat.add_sub_cancel_left]
  have r6 : ∀ i, i < 19 → lw_rho s.heap.size b ad adK adV t1 t2 t3 (360 + i) = adV i := fun i h => by
    unfold lw_rho
    rw [if_neg (by omega), if_neg (by omega), if_neg (by omega), if_neg (by omega), if_neg (by omega), if_pos (by omega), Nat.add_sub_cancel_left]
  have r7 : lw_rho s.heap.size b ad adK adV t1 t2 t3 380 = t3 := rfl
  refine ⟨(l, lw_rho s.heap.size b ad adK adV t1 t2 t3, (fun k => (cf k).1, fun k => (cf k).2), fun k => if k = 10 then c10 else if k = 11 then c11 else if k = 12 then c12 else if k = 13 then c13 else if k = 14 then c14 else c15, s, #[Value.ref b]), rfl, rfl, rfl, r1, ⟨fun a a' h h' e => ?_, fun a h => ?_, ⟨fun k r hr => hcf k r hr, fun k q hq => ?_⟩, hts, ?_, z3, z4, fun own k tx hw => gv_sr hgv hts own k tx hw⟩, gv_nc hgv, ⟨k1, ?_, k3, k4, ?_, ?_⟩, ?_, fun i hi => ?_, z1, v3, hv3, z2' _ r7⟩
  · have e1 := (r1 a h).symm.trans (e.trans (r1 a' h'))
    omega
  · have e1 := r1 a h
    show s.heap.size ≤ lw_rho s.heap.size b ad adK adV t1 t2 t3 a
    omega
  · match k, hq with
    | 0, hq => cases hq; exact a10
    | 1, hq => cases hq; exact a11
    | 2, hq => cases hq; exact a12
    | 3, hq => cases hq; exact a13
    | 4, hq => cases hq; exact a14
    | 5, hq => cases hq; exact a15
    | k + 6, hq => simp [ev_tys] at hq
  · show (!l.flags.contains noTraceFlag) = false
    rw [hflags]
    decide +kernel
  · obtain ⟨cell, h1, h2, h3, h4, h5, h6, h7⟩ := k2
    exact ⟨cell, h1, h2, h3, h4, h5, fun j hj => by
      show cell.slots[j]? = some (.ref (lw_rho s.heap.size b ad adK adV t1 t2 t3 (312 + j)))
      rw [r2 j hj]
      exact h6 j hj, h7⟩
  · refine ⟨fun i hi => ?_, fun i j hi hj e => ?_⟩
    · have hi : i < 20 := hi
      show va_Z RX3 (kwn.getD i "") kwD (.ref (lw_rho s.heap.size b ad adK adV t1 t2 t3 (312 + i))) _ _ _ ∧ va_O RX3 (lw_rho s.heap.size b ad adK adV t1 t2 t3 (312 + i)) _ _ _ ∧ ∀ q ∈ kwO, va_OF q.1 q.2.1 q.2.2.1 (.int (q.2.2.2.getD i 0)) (lw_rho s.heap.size b ad adK adV t1 t2 t3 (312 + i)) _ _ _
      rw [r2 i hi]
      exact k5.1 i hi
    · have hi : i < 20 := hi
      have hj : j < 20 := hj
      have e : lw_rho s.heap.size b ad adK adV t1 t2 t3 (312 + i) = lw_rho s.heap.size b ad adK adV t1 t2 t3 (312 + j) := e
      rw [r2 i hi, r2 j hj] at e
      exact k5.2 i j hi hj e
  · intro i hi
    show va_OF RX3 "word" "J" (.long (w64 (kww i))) (lw_rho s.heap.size b ad adK adV t1 t2 t3 (312 + i)) _ _ _
    rw [r2 i hi]
    exact k6 i hi
  · refine ⟨fun i hi => ?_, fun i j hi hj e => ?_⟩
    · show va_O "java/lang/String" (lw_rho s.heap.size b ad adK adV t1 t2 t3 (340 + i)) _ _ _ ∧ va_OF "java/lang/String" "coder" "B" (.int 0) (lw_rho s.heap.size b ad adK adV t1 t2 t3 (340 + i)) _ _ _ ∧ va_OF "java/lang/String" "value" "[B" (.ref (lw_rho s.heap.size b ad adK adV t1 t2 t3 (360 + i))) (lw_rho s.heap.size b ad adK adV t1 t2 t3 (340 + i)) _ _ _ ∧ va_T .byte (lw_rho s.heap.size b ad adK adV t1 t2 t3 (360 + i)) (ksL.getD i 0) (fun j => .int ((ksB.getD i []).getD j 0)) _ _ _
      rw [r5 i hi, r6 i hi]
      exact q1.1 i hi
    · have e : lw_rho s.heap.size b ad adK adV t1 t2 t3 (340 + i) = lw_rho s.heap.size b ad adK adV t1 t2 t3 (340 + j) := e
      rw [r5 i hi, r5 j hj] at e
      exact q1.2 i j hi hj e
  · show vk_R RX11 (ksI.getD i 0) (ksT.getD i "") (lw_rho s.heap.size b ad adK adV t1 t2 t3 (340 + i)) s
    rw [r5 i hi]
    exact q2 i hi
theorem wl_new : Cond.classLink RL 8 RX10 ∈ ev_wd ∧ Cond.methodLink RL 191 yX10_init ∈ ev_wd ∧ Cond.classLink RL 192 RX11 ∈ ev_wd ∧ Cond.methodLink RL 194 yX11_init ∈ ev_wd := by decide +kernel
def lw_in : List (Nat × Instr × Nat) := [(0, .new 8, 3), (3, .dup, 1), (4, .invokespecial 191, 3), (7, .astore_n 1, 1), (8, .new 192, 3), (11, .dup, 1), (12, .invokespecial 194, 3), (15, .astore_n 2, 1), (16, .iconst 1, 1), (17, .newarray .long, 2), (19, .astore_n 3, 1), (20, .iconst 1, 1), (21, .newarray .double, 2), (23, .astore 4, 2), (25, .iconst 0, 1), (26, .istore 5, 2), (3706, .iconst 1, 1), (3707, .ireturn, 1)]
theorem lw_in_ok : lw_okd lw_in = true := by decide +kernel
theorem cm_5 (k : Nat) : ct_m.1 5 k = if k = 2 then -1 else 0 := by
  show (if (5 = 5 ∧ k = 2) ∨ (5 = 301 ∧ k = 11) then (-1 : Int32) else 0) = _
  by_cases h : k = 2
  · rw [if_pos (Or.inl ⟨rfl, h⟩), if_pos h]
  · rw [if_neg (by omega), if_neg h]
theorem cm_301 (k : Nat) : ct_m.1 301 k = if k = 11 then -1 else 0 := by
  show (if (301 = 5 ∧ k = 2) ∨ (301 = 301 ∧ k = 11) then (-1 : Int32) else 0) = _
  by_cases h : k = 11
  · rw [if_pos (Or.inr ⟨rfl, h⟩), if_pos h]
  · rw [if_neg (by omega), if_neg h]
theorem ct_ez15 {G : ev_G} {μ : ev_M} {b N : Nat} (h1 : sh_kd b = 15) (h2 : sh_ln b = N) (h3 : ∀ k, μ.2.1 b k = 0) : ct_E G μ b = .inl (G.2.2.2.1 15, N, .inr (.inr (.inr (.inl (fun _ => 0))))) := by
  show ev_E sh_S G μ b = _
  rw [ev_E_15 h1, show (fun k => (μ.2.1 b k).toUInt64) = (fun _ => 0) from funext fun k => by rw [h3 k]; rfl]
  show Sum.inl (G.2.2.2.1 15, sh_ln b, _) = _
  rw [h2]
set_option maxHeartbeats 2000000 in
set_option maxRecDepth 100000 in
/-- from the entry, for every script of at most 3072 ints, the law comes to its end with true -/
theorem whole_start {p : Program} {e : Env} {s : State} {m : MethodId} {below : List Frame} {meth : Method} {c : Code} (l : Launch) (hflags : l.flags = flags0) {b L : Nat} {xs : Nat → Int32} (hL : L ≤ 3072) (C0 : lw_At p s m meth c b L xs) : W p l e room_1 s m #[Value.ref b] below meth c s.heap [] 0 0 (lw_Z below #[Value.ref b] s) (entryFrame m ([Value.ref b] : List Value).toArray 9) := by
  obtain ⟨hx, hb, hr, hml, hown, hts, hX, hbl, hlocks, hgv⟩ := id C0
  obtain ⟨G, g1, g2, g3, g4, hok, hnc, hkw, hks⟩ := lw_G l hflags C0
  subst g1
  have hlo : ev_lo G = s.heap.size := by
    show G.2.2.2.2.1.heap.size = _
    rw [g2]
  have hρ : ∀ a : Nat, a < 312 → G.2.1 a = ev_lo G + a := fun a h => by rw [g4 a h, hlo]
  have Cc : ct_C G p s m c code RL 9 := ⟨hok, hρ, hx, hb, hml, hown, by rw [g2]; exact State.WarmedH.refl s⟩
  have hB : lw_B G p s m c b L xs := ⟨hok, hx, hb, hml, hown, g2, g3, hX, hbl, hL⟩
  have D : ∀ (j : Nat) {pc n : Nat} {i : Instr}, lw_in[j]? = some (pc, i, n) → decode code pc = .ok (i, n) := fun j {pc n i} hj => lw_d lw_in_ok j hj
  have hend : ∀ (k : Nat) (l : List (Nat × Value)) (μ : ev_M), k < 599 → LW G p e s m below meth c b (lw_Z below #[Value.ref b] s) k 3706 l [] μ := by
    intro k l μ hk H locs ls hP hS hl
    refine lv_iconst (v := 1) hx hb (D 16 rfl) (by decide) ?_
    refine va_forget (fun q hq => by have h := hS.2.2 q hq; have h : ev_lo G ≤ q.base := h; rw [hlo] at h; exact h) ?_
    refine W.widen (k := 601024) (n := 7293034) (by omega) (by unfold lw_S0; omega) ?_
    exact lw_ret (d0 := s.drawn) (Drawn.sameBut.refl s.drawn lw_cs) hx hb hr hlocks (D 17 rfl)
  have hl := lv_entry ([.ref b]) (n := 9) (Nat.le_of_ble_eq_true rfl)
  rw [lg_entry_eq]
  generalize (lg_sl ([.ref b]) ++ List.replicate (9 - (lg_sl ([.ref b])).length) Slot.unset).toArray = ls at hl ⊢
  have hl : lv_has ls 9 [(0, .ref b)] := hl
  have hH0 : ct_H G (ct_E G ct_m) 0 0 s.heap s.heap := ⟨by omega, fun b h1 h2 => by omega, fun _ _ => rfl⟩
  refine ct_new (μ := ct_m) (E := ct_E G ct_m) Cc hH0 (fun q hq => by cases hq) (fun _ _ => rfl) hl.1 (T9 := TX10) (N9 := 7) (ci := 8) rfl wl_new.1 cw_X10.1 cw_X10.2.1 tyX10_ok cd_X10 (ct_X10 (a := 0 + 0) hok hρ rfl (fun b k h1 h2 => ⟨cm_0 (Or.inl h2) (Or.inl (by omega)), rfl⟩) cm_5 (fun i _ => rfl) (fun i _ => rfl)) (by decide) ⟨rfl, rfl⟩ (Or.inl wl_new.2.1) cw_X10.2.2.1 cw_X10.2.2.2 cp_X10 rfl ⟨Nat.le_of_ble_eq_true rfl, Nat.le_of_ble_eq_true rfl⟩ (Nat.le_of_ble_eq_true rfl) (Nat.le_of_ble_eq_true rfl) (Nat.le_of_ble_eq_true rfl) (D 0 rfl) (D 1 rfl) (pc2 := 4) (fun _ _ _ r h => h) (D 2 rfl) (fun H locs hH hLs => ?_)
  refine lv_astore_n (lv' := [(1, .ref (ev_lo G + (0 + 0))), (0, .ref b)]) hx hb (D 3 rfl) rfl hl (by decide) rfl (fun ls hl => ?_)
  refine ct_new (μ := ct_m) (E := ct_E G ct_m) Cc hH hLs (fun _ _ => rfl) hl.1 (T9 := TX11) (N9 := 21) (ci := 9) rfl wl_new.2.2.1 cw_X11.1 cw_X11.2.1 tyX11_ok cd_X11 (ct_X11 (a := 0 + (0 + 301)) hok hρ (by decide +kernel) (by decide +kernel) (by decide +kernel) (by decide) (fun b k h1 h2 => ⟨cm_0 (by omega) (by omega), rfl⟩) cm_301) (by decide) ⟨rfl, rfl⟩ (Or.inl wl_new.2.2.2) cw_X11.2.2.1 cw_X11.2.2.2 cp_X11 rfl ⟨Nat.le_of_ble_eq_true rfl, Nat.le_of_ble_eq_true rfl⟩ (Nat.le_of_ble_eq_true rfl) (Nat.le_of_ble_eq_true rfl) (Nat.le_of_ble_eq_true rfl) (D 4 rfl) (D 5 rfl) (pc2 := 12) (fun _ _ _ r h => h) (D 6 rfl) (fun H locs hH hLs => ?_)
  refine lv_astore_n (lv' := [(2, .ref (ev_lo G + (0 + (0 + 301)))), (1, .ref (ev_lo G + (0 + 0))), (0, .ref b)]) hx hb (D 7 rfl) rfl hl (by decide) rfl (fun ls hl => ?_)
  refine lv_iconst (v := 1) hx hb (D 8 rfl) (by decide) ?_
  refine ct_arrO (ty := .long) (K := 13) (N := 1) (t0 := 3) (z := .inr (.inl (fun _ => 0))) Cc hH rfl cw_ar.2.1 (ct_ez13 (by decide +kernel) (by decide +kernel) (fun _ => rfl)) rfl (fun _ => rfl) rfl (fun _ _ h => h) (by decide) (by decide) (Nat.le_of_ble_eq_true rfl) (Nat.le_of_ble_eq_true rfl) (Nat.le_of_ble_eq_true rfl) (D 9 rfl) (fun H hH => ?_)
  refine lv_astore_n (lv' := [(3, .ref (ev_lo G + (0 + (0 + 301 + 9)))), (2, .ref (ev_lo G + (0 + (0 + 301)))), (1, .ref (ev_lo G + (0 + 0))), (0, .ref b)]) hx hb (D 10 rfl) rfl hl (by decide) rfl (fun ls hl => ?_)
  refine lv_iconst (v := 1) hx hb (D 11 rfl) (by decide) ?_
  refine ct_arrO (ty := .double) (K := 15) (N := 1) (t0 := 5) (z := .inr (.inr (.inr (.inl (fun _ => 0))))) Cc hH rfl cw_ar.2.2.2.2 (ct_ez15 (by decide +kernel) (by decide +kernel) (fun _ => rfl)) rfl (fun _ => rfl) rfl (fun _ _ h => h) (by decide) (by decide) (Nat.le_of_ble_eq_true rfl) (Nat.le_of_ble_eq_true rfl) (Nat.le_of_ble_eq_true rfl) (D 12 rfl) (fun H hH => ?_)
  refine lv_astore (lv' := [(4, .ref (ev_lo G + (0 + (0 + 301 + 9 + 1)))), (3, .ref (ev_lo G + (0 + (0 + 301 + 9)))), (2, .ref (ev_lo G + (0 + (0 + 301)))), (1, .ref (ev_lo G + (0 + 0))), (0, .ref b)]) hx hb (D 13 rfl) hl (by decide) rfl (fun ls hl => ?_)
  refine lv_iconst (v := 0) hx hb (D 14 rfl) (by decide) ?_
  refine lv_istore (lv' := [(5, .int 0), (4, .ref (ev_lo G + (0 + (0 + 301 + 9 + 1)))), (3, .ref (ev_lo G + (0 + (0 + 301 + 9)))), (2, .ref (ev_lo G + (0 + (0 + 301)))), (1, .ref (ev_lo G + (0 + 0))), (0, .ref b)]) hx hb (D 15 rfl) hl (by decide) rfl (fun ls hl => ?_)
  refine W.widen (k := 312 + 0) (n := lw_S0 + 6 * 0) (Nat.le_of_ble_eq_true rfl) (Nat.le_of_ble_eq_true rfl) ?_
  have hP : va_P G.2.2.1 vwCl (ev_ws sh_S G ct_m) H := by
    intro k q hq
    have hk : k < 312 := by
      rcases Nat.lt_or_ge k 312 with h | h
      · exact h
      · unfold ev_ws at hq
        have h9 : ev_nc sh_S ≤ k := h
        rw [List.getElem?_eq_none (by simpa using h9)] at hq
        cases hq
    rw [ev_ws_at (show k < ev_nc sh_S from hk)] at hq
    cases hq
    rw [hρ k hk]
    exact hH.2.1 k (Nat.zero_le k) (by omega)
  have hS : va_S (ev_fr G) s.heap H locs := ⟨by rw [hH.1]; omega, fun q h1 _ => hH.2.2 q (by omega), fun q hq => hLs q hq⟩
  refine lw_loop hok hnc hkw hks hB hend 520 0 ct_s ct_m (by decide) (by decide) Bo_z H locs ls hP hS ⟨hl.1, hl.2.1, fun q hq => ?_⟩
  have e0 : G.2.1 0 = ev_lo G + (0 + 0) := hρ 0 (by decide)
  have e1 : G.2.1 301 = ev_lo G + (0 + (0 + 301)) := hρ 301 (by decide)
  have e2 : G.2.1 310 = ev_lo G + (0 + (0 + 301 + 9)) := hρ 310 (by decide)
  have e3 : G.2.1 311 = ev_lo G + (0 + (0 + 301 + 9 + 1)) := hρ 311 (by decide)
  have hq : q ∈ [((5 : Nat), Value.int (nI 0)), (0, .ref (G.2.1 400)), (1, .ref (G.2.1 0)), (2, .ref (G.2.1 301)), (3, .ref (G.2.1 310)), (4, .ref (G.2.1 311))] := hq
  rw [g3, e0, e1, e2, e3] at hq
  refine hl.2.2 q ?_
  simp only [List.mem_cons, List.not_mem_nil, or_false] at hq ⊢
  rcases hq with h | h | h | h | h | h
  · exact Or.inl h
  · exact Or.inr (Or.inr (Or.inr (Or.inr (Or.inr h))))
  · exact Or.inr (Or.inr (Or.inr (Or.inr (Or.inl h))))
  · exact Or.inr (Or.inr (Or.inr (Or.inl h)))
  · exact Or.inr (Or.inr (Or.inl h))
  · exact Or.inr (Or.inl h)
end Sta
