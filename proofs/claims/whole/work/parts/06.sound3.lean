/-! ===== the evaluator is sound: rows, calls, ends; the whole (by program, wip/whole/gen6.py) ===== -/
section EvSound3
variable {S : ev_S} {G : ev_G}
theorem ev_E_10 {μ : ev_M} {a : Nat} (h : ev_kd S a = 10) : ev_E S G μ a = .inl (G.2.2.2.1 10, ev_ln S a, .inl (μ.1 a)) := by
  unfold ev_E
  rw [if_pos h]
theorem ev_E_11 {μ : ev_M} {a : Nat} (h : ev_kd S a = 11) : ev_E S G μ a = .inl (G.2.2.2.1 11, ev_ln S a, .inl (μ.1 a)) := by
  unfold ev_E
  rw [if_neg (by omega), if_pos h]
theorem ev_E_12 {μ : ev_M} {a : Nat} (h : ev_kd S a = 12) : ev_E S G μ a = .inl (G.2.2.2.1 12, ev_ln S a, .inl (μ.1 a)) := by
  unfold ev_E
  rw [if_neg (by omega), if_neg (by omega), if_pos h]
theorem ev_E_13 {μ : ev_M} {a : Nat} (h : ev_kd S a = 13) : ev_E S G μ a = .inl (G.2.2.2.1 13, ev_ln S a, .inr (.inl (μ.2.1 a))) := by
  unfold ev_E
  rw [if_neg (by omega), if_neg (by omega), if_neg (by omega), if_pos h]
theorem ev_E_14 {μ : ev_M} {a : Nat} (h : ev_kd S a = 14) : ev_E S G μ a = .inl (G.2.2.2.1 14, ev_ln S a, .inr (.inr (.inr (.inr (fun k => some (G.2.1 (μ.2.2 a k))))))) := by
  unfold ev_E
  rw [if_neg (by omega), if_neg (by omega), if_neg (by omega), if_neg (by omega), if_pos h]
theorem ev_E_15 {μ : ev_M} {a : Nat} (h : ev_kd S a = 15) : ev_E S G μ a = .inl (G.2.2.2.1 15, ev_ln S a, .inr (.inr (.inr (.inl (fun k => (μ.2.1 a k).toUInt64))))) := by
  unfold ev_E
  rw [if_neg (by omega), if_neg (by omega), if_neg (by omega), if_neg (by omega), if_neg (by omega), if_pos h]
theorem ev_upd {f : Nat → Nat → Int32} {a k : Nat} {v : Int32} : upd (f a) k v = ev_up f a k v a := ev_up_self.symm
theorem ev_updL {f : Nat → Nat → Int64} {a k : Nat} {v : Int64} : vp_updL (f a) k v = ev_up f a k v a := ev_up_self.symm
variable {p : Program} {l0 : Launch} {e : Env} {R : Room} {s : State} {m : MethodId} {args : Array Value} {below : List Frame} {meth : Method} {c : Code} {cc : ByteArray} {own : String} {nL d : Nat} {res : ev_R} {z : Bool}
variable {Tb : ev_Tb} {pc : Nat} {l : List (Nat × Value)} {st : List Value} {μ : ev_M} {k : List (Nat × Value) → List Value → ev_M → Prop} {j : Nat → List (Nat × Value) → List Value → ev_M → Prop} {kc : List (Nat × Value) → List Value → ev_M → Prop}

theorem ev_s_iaload (hB : ev_B S G p R s m args meth c cc own nL d res z) (hd : decode cc pc = .ok (.iaload, 1)) (hk : ev_K1 S G p l0 e R s m args below meth c nL res (pc + 1) k)
    (h : ev_stp S G Tb d res (ev_nm pc (.iaload)) pc l st μ k j kc) : ev_Wk S G p l0 e R s m args below meth c nL res pc l st μ := by
  intro H locs ls hP hS hl
  obtain ⟨hok, hx, hb, hml, hown, hW0, hlo, hlow, hlk, hR, hex⟩ := id hB
  simp only [ev_nm, ev_stp] at h
  split at h
  · rename_i x a r
    obtain ⟨h1, h2, h3, h4⟩ := h
    exact va_iald hx hb (ev_B_K hB) hP a 0 (by rw [ev_ws_at h1, ev_E_10 h2]) rfl h3 hd (hk _ _ _ h4 H locs ls hP hS hl)
  · exact h.elim
theorem ev_s_laload (hB : ev_B S G p R s m args meth c cc own nL d res z) (hd : decode cc pc = .ok (.laload, 1)) (hk : ev_K1 S G p l0 e R s m args below meth c nL res (pc + 1) k)
    (h : ev_stp S G Tb d res (ev_nm pc (.laload)) pc l st μ k j kc) : ev_Wk S G p l0 e R s m args below meth c nL res pc l st μ := by
  intro H locs ls hP hS hl
  obtain ⟨hok, hx, hb, hml, hown, hW0, hlo, hlow, hlk, hR, hex⟩ := id hB
  simp only [ev_nm, ev_stp] at h
  split at h
  · rename_i x a r
    obtain ⟨h1, h2, h3, h4⟩ := h
    exact va_lald hx hb (ev_B_K hB) hP a 3 (by rw [ev_ws_at h1, ev_E_13 h2]) rfl h3 hd (hk _ _ _ h4 H locs ls hP hS hl)
  · exact h.elim
theorem ev_s_aaload (hB : ev_B S G p R s m args meth c cc own nL d res z) (hd : decode cc pc = .ok (.aaload, 1)) (hk : ev_K1 S G p l0 e R s m args below meth c nL res (pc + 1) k)
    (h : ev_stp S G Tb d res (ev_nm pc (.aaload)) pc l st μ k j kc) : ev_Wk S G p l0 e R s m args below meth c nL res pc l st μ := by
  intro H locs ls hP hS hl
  obtain ⟨hok, hx, hb, hml, hown, hW0, hlo, hlow, hlk, hR, hex⟩ := id hB
  simp only [ev_nm, ev_stp] at h
  split at h
  · rename_i x a r
    obtain ⟨h1, h2, h3, h4⟩ := h
    exact va_aldq (f := fun k => some (G.2.1 (μ.2.2 a k))) hx hb (ev_B_K hB) hP a 4 (by rw [ev_ws_at h1, ev_E_14 h2]) rfl h3 hd (hk _ _ _ h4 H locs ls hP hS hl)
  · exact h.elim
theorem ev_s_baload (hB : ev_B S G p R s m args meth c cc own nL d res z) (hd : decode cc pc = .ok (.baload, 1)) (hk : ev_K1 S G p l0 e R s m args below meth c nL res (pc + 1) k)
    (h : ev_stp S G Tb d res (ev_nm pc (.baload)) pc l st μ k j kc) : ev_Wk S G p l0 e R s m args below meth c nL res pc l st μ := by
  intro H locs ls hP hS hl
  obtain ⟨hok, hx, hb, hml, hown, hW0, hlo, hlow, hlk, hR, hex⟩ := id hB
  simp only [ev_nm, ev_stp] at h
  split at h
  · rename_i x a r
    obtain ⟨h1, h2 | h2, h3, h4⟩ := h
    · exact va_bald hx hb (ev_B_K hB) hP a 1 (by rw [ev_ws_at h1, ev_E_11 h2]) rfl h3 hd (hk _ _ _ h4 H locs ls hP hS hl)
    · exact va_zald hx hb (ev_B_K hB) hP a 2 (by rw [ev_ws_at h1, ev_E_12 h2]) rfl h3 hd (hk _ _ _ h4 H locs ls hP hS hl)
  · exact h.elim
theorem ev_s_iastore (hB : ev_B S G p R s m args meth c cc own nL d res z) (hd : decode cc pc = .ok (.iastore, 1)) (hk : ev_K1 S G p l0 e R s m args below meth c nL res (pc + 1) k)
    (h : ev_stp S G Tb d res (ev_nm pc (.iastore)) pc l st μ k j kc) : ev_Wk S G p l0 e R s m args below meth c nL res pc l st μ := by
  intro H locs ls hP hS hl
  obtain ⟨hok, hx, hb, hml, hown, hW0, hlo, hlow, hlk, hR, hex⟩ := id hB
  simp only [ev_nm, ev_stp] at h
  split at h
  · rename_i v x a r
    obtain ⟨h1, h2, h3, h4⟩ := h
    refine va_iast hx hb (ev_B_K hB) hP (ev_D hok μ) hS a 0 (by rw [ev_ws_at h1, ev_E_10 h2]) rfl h3 hd (fun H1 locs1 hP1 hD1 hS1 => ?_)
    refine hk _ _ _ h4 H1 locs1 ls ?_ hS1 hl
    rw [ev_ws_set h1 (μ' := (ev_up μ.1 a x.toNatClampNeg v, μ.2)) (by rw [ev_E_10 h2, ev_upd]) (fun b hb => ev_E_eq (ev_up_ne hb) rfl rfl)] at hP1
    exact hP1
  · exact h.elim
theorem ev_s_bastore (hB : ev_B S G p R s m args meth c cc own nL d res z) (hd : decode cc pc = .ok (.bastore, 1)) (hk : ev_K1 S G p l0 e R s m args below meth c nL res (pc + 1) k)
    (h : ev_stp S G Tb d res (ev_nm pc (.bastore)) pc l st μ k j kc) : ev_Wk S G p l0 e R s m args below meth c nL res pc l st μ := by
  intro H locs ls hP hS hl
  obtain ⟨hok, hx, hb, hml, hown, hW0, hlo, hlow, hlk, hR, hex⟩ := id hB
  simp only [ev_nm, ev_stp] at h
  split at h
  · rename_i v x a r
    obtain ⟨h1, h3, ⟨h2, h4⟩ | ⟨h2, h4⟩⟩ := h
    · refine va_bast hx hb (ev_B_K hB) hP (ev_D hok μ) hS a 1 (by rw [ev_ws_at h1, ev_E_11 h2]) rfl h3 hd (fun H1 locs1 hP1 hD1 hS1 => ?_)
      refine hk _ _ _ h4 H1 locs1 ls ?_ hS1 hl
      rw [vp_nar_byte, ev_ws_set h1 (μ' := (ev_up μ.1 a x.toNatClampNeg v.toInt8.toInt32, μ.2)) (by rw [ev_E_11 h2, ev_upd]) (fun b hb => ev_E_eq (ev_up_ne hb) rfl rfl)] at hP1
      exact hP1
    · refine va_zast hx hb (ev_B_K hB) hP (ev_D hok μ) hS a 2 (by rw [ev_ws_at h1, ev_E_12 h2]) rfl h3 hd (fun H1 locs1 hP1 hD1 hS1 => ?_)
      refine hk _ _ _ h4 H1 locs1 ls ?_ hS1 hl
      rw [ev_ws_set h1 (μ' := (ev_up μ.1 a x.toNatClampNeg (vp_nar .boolean v), μ.2)) (by rw [ev_E_12 h2, ev_upd]) (fun b hb => ev_E_eq (ev_up_ne hb) rfl rfl)] at hP1
      exact hP1
  · exact h.elim
theorem ev_s_lastore (hB : ev_B S G p R s m args meth c cc own nL d res z) (hd : decode cc pc = .ok (.lastore, 1)) (hk : ev_K1 S G p l0 e R s m args below meth c nL res (pc + 1) k)
    (h : ev_stp S G Tb d res (ev_nm pc (.lastore)) pc l st μ k j kc) : ev_Wk S G p l0 e R s m args below meth c nL res pc l st μ := by
  intro H locs ls hP hS hl
  obtain ⟨hok, hx, hb, hml, hown, hW0, hlo, hlow, hlk, hR, hex⟩ := id hB
  simp only [ev_nm, ev_stp] at h
  split at h
  · rename_i v x a r
    obtain ⟨h1, h2, h3, h4⟩ := h
    refine va_last hx hb (ev_B_K hB) hP (ev_D hok μ) hS a 3 (by rw [ev_ws_at h1, ev_E_13 h2]) rfl h3 hd (fun H1 locs1 hP1 hD1 hS1 => ?_)
    refine hk _ _ _ h4 H1 locs1 ls ?_ hS1 hl
    have e9 : ev_E S G (μ.1, ev_up μ.2.1 a x.toNatClampNeg v, μ.2.2) a = .inl (G.2.2.2.1 13, ev_ln S a, .inr (.inl (vp_updL (μ.2.1 a) x.toNatClampNeg v))) := by
      rw [ev_E_13 h2, ev_updL]
    rw [ev_ws_set (μ := μ) h1 (μ' := (μ.1, ev_up μ.2.1 a x.toNatClampNeg v, μ.2.2)) e9 (fun b hb => ev_E_eq rfl (ev_up_ne hb) rfl)] at hP1
    exact hP1
  · exact h.elim
theorem ev_s_arraylength (hB : ev_B S G p R s m args meth c cc own nL d res z) (hd : decode cc pc = .ok (.arraylength, 1)) (hk : ev_K1 S G p l0 e R s m args below meth c nL res (pc + 1) k)
    (h : ev_stp S G Tb d res (ev_nm pc (.arraylength)) pc l st μ k j kc) : ev_Wk S G p l0 e R s m args below meth c nL res pc l st μ := by
  intro H locs ls hP hS hl
  obtain ⟨hok, hx, hb, hml, hown, hW0, hlo, hlow, hlk, hR, hex⟩ := id hB
  simp only [ev_nm, ev_stp] at h
  split at h
  · rename_i a r
    obtain ⟨h1, h2, h3, h4⟩ := h
    rcases (by omega : ev_kd S a = 10 ∨ ev_kd S a = 11 ∨ ev_kd S a = 12 ∨ ev_kd S a = 13 ∨ ev_kd S a = 14 ∨ ev_kd S a = 15) with q | q | q | q | q | q
    · exact va_alen (x := (ev_ln S a, _)) hx hb (ev_B_K hB) hP a 0 (by rw [ev_ws_at h1, ev_E_10 q]) rfl rfl hd (hk _ _ _ h4 H locs ls hP hS hl)
    · exact va_alen (x := (ev_ln S a, _)) hx hb (ev_B_K hB) hP a 1 (by rw [ev_ws_at h1, ev_E_11 q]) rfl rfl hd (hk _ _ _ h4 H locs ls hP hS hl)
    · exact va_alen (x := (ev_ln S a, _)) hx hb (ev_B_K hB) hP a 2 (by rw [ev_ws_at h1, ev_E_12 q]) rfl rfl hd (hk _ _ _ h4 H locs ls hP hS hl)
    · exact va_alen (x := (ev_ln S a, _)) hx hb (ev_B_K hB) hP a 3 (by rw [ev_ws_at h1, ev_E_13 q]) rfl rfl hd (hk _ _ _ h4 H locs ls hP hS hl)
    · exact va_alen (x := (ev_ln S a, _)) hx hb (ev_B_K hB) hP a 4 (by rw [ev_ws_at h1, ev_E_14 q]) rfl rfl hd (hk _ _ _ h4 H locs ls hP hS hl)
    · exact va_alen (x := (ev_ln S a, _)) hx hb (ev_B_K hB) hP a 5 (by rw [ev_ws_at h1, ev_E_15 q]) rfl rfl hd (hk _ _ _ h4 H locs ls hP hS hl)
  · exact h.elim
theorem ev_B_S {H' : Heap} {μ' : ev_M} {locs' : List Loc} (hB : ev_B S G p R s m args meth c cc own nL d res z) (hH : ev_H S G μ' H') (hz : s.heap.size ≤ H'.size) (hL : ∀ q ∈ locs', ev_fr G q.base) : va_S (ev_fr G) s.heap H' locs' :=
  ⟨hz, fun q _ h2 => by
    have hq : q < ev_lo G := by
      have : ¬ ev_lo G ≤ q := h2
      omega
    rw [hH.2.2 q hq, hB.2.2.2.2.2.2.2.1 q hq], hL⟩
/-- behind a call -/
theorem ev_call {r : List Value} {res' : ev_R} {ls : Array Slot} {st' : List Value} {H : Heap} {locs : List Loc} {a' : Array Value} (hB : ev_B S G p R s m args meth c cc own nL d res z) (hS : va_S (ev_fr G) s.heap H locs) (hl : lv_has ls nL (ev_ml G l)) (hres : ev_cn res res' (fun v μ => kc l (v.toList ++ r) μ))
    (hk : ev_K1 S G p l0 e R s m args below meth c nL res (pc + 3) kc)
    (hr : vx_Run p l0 e R s m args below meth c H locs 0 0 (ev_co res').1 (ev_co res').2 (F0 m pc ls st') (r.map (ev_tr G.2.1)) (ev_Q S G res' a') (ev_X S G res') (ev_fr G)) :
    W p l0 e R s m args below meth c H locs 0 0 (vx_MQ below (ev_Q S G res) (ev_X S G res) args s (ev_co res).1 (ev_co res).2 (ev_fr G)) (F0 m pc ls st') := by
  intro T hT X
  rcases hr T hT X with ⟨v, st0, t, T', L, h0, X', hL, e1, e2, ⟨v9, μ', hr1, hr2, hr3⟩, stp⟩ | ⟨q, st0, t, T', L, E, ce, h0, X', hL, e1, e2, ⟨μ', hr1, hr3⟩, hce, hcv, hcl, stp⟩
  · subst hr1
    cases hr2
    have hz : s.heap.size ≤ T'.heap.size := X'.same.2.1
    have hH : ev_H S G μ' T'.heap := by rw [e1]; exact hr3
    have h5 : kc l (v9.toList ++ r) μ' := hres
    obtain ⟨t2, a1, b1⟩ := hk l _ μ' h5 T'.heap (locs ++ L) ls hH.1 (ev_B_S hB hH hz (fun q hq => by
      rcases List.mem_append.mp hq with h | h
      · exact hS.2.2 q h
      · exact hL q h)) hl T' rfl X'
    refine ⟨t2, stp t2 ?_, b1⟩
    have e9 : (v9.map (ev_tr G.2.1)).toList ++ r.map (ev_tr G.2.1) = (v9.toList ++ r).map (ev_tr G.2.1) := by cases v9 <;> simp
    show Steps p.tables e below (T'.setTop (F0 m (pc + 3) ls ((v9.map (ev_tr G.2.1)).toList ++ r.map (ev_tr G.2.1)))) t2
    rw [e9]
    exact a1
  · subst hr1
    have h5 : res = .inr (E, μ') := hres
    have hH : ev_H S G μ' T'.heap := by rw [e1]; exact hr3
    obtain ⟨t2, a1, b1⟩ := vx_out (ls := ls) (rest := r.map (ev_tr G.2.1)) (pc := pc) (Qc := ev_Q S G res) (XC := ev_X S G res) (free := ev_fr G) (mc := (ev_co res).1) (ms := (ev_co res).2) (fun x hx => (hB.2.2.2.2.2.2.2.2.2.2 x hx).elim) hB.2.2.2.2.2.2.2.2.1 (by rw [e1]; exact hce) hcv hcl (fun t9 ht9 _ => ⟨μ', h5, by rw [ht9]; exact hH⟩) (fun q hq => by
      rcases List.mem_append.mp hq with h | h
      · exact hS.2.2 q h
      · exact hL q h) (by rw [h5]; exact Nat.le_refl _) (by rw [h5]; exact Nat.le_refl _) T' rfl X'
    exact ⟨t2, stp.trans a1, b1⟩
theorem ev_co_le {res' : ev_R} {kk : Option Value → ev_M → Prop} (h : ev_cn res res' kk) : 0 + (ev_co res').1 ≤ (ev_co res).1 ∧ 0 + (ev_co res').2 ≤ (ev_co res).2 := by
  cases res' with
  | inl x => exact ⟨Nat.zero_le _, Nat.zero_le _⟩
  | inr x =>
    obtain ⟨E, μ'⟩ := x
    have h5 : res = .inr (E, μ') := h
    rw [h5]
    exact ⟨Nat.le_refl _, Nat.le_refl _⟩
theorem ev_pre_blind {As : List Value} : FrameBlind (ev_pre S G As μ) := fun a U g mk q => q
theorem ev_good {y : ev_Mi} (h : Cond.code y.1 y.2.1 y.2.2.1 y.2.2.2.1 ∈ ev_wd) : GoodIn ev_wd (.code y.1 y.2.1 y.2.2.1 y.2.2.2.1 :: []) := by
  intro w hw
  rcases List.mem_cons.mp hw with rfl | hw
  · exact ⟨h, Or.inl rfl⟩
  · cases hw

theorem ev_s_invokevirtual (hB : ev_B S G p R s m args meth c cc own nL d res z) {n : Nat} {ca : List (Nat × ev_Ca)} (hca : Tb.2.1 = ev_lu ca) (hC : ev_okC own ca) (hkc : ev_K1 S G p G.1 e R s m args below meth c nL res (pc + 3) kc) (hd : decode cc pc = .ok (.invokevirtual n, 3)) (hk : ev_K1 S G p G.1 e R s m args below meth c nL res (pc + 3) k)
    (h : ev_stp S G Tb d res (ev_nm pc (.invokevirtual n)) pc l st μ k j kc) : ev_Wk S G p G.1 e R s m args below meth c nL res pc l st μ := by
  intro H locs ls hP hS hl
  obtain ⟨hok, hx, hb, hml, hown, hW0, hlo, hlow, hlk, hR, hex⟩ := id hB
  simp only [ev_nm, ev_stp] at h
  split at h
  · rename_i y na cb heq
    split at h
    · rename_i As b r heq2
      obtain ⟨h1, h2, h3, h4, res', hT, h5⟩ := h
      rw [hca] at heq
      obtain ⟨q0, -, -, q3, -⟩ := hC _ (ev_lu_in heq)
      obtain ⟨C, T, N, hc, w1, w2, w3⟩ := q0 rfl
      obtain ⟨w4, w5, w6, w7⟩ := q3 (by decide : 0 < 10)
      obtain ⟨As', e1, e2, e3⟩ := ev_as_eq heq2
      rw [List.append_nil] at e1
      subst e1
      subst e3
      have q4 := (ev_cls cb C T N hc).2.2.2.1
      refine ev_call hB hS hl h5 hkc (vx_runV (As := As.map (ev_tr G.2.1)) (C := C) (b := G.2.1 b) ⟨hx, hb, hml, hown, ev_B_w hB⟩ hT ⟨callB_of na (ev_B_w hB) (ev_good w5) rfl rfl rfl (ev_B_w hB _ w4) (ev_B_w hB _ w1) w7 ⟨by rw [hR]; exact h4, by rw [hR]; show 8 + (y.2.2.1 + 11) + 40 * y.2.2.2.2 ≤ 40 * d; have : y.2.2.1 ≤ 20 := w6; omega⟩, ev_B_w hB _ w2, ev_B_w hB _ w3⟩ ⟨ev_pre_blind, va_recv (ev_B_K hB) hP (q0 := b) hc (by rw [ev_ws_at h1, ev_E_obj h2 q4]), fun U hU hW => ⟨by simp [ev_tr], hW0.trans hW, by rw [hU]; exact ev_H_of hB hP hS⟩⟩ rfl (by simpa using e2) hl.1 (by simp [ev_tr]) (lv_room (by rw [ev_sz_eq]; exact h3)) hd (by rw [hR]; exact ev_co_le h5))
    · exact h.elim
  · exact h.elim
theorem ev_s_invokestatic (hB : ev_B S G p R s m args meth c cc own nL d res z) {n : Nat} {ca : List (Nat × ev_Ca)} (hca : Tb.2.1 = ev_lu ca) (hC : ev_okC own ca) (hkc : ev_K1 S G p G.1 e R s m args below meth c nL res (pc + 3) kc) (hd : decode cc pc = .ok (.invokestatic n, 3)) (hk : ev_K1 S G p G.1 e R s m args below meth c nL res (pc + 3) k)
    (h : ev_stp S G Tb d res (ev_nm pc (.invokestatic n)) pc l st μ k j kc) : ev_Wk S G p G.1 e R s m args below meth c nL res pc l st μ := by
  intro H locs ls hP hS hl
  obtain ⟨hok, hx, hb, hml, hown, hW0, hlo, hlow, hlk, hR, hex⟩ := id hB
  simp only [ev_nm, ev_stp] at h
  split at h
  · rename_i y na cb heq
    split at h
    · rename_i As r heq2
      obtain ⟨h3, h4, res', hT, h5⟩ := h
      rw [hca] at heq
      obtain ⟨-, q1, q2, q3, -⟩ := hC _ (ev_lu_in heq)
      obtain ⟨w1, w2⟩ := q1 rfl
      obtain ⟨w4, w5, w6, w7⟩ := q3 (by decide : 1 < 10)
      obtain ⟨As', e1, e2, e3⟩ := ev_as_eq heq2
      rw [List.append_nil] at e1
      subst e1
      subst e3
      refine ev_call hB hS hl h5 hkc (vx_runS (As := As.map (ev_tr G.2.1)) ⟨hx, hb, hml, hown, ev_B_w hB⟩ hT ⟨callB_of na (ev_B_w hB) (ev_good w5) rfl rfl rfl (ev_B_w hB _ w4) (ev_B_w hB _ w1) w7 ⟨by rw [hR]; exact h4, by rw [hR]; show 8 + (y.2.2.1 + 11) + 40 * y.2.2.2.2 ≤ 40 * d; have : y.2.2.1 ≤ 20 := w6; omega⟩, ev_B_w hB _ w2⟩ ⟨ev_pre_blind, fun U hU hW => ⟨rfl, hW0.trans hW, by rw [hU]; exact ev_H_of hB hP hS⟩⟩ rfl (by simpa using e2) hl.1 (by simp) (lv_room (by rw [ev_sz_eq]; exact h3)) hd (by rw [hR]; exact ev_co_le h5))
    · exact h.elim
  · rename_i y na cb heq
    split at h
    · rename_i As r heq2
      obtain ⟨h3, h4, res', hT, h5⟩ := h
      rw [hca] at heq
      obtain ⟨-, q1, q2, q3, -⟩ := hC _ (ev_lu_in heq)
      obtain ⟨host, w1, w2⟩ := q2 rfl
      obtain ⟨w4, w5, w6, w7⟩ := q3 (by decide : 3 < 10)
      obtain ⟨As', e1, e2, e3⟩ := ev_as_eq heq2
      rw [List.append_nil] at e1
      subst e1
      subst e3
      refine ev_call hB hS hl h5 hkc (vx_runSN (As := As.map (ev_tr G.2.1)) ⟨hx, hb, hml, hown, ev_B_w hB⟩ hT ⟨va_cnB na (ev_B_w hB) (ev_good w5) rfl rfl rfl (va_Nw.of rfl (ev_B_w hB _ w1)) (ev_B_w hB _ w4) w7 ⟨by rw [hR]; exact h4, by rw [hR]; show 8 + (y.2.2.1 + 11) + 40 * y.2.2.2.2 ≤ 40 * d; have : y.2.2.1 ≤ 20 := w6; omega⟩, ev_B_w hB _ w2, trivial⟩ ⟨ev_pre_blind, fun U hU hW => ⟨rfl, hW0.trans hW, by rw [hU]; exact ev_H_of hB hP hS⟩⟩ rfl (by simpa using e2) hl.1 (by simp) (lv_room (by rw [ev_sz_eq]; exact h3)) hd (by rw [hR]; exact ev_co_le h5))
    · exact h.elim
  · rename_i a1 a2 a3 heq
    split at h
    · obtain ⟨h3, h4, h5⟩ := h
      rw [hca] at heq
      obtain ⟨-, -, -, -, q10, q11, q12⟩ := hC _ (ev_lu_in heq)
      exact va_mmax hx hb (by rw [hml]; exact hl.1.symm) hown (ev_B_w hB _ (q10 rfl)) (ev_B_w hB _ (ev_math_in _ (by simp [ev_math]))) (ev_B_w hB _ (ev_math_in _ (by simp [ev_math]))) (ev_B_w hB _ (ev_math_in _ (by simp [ev_math]))) (by rw [hR]; exact h4) (by rw [ev_sz_eq, hR]; show _ + 13 ≤ 40 * d; omega) (Nat.zero_le _) (Nat.zero_le _) hd (hk _ _ _ h5 H locs ls hP hS hl)
    · exact h.elim
  · rename_i a1 a2 a3 heq
    split at h
    · obtain ⟨h3, h4, h5⟩ := h
      rw [hca] at heq
      obtain ⟨-, -, -, -, q10, q11, q12⟩ := hC _ (ev_lu_in heq)
      exact va_mmin hx hb (by rw [hml]; exact hl.1.symm) hown (ev_B_w hB _ (q11 rfl)) (ev_B_w hB _ (ev_math_in _ (by simp [ev_math]))) (ev_B_w hB _ (ev_math_in _ (by simp [ev_math]))) (ev_B_w hB _ (ev_math_in _ (by simp [ev_math]))) (by rw [hR]; exact h4) (by rw [ev_sz_eq, hR]; show _ + 13 ≤ 40 * d; omega) (Nat.zero_le _) (Nat.zero_le _) hd (hk _ _ _ h5 H locs ls hP hS hl)
    · exact h.elim
  · rename_i a1 a2 a3 heq
    split at h
    · obtain ⟨h3, h4, h5⟩ := h
      rw [hca] at heq
      obtain ⟨-, -, -, -, q10, q11, q12⟩ := hC _ (ev_lu_in heq)
      exact va_mabs hx hb (by rw [hml]; exact hl.1.symm) hown (ev_B_w hB _ (q12 rfl)) (ev_B_w hB _ (ev_math_in _ (by simp [ev_math]))) (ev_B_w hB _ (ev_math_in _ (by simp [ev_math]))) (ev_B_w hB _ (ev_math_in _ (by simp [ev_math]))) (by rw [hR]; exact h4) (by rw [ev_sz_eq, hR]; show _ + 13 ≤ 40 * d; omega) (Nat.zero_le _) (Nat.zero_le _) hd (hk _ _ _ h5 H locs ls hP hS hl)
    · exact h.elim
  · exact h.elim
theorem ev_s_ireturn (hB : ev_B S G p R s m args meth c cc own nL d res z) (hz : Tb.2.2.2.2.2.2 = z) (hret : meth.sig.returnType = if z then some .boolean else some .int) (hd : decode cc pc = .ok (.ireturn, 1))
    (h : ev_stp S G Tb d res .ireturn pc l st μ k j kc) : ev_Wk S G p l0 e R s m args below meth c nL res pc l st μ := by
  intro H locs ls hP hS hl
  obtain ⟨hok, hx, hb, hml, hown, hW0, hlo, hlow, hlk, hR, hex⟩ := id hB
  simp only [ev_stp] at h
  split at h
  · rename_i x
    obtain ⟨h1, h2⟩ := h
    subst h2
    have hq : ∀ t : State, t.heap = H → s.WarmedH t.vm → ev_Q S G (.inl (some (.int x), μ)) args s (.returned (some (.int x))) t := fun t ht _ => ⟨some (.int x), μ, rfl, rfl, by rw [ht]; exact ev_H_of hB hP hS⟩
    rw [hz] at h1
    cases z with
    | true => exact vx_ret (W.zret hx hb hret (by rcases h1 rfl with rfl | rfl <;> rfl) hq hS.2.2 hd hlk)
    | false => exact vx_ret (W.iret hx hb hret hq hS.2.2 hd hlk)
  · exact h.elim
theorem ev_s_lreturn (hB : ev_B S G p R s m args meth c cc own nL d res z) (hret : meth.sig.returnType = some .long) (hd : decode cc pc = .ok (.lreturn, 1))
    (h : ev_stp S G Tb d res .lreturn pc l st μ k j kc) : ev_Wk S G p l0 e R s m args below meth c nL res pc l st μ := by
  intro H locs ls hP hS hl
  obtain ⟨hok, hx, hb, hml, hown, hW0, hlo, hlow, hlk, hR, hex⟩ := id hB
  simp only [ev_stp] at h
  split at h
  · rename_i x
    subst h
    have hq : ∀ t : State, t.heap = H → s.WarmedH t.vm → ev_Q S G (.inl (some (.long x), μ)) args s (.returned (some (.long x))) t := fun t ht _ => ⟨some (.long x), μ, rfl, rfl, by rw [ht]; exact ev_H_of hB hP hS⟩
    exact vx_ret (W.lret hx hb hret hq hS.2.2 hd hlk)
  · exact h.elim
theorem ev_s_return (hB : ev_B S G p R s m args meth c cc own nL d res z) (hret : meth.sig.returnType = none) (hd : decode cc pc = .ok (.return_, 1))
    (h : ev_stp S G Tb d res .return_ pc l st μ k j kc) : ev_Wk S G p l0 e R s m args below meth c nL res pc l st μ := by
  intro H locs ls hP hS hl
  obtain ⟨hok, hx, hb, hml, hown, hW0, hlo, hlow, hlk, hR, hex⟩ := id hB
  simp only [ev_stp] at h
  split at h
  · subst h
    have hq : ∀ t : State, t.heap = H → s.WarmedH t.vm → ev_Q S G (.inl (none, μ)) args s (.returned none) t := fun t ht _ => ⟨none, μ, rfl, rfl, by rw [ht]; exact ev_H_of hB hP hS⟩
    exact vx_ret (W.vret hx hb hret hq hS.2.2 hd hlk)
  · exact h.elim
theorem ev_s_new {n : Nat} (hB : ev_B S G p R s m args meth c cc own nL d res z) (hN : ∀ E, Tb.2.2.1 n = some E → ev_okN own cc pc n E) (hd : decode cc pc = .ok (.new n, 3))
    (h : ev_stp S G Tb d res (.new n) pc l st μ k j kc) : ev_Wk S G p G.1 e R s m args below meth c nL res pc l st μ := by
  intro H locs ls hP hS hl
  obtain ⟨hok, hx, hb, hml, hown, hW0, hlo, hlow, hlk, hR, hex⟩ := id hB
  simp only [ev_stp] at h
  split at h
  · rename_i E heq
    obtain ⟨h1, h2, h3⟩ := h
    subst h3
    obtain ⟨is, ic, tx, n1, n2, n3, n4, n5, n6, n7⟩ := hN E heq
    obtain ⟨sa, hsa⟩ := hok.2.2.2.2.2.2.2 own is tx n4
    have hU := vx_Zq.moved hW0.alike (hok.2.2.2.2.2.1.kept (H1 := s.heap) (fun a ha _ => hlow a ha))
    have hN9 := vx_Zq.moved hW0.alike (hok.2.2.2.2.2.2.1.kept (H1 := s.heap) (fun a ha _ => hlow a ha))
    have hxx : ∀ t : State, s.vm.Alike t.vm → H.size ≤ t.heap.size → (∀ q : Nat, q < H.size → t.heap[q]? = H[q]?) → ev_X S G (.inr (E, μ)) E s t := by
      intro t _ ht1 ht2
      have hH := ev_H_of hB hP hS
      refine ⟨μ, rfl, hP.kept (fun k9 q9 hq9 => ht2 _ (hP k9 q9 hq9).lt), Nat.le_trans hH.2.1 ht1, fun q hq => ?_⟩
      rw [ht2 q (Nat.lt_of_lt_of_le hq hH.2.1)]
      exact hH.2.2 q hq
    have hat : ∀ w ∈ vx_atS own ic E ev_nms, w.before args s = true := fun w hw => ev_B_w hB w (n5 w hw)
    have hnm : ∀ n ∈ ev_nms, Bundle.fit n = true := by decide +kernel
    have r1 : ev_nms.length + 3 < R.frames := by rw [hR]; show 2 + 3 < d; omega
    have r2 : ((st.map (ev_tr G.2.1)).map fun v => v.category).sum + (13 * (ev_nms.length + 1) + 43) ≤ R.locals := by rw [ev_sz_eq, hR]; show ev_sz st + (13 * (2 + 1) + 43) ≤ 40 * d; omega
    have r3 : 0 + 1 ≤ R.cells := by rw [hR]; exact Nat.le_refl _
    have r4 : 0 + 6 ≤ R.slots := by rw [hR]; exact Nat.le_refl _
    rcases n7 with ⟨d3, d4, d6, d9⟩ | ⟨d3, d4, d7, d10⟩
    · exact vx_throwS hx hb hok.2.2.2.2.1 hown n1 hnm (ev_B_w hB _ n2) (ev_B_w hB _ n3) (vk_R.warm hW0 hsa) hat n6 hU hN9 hS (hl.1.trans hml.symm) hd d3 d4 d6 d9 (fun x hx9 => (hex x hx9).elim) r1 r2 r3 r4 hlk hxx hS.2.2 (Nat.le_refl _) (Nat.le_refl _)
    · exact vx_throwSW hx hb hok.2.2.2.2.1 hown n1 hnm (ev_B_w hB _ n2) (ev_B_w hB _ n3) (vk_R.warm hW0 hsa) hat n6 hU hN9 hS (hl.1.trans hml.symm) hd d3 d4 d7 d10 (fun x hx9 => (hex x hx9).elim) r1 r2 r3 r4 hlk hxx hS.2.2 (Nat.le_refl _) (Nat.le_refl _)
  · exact h.elim
end EvSound3
