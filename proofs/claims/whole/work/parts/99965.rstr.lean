/-! ===== calls by hand; the JDK's strings; words ===== -/
section Eh
variable {S : ev_S} {G : ev_G}
variable {p : Program} {e : Env} {R : Room} {s : State} {m : MethodId} {args : Array Value} {below : List Frame} {meth : Method} {c : Code} {cc : ByteArray} {own : String} {nL d : Nat} {res : ev_R} {z : Bool} {pc : Nat} {l : List (Nat × Value)} {r : List Value} {μ : ev_M}
/-- what a call site asks of the words -/
def eh_ok (own : String) (n na : Nat) (y : ev_Mi) : Prop := Cond.methodLink own n y.1 ∈ ev_wd ∧ Cond.initialized y.1.cls ∈ ev_wd ∧ Cond.code y.1 y.2.1 y.2.2.1 y.2.2.2.1 ∈ ev_wd ∧ y.2.2.1 ≤ 20 ∧ (y.1.cls ≠ "java/lang/invoke/MethodHandle" ∧ y.1.cls ≠ "java/lang/invoke/VarHandle" ∧ (parseMethodDescriptor y.1.desc).map (fun d => d.parameters.length) = some na)
theorem eh_S (hB : ev_B S G p R s m args meth c cc own nL d res z) {n na : Nat} {y : ev_Mi} (hw : eh_ok own n na y) (hst : Cond.static y.1 ∈ ev_wd) {As : List Value} (hlen : As.length = na) (hsz : ev_sz r ≤ 8) (hdp : y.2.2.2.2 < d) {v : Option Value} {μ' : ev_M} (hT : ev_T S G y As μ (.inl (v, μ'))) (hd : decode cc pc = .ok (.invokestatic n, 3))
    (hk : ev_Wk S G p G.1 e R s m args below meth c nL res (pc + 3) l (v.toList ++ r) μ') : ev_Wk S G p G.1 e R s m args below meth c nL res pc l (As.reverse ++ r) μ := by
  intro H locs ls hP hS hl
  obtain ⟨hok, hx, hb, hml, hown, hW0, hlo, hlow, hlk, hR, hex⟩ := id hB
  obtain ⟨w1, w4, w5, w6, w7⟩ := hw
  have h5 : ev_cn res (.inl (v, μ')) (fun v μ => (fun l st μ => ev_Wk S G p G.1 e R s m args below meth c nL res (pc + 3) l st μ) l (v.toList ++ r) μ) := hk
  refine ev_call (kc := fun l st μ => ev_Wk S G p G.1 e R s m args below meth c nL res (pc + 3) l st μ) hB hS hl h5 (fun _ _ _ h => h) (vx_runS (As := As.map (ev_tr G.2.1)) ⟨hx, hb, hml, hown, ev_B_w hB⟩ hT ⟨callB_of na (ev_B_w hB) (ev_good w5) rfl rfl rfl (ev_B_w hB _ w4) (ev_B_w hB _ w1) w7 ⟨by rw [hR]; exact hdp, by rw [hR]; show 8 + (y.2.2.1 + 11) + 40 * y.2.2.2.2 ≤ 40 * d; have : y.2.2.1 ≤ 20 := w6; omega⟩, ev_B_w hB _ hst⟩ ⟨ev_pre_blind, fun U hU hW => ⟨rfl, hW0.trans hW, by rw [hU]; exact ev_H_of hB hP hS⟩⟩ rfl (by simpa using hlen) hl.1 (by simp) (lv_room (by rw [ev_sz_eq]; exact hsz)) hd (by rw [hR]; exact ev_co_le h5))
theorem eh_V (hB : ev_B S G p R s m args meth c cc own nL d res z) {n na : Nat} {y : ev_Mi} (hw : eh_ok own n na y) {C : String} (w2 : Cond.instanceMethod y.1 ∈ ev_wd) (w3 : Cond.selects C y.1 y.1 ∈ ev_wd) {b : Nat} (hrec : ∀ (H : Heap) (locs : List Loc), va_S (ev_fr G) s.heap H locs → ∃ cell : Cell, H[G.2.1 b]? = some cell ∧ cell.vm.isStatics = false ∧ s.vm.findClass C = some cell.cls) {As : List Value} (hlen : As.length = na) (hsz : ev_sz r ≤ 8) (hdp : y.2.2.2.2 < d) {v : Option Value} {μ' : ev_M} (hT : ev_T S G y (.ref b :: As) μ (.inl (v, μ'))) (hd : decode cc pc = .ok (.invokevirtual n, 3))
    (hk : ev_Wk S G p G.1 e R s m args below meth c nL res (pc + 3) l (v.toList ++ r) μ') : ev_Wk S G p G.1 e R s m args below meth c nL res pc l (As.reverse ++ .ref b :: r) μ := by
  intro H locs ls hP hS hl
  obtain ⟨hok, hx, hb, hml, hown, hW0, hlo, hlow, hlk, hR, hex⟩ := id hB
  obtain ⟨w1, w4, w5, w6, w7⟩ := hw
  have h5 : ev_cn res (.inl (v, μ')) (fun v μ => (fun l st μ => ev_Wk S G p G.1 e R s m args below meth c nL res (pc + 3) l st μ) l (v.toList ++ r) μ) := hk
  refine ev_call (kc := fun l st μ => ev_Wk S G p G.1 e R s m args below meth c nL res (pc + 3) l st μ) hB hS hl h5 (fun _ _ _ h => h) (vx_runV (As := As.map (ev_tr G.2.1)) (C := C) (b := G.2.1 b) ⟨hx, hb, hml, hown, ev_B_w hB⟩ hT ⟨callB_of na (ev_B_w hB) (ev_good w5) rfl rfl rfl (ev_B_w hB _ w4) (ev_B_w hB _ w1) w7 ⟨by rw [hR]; exact hdp, by rw [hR]; show 8 + (y.2.2.1 + 11) + 40 * y.2.2.2.2 ≤ 40 * d; have : y.2.2.1 ≤ 20 := w6; omega⟩, ev_B_w hB _ w2, ev_B_w hB _ w3⟩ ⟨ev_pre_blind, hrec H locs hS, fun U hU hW => ⟨by simp [ev_tr], hW0.trans hW, by rw [hU]; exact ev_H_of hB hP hS⟩⟩ rfl (by simpa using hlen) hl.1 (by simp [ev_tr]) (lv_room (by rw [ev_sz_eq]; exact hsz)) hd (by rw [hR]; exact ev_co_le h5))
end Eh
section JStr
variable {G : ev_G} {N : Nat → Nat} {B : Nat → Nat} {n : Nat} {μ μ' : ev_M}
/-- the words that the reference compares with: panel, person, taster .. -/
def ksI : List Nat := [311, 214, 223, 228, 233, 238, 243, 248, 256, 261, 266, 271, 276, 281, 286, 291, 296, 301, 306]
def ksT : List String := ["panel", "person", "taster", "pancake", "bid", "together", "conflict", "seat", "fill", "leave", "score", "talk", "limit", "kitchen", "swap", "clear", "even", "copy", "repeat"]
def ksB : List (List Int32) := [[112, 97, 110, 101, 108], [112, 101, 114, 115, 111, 110], [116, 97, 115, 116, 101, 114], [112, 97, 110, 99, 97, 107, 101], [98, 105, 100], [116, 111, 103, 101, 116, 104, 101, 114], [99, 111, 110, 102, 108, 105, 99, 116], [115, 101, 97, 116], [102, 105, 108, 108], [108, 101, 97, 118, 101], [115, 99, 111, 114, 101], [116, 97, 108, 107], [108, 105, 109, 105, 116], [107, 105, 116, 99, 104, 101, 110], [115, 119, 97, 112], [99, 108, 101, 97, 114], [101, 118, 101, 110], [99, 111, 112, 121], [114, 101, 112, 101, 97, 116]]
def ksL : List Nat := [5, 6, 6, 7, 3, 8, 8, 4, 4, 5, 5, 4, 5, 7, 4, 5, 4, 4, 6]
/-- their letters -/
def ksC (j k : Nat) : Nat := (((ksB.getD j []).getD k 0).toInt).toNat
/-- the strings at 340 .., their bytes at 360 .., two statics of the JDK's -/
def KS (G : ev_G) : Prop := vk_S 19 ksL ksB (fun i => G.2.1 (340 + i)) (fun i => G.2.1 (360 + i)) (ev_fr G) G.2.2.2.2.1 G.2.2.2.2.1.heap ∧ (∀ i, i < 19 → vk_R RX11 (ksI.getD i 0) (ksT.getD i "") (G.2.1 (340 + i)) G.2.2.2.2.1) ∧
  va_Z RJ0 "COMPACT_STRINGS" "Z" (.int 1) (ev_fr G) G.2.2.2.2.1 G.2.2.2.2.1.heap ∧ ∃ v : Value, (v = .null ∨ v = .ref 380) ∧ va_Z RJ3 "SIOOBE_FORMATTER" "Ljava/util/function/BiFunction;" (ev_tr G.2.1 v) (ev_fr G) G.2.2.2.2.1 G.2.2.2.2.1.heap
section
variable {pp : Program} {e : Env} {R : Room} {s : State} {mm : MethodId} {args : Array Value} {below : List Frame} {meth : Method} {c : Code} {cc : ByteArray} {own : String} {nL d : Nat} {res : ev_R} {z : Bool}
theorem KS_s (hB : ev_B sh_S G pp R s mm args meth c cc own nL d res z) (h : KS G) :
    vk_S 19 ksL ksB (fun i => G.2.1 (340 + i)) (fun i => G.2.1 (360 + i)) (ev_fr G) s s.heap ∧ (∀ i, i < 19 → vk_R RX11 (ksI.getD i 0) (ksT.getD i "") (G.2.1 (340 + i)) s) ∧
    va_Z RJ0 "COMPACT_STRINGS" "Z" (.int 1) (ev_fr G) s s.heap ∧ ∃ v : Value, (v = .null ∨ v = .ref 380) ∧ va_Z RJ3 "SIOOBE_FORMATTER" "Ljava/util/function/BiFunction;" (ev_tr G.2.1 v) (ev_fr G) s s.heap := by
  obtain ⟨hok, hx, hb, hml, hown, hW0, hlo, hlow, hlk2, hR, hex⟩ := id hB
  obtain ⟨h1, h2, h3, v, h4, h5⟩ := h
  exact ⟨vk_S.moved hW0.alike (h1.kept (H1 := s.heap) (fun a ha _ => hlow a ha)), fun i hi => vk_R.warm hW0 (h2 i hi), va_Z.moved hW0.alike (h3.kept (H1 := s.heap) (fun a ha _ => hlow a ha)), v, h4, va_Z.moved hW0.alike (h5.kept (H1 := s.heap) (fun a ha _ => hlow a ha))⟩
end
abbrev mi_J0_coder : ev_Mi := (yJ0_coder_7d493, cJ0_coder_7d493, 1, (some .byte), 0)
abbrev mi_J0_length : ev_Mi := (yJ0_length_8abf5, cJ0_length_8abf5, 1, (some .int), 1)
abbrev mi_J0_isLatin1 : ev_Mi := (yJ0_isLatin1_aae02, cJ0_isLatin1_aae02, 1, (some .boolean), 0)
abbrev mi_J3_checkIndex : ev_Mi := (yJ3_checkIndex_8e157, cJ3_checkIndex_8e157, 3, (some .int), 0)
abbrev mi_J0_checkIndex : ev_Mi := (yJ0_checkIndex_df160, cJ0_checkIndex_df160, 2, none, 1)
abbrev mi_J1_charAt : ev_Mi := (yJ1_charAt_3b067, cJ1_charAt_3b067, 2, (some .char), 2)
abbrev mi_J0_charAt : ev_Mi := (yJ0_charAt_5068e, cJ0_charAt_5068e, 2, (some .char), 3)
theorem dJ_coder : decode cJ0_coder_7d493 0 = .ok (.getstatic 38, 3) ∧ decode cJ0_coder_7d493 3 = .ok (.ifCond .eq 10, 3) ∧ decode cJ0_coder_7d493 6 = .ok (.aload_n 0, 1) ∧ decode cJ0_coder_7d493 7 = .ok (.getfield 15, 3) ∧ decode cJ0_coder_7d493 10 = .ok (.goto 4, 3) ∧ decode cJ0_coder_7d493 14 = .ok (.ireturn, 1) := by decide +kernel
theorem dJ_length : decode cJ0_length_8abf5 0 = .ok (.aload_n 0, 1) ∧ decode cJ0_length_8abf5 1 = .ok (.getfield 9, 3) ∧ decode cJ0_length_8abf5 4 = .ok (.arraylength, 1) ∧ decode cJ0_length_8abf5 5 = .ok (.aload_n 0, 1) ∧ decode cJ0_length_8abf5 6 = .ok (.invokevirtual 335, 3) ∧ decode cJ0_length_8abf5 9 = .ok (.ishr, 1) ∧ decode cJ0_length_8abf5 10 = .ok (.ireturn, 1) := by decide +kernel
theorem dJ_latin : decode cJ0_isLatin1_aae02 0 = .ok (.getstatic 38, 3) ∧ decode cJ0_isLatin1_aae02 3 = .ok (.ifCond .eq 14, 3) ∧ decode cJ0_isLatin1_aae02 6 = .ok (.aload_n 0, 1) ∧ decode cJ0_isLatin1_aae02 7 = .ok (.getfield 15, 3) ∧ decode cJ0_isLatin1_aae02 10 = .ok (.ifCond .ne 7, 3) ∧ decode cJ0_isLatin1_aae02 13 = .ok (.iconst 1, 1) ∧ decode cJ0_isLatin1_aae02 14 = .ok (.goto 4, 3) ∧ decode cJ0_isLatin1_aae02 18 = .ok (.ireturn, 1) := by decide +kernel
theorem dJ_pci : decode cJ3_checkIndex_8e157 0 = .ok (.iload_n 0, 1) ∧ decode cJ3_checkIndex_8e157 1 = .ok (.ifCond .lt 8, 3) ∧ decode cJ3_checkIndex_8e157 4 = .ok (.iload_n 0, 1) ∧ decode cJ3_checkIndex_8e157 5 = .ok (.iload_n 1, 1) ∧ decode cJ3_checkIndex_8e157 6 = .ok (.if_icmp .lt 10, 3) ∧ decode cJ3_checkIndex_8e157 16 = .ok (.iload_n 0, 1) ∧ decode cJ3_checkIndex_8e157 17 = .ok (.ireturn, 1) := by decide +kernel
theorem dJ_ci : decode cJ0_checkIndex_df160 0 = .ok (.iload_n 0, 1) ∧ decode cJ0_checkIndex_df160 1 = .ok (.iload_n 1, 1) ∧ decode cJ0_checkIndex_df160 2 = .ok (.getstatic 1053, 3) ∧ decode cJ0_checkIndex_df160 5 = .ok (.invokestatic 1059, 3) ∧ decode cJ0_checkIndex_df160 8 = .ok (.pop, 1) ∧ decode cJ0_checkIndex_df160 9 = .ok (.return_, 1) := by decide +kernel
theorem dJ_lca : decode cJ1_charAt_3b067 0 = .ok (.iload_n 1, 1) ∧ decode cJ1_charAt_3b067 1 = .ok (.aload_n 0, 1) ∧ decode cJ1_charAt_3b067 2 = .ok (.arraylength, 1) ∧ decode cJ1_charAt_3b067 3 = .ok (.invokestatic 9, 3) ∧ decode cJ1_charAt_3b067 6 = .ok (.aload_n 0, 1) ∧ decode cJ1_charAt_3b067 7 = .ok (.iload_n 1, 1) ∧ decode cJ1_charAt_3b067 8 = .ok (.baload, 1) ∧ decode cJ1_charAt_3b067 9 = .ok (.sipush 255, 3) ∧ decode cJ1_charAt_3b067 12 = .ok (.iand, 1) ∧ decode cJ1_charAt_3b067 13 = .ok (.i2c, 1) ∧ decode cJ1_charAt_3b067 14 = .ok (.ireturn, 1) := by decide +kernel
theorem dJ_ca : decode cJ0_charAt_5068e 0 = .ok (.aload_n 0, 1) ∧ decode cJ0_charAt_5068e 1 = .ok (.invokevirtual 492, 3) ∧ decode cJ0_charAt_5068e 4 = .ok (.ifCond .eq 12, 3) ∧ decode cJ0_charAt_5068e 7 = .ok (.aload_n 0, 1) ∧ decode cJ0_charAt_5068e 8 = .ok (.getfield 9, 3) ∧ decode cJ0_charAt_5068e 11 = .ok (.iload_n 1, 1) ∧ decode cJ0_charAt_5068e 12 = .ok (.invokestatic 495, 3) ∧ decode cJ0_charAt_5068e 15 = .ok (.ireturn, 1) := by decide +kernel
theorem lkJ_38 : Cond.fieldLink RJ0 38 RJ0 "COMPACT_STRINGS" "Z" ∈ ev_wd := by decide +kernel
theorem lkJ_15 : Cond.fieldLink RJ0 15 RJ0 "coder" "B" ∈ ev_wd := by decide +kernel
theorem lkJ_9 : Cond.fieldLink RJ0 9 RJ0 "value" "[B" ∈ ev_wd := by decide +kernel
theorem lkJ_1053 : Cond.fieldLink RJ0 1053 RJ3 "SIOOBE_FORMATTER" "Ljava/util/function/BiFunction;" ∈ ev_wd := by decide +kernel
theorem ehJ_coder : eh_ok RJ0 335 0 mi_J0_coder ∧ Cond.instanceMethod yJ0_coder_7d493 ∈ ev_wd ∧ Cond.selects RJ0 yJ0_coder_7d493 yJ0_coder_7d493 ∈ ev_wd := by unfold eh_ok; decide +kernel
theorem ehJ_latin : eh_ok RJ0 492 0 mi_J0_isLatin1 ∧ Cond.instanceMethod yJ0_isLatin1_aae02 ∈ ev_wd ∧ Cond.selects RJ0 yJ0_isLatin1_aae02 yJ0_isLatin1_aae02 ∈ ev_wd := by unfold eh_ok; decide +kernel
theorem ehJ_pci : eh_ok RJ0 1059 3 mi_J3_checkIndex ∧ Cond.static yJ3_checkIndex_8e157 ∈ ev_wd := by unfold eh_ok; decide +kernel
theorem ehJ_ci : eh_ok RJ1 9 2 mi_J0_checkIndex ∧ Cond.static yJ0_checkIndex_df160 ∈ ev_wd := by unfold eh_ok; decide +kernel
theorem ehJ_lca : eh_ok RJ0 495 2 mi_J1_charAt ∧ Cond.static yJ1_charAt_3b067 ∈ ev_wd := by unfold eh_ok; decide +kernel
theorem ehJ_length : eh_ok RX11 104 0 mi_J0_length ∧ Cond.instanceMethod yJ0_length_8abf5 ∈ ev_wd ∧ Cond.selects RJ0 yJ0_length_8abf5 yJ0_length_8abf5 ∈ ev_wd := by unfold eh_ok; decide +kernel
theorem ehJ_charAt : eh_ok RX11 110 1 mi_J0_charAt ∧ Cond.instanceMethod yJ0_charAt_5068e ∈ ev_wd ∧ Cond.selects RJ0 yJ0_charAt_5068e yJ0_charAt_5068e ∈ ev_wd := by unfold eh_ok; decide +kernel
theorem ksL_lt : ∀ i, i < 19 → 0 < ksL.getD i 0 ∧ ksL.getD i 0 ≤ 8 := by decide +kernel
theorem ksC_ok : ∀ i, i < 19 → ∀ k, k < ksL.getD i 0 → (ksB.getD i []).getD k 0 = nI (ksC i k) ∧ 97 ≤ ksC i k ∧ ksC i k ≤ 122 ∧ (((ksB.getD i []).getD k 0 &&& 255).toUInt32 % 65536).toInt32 = nI (ksC i k) ∧ narrow .char (.int (nI (ksC i k))) = .int (nI (ksC i k)) := by decide +kernel
theorem shr_0 : ∀ k, k < 9 → nI k >>> ((0 : Int32) &&& 31) = nI k := by decide +kernel
theorem j_coder (hok : ev_ok sh_S G) (hks : KS G) {i : Nat} (hi : i < 19) : ev_T sh_S G mi_J0_coder [.ref (340 + i)] μ (.inl (some (.int 0), μ)) := by
  refine ez_tri (own := RJ0) (z := false) rfl (by decide +kernel) hok (Nat.le_of_ble_eq_true rfl) ?_
  intro p e R s mm below meth c hB hret H locs ls hP hS hl
  obtain ⟨-, hx, hb, hml, hown, hW0, hlo, hlow, hlk2, hR, hex⟩ := id hB
  obtain ⟨k1, k2, k3, v4, k4, k5⟩ := KS_s hB hks
  obtain ⟨d0, d3, d6, d7, d10, d14⟩ := dJ_coder
  refine va_gets hx hb k3 hS hown (ev_B_w hB _ lkJ_38) (fun x h => h) d0 ?_
  refine lv_if_eq hx hb d3 (tgt := 13) rfl (fun q => absurd q (by decide)) (fun _ => ?_)
  refine lv_aload_n hx hb d6 rfl (ev_lv0 hl (v := .ref (340 + i)) rfl) ?_
  refine vk_getf hx hb (k1.1 i hi).2.1 hS hown (ev_B_w hB _ lkJ_15) (fun x h => h) d7 ?_
  refine lv_goto hx hb d10 (tgt := 14) rfl ?_
  have hq : ∀ t : State, t.heap = H → s.WarmedH t.vm → ev_Q sh_S G (.inl (some (.int 0), μ)) ([Value.ref (340 + i)].map (ev_tr G.2.1)).toArray s (.returned (some (.int 0))) t := fun t ht _ => ⟨some (.int 0), μ, rfl, rfl, by rw [ht]; exact ev_H_of hB hP hS⟩
  exact vx_ret (W.zret hx hb hret rfl hq hS.2.2 d14 hlk2)
theorem j_isLatin1 (hok : ev_ok sh_S G) (hks : KS G) {i : Nat} (hi : i < 19) : ev_T sh_S G mi_J0_isLatin1 [.ref (340 + i)] μ (.inl (some (.int 1), μ)) := by
  refine ez_tri (own := RJ0) (z := false) rfl (by decide +kernel) hok (Nat.le_of_ble_eq_true rfl) ?_
  intro p e R s mm below meth c hB hret H locs ls hP hS hl
  obtain ⟨-, hx, hb, hml, hown, hW0, hlo, hlow, hlk2, hR, hex⟩ := id hB
  obtain ⟨k1, k2, k3, v4, k4, k5⟩ := KS_s hB hks
  obtain ⟨d0, d3, d6, d7, d10, d13, d14, d18⟩ := dJ_latin
  refine va_gets hx hb k3 hS hown (ev_B_w hB _ lkJ_38) (fun x h => h) d0 ?_
  refine lv_if_eq hx hb d3 (tgt := 17) rfl (fun q => absurd q (by decide)) (fun _ => ?_)
  refine lv_aload_n hx hb d6 rfl (ev_lv0 hl (v := .ref (340 + i)) rfl) ?_
  refine vk_getf hx hb (k1.1 i hi).2.1 hS hown (ev_B_w hB _ lkJ_15) (fun x h => h) d7 ?_
  refine lv_if_ne hx hb d10 (tgt := 17) rfl (fun q => absurd rfl q) (fun _ => ?_)
  refine lv_iconst (v := 1) hx hb d13 rfl ?_
  refine lv_goto hx hb d14 (tgt := 18) rfl ?_
  have hq : ∀ t : State, t.heap = H → s.WarmedH t.vm → ev_Q sh_S G (.inl (some (.int 1), μ)) ([Value.ref (340 + i)].map (ev_tr G.2.1)).toArray s (.returned (some (.int 1))) t := fun t ht _ => ⟨some (.int 1), μ, rfl, rfl, by rw [ht]; exact ev_H_of hB hP hS⟩
  exact vx_ret (W.zret hx hb hret rfl hq hS.2.2 d18 hlk2)
theorem j_length (hok : ev_ok sh_S G) (hks : KS G) {i : Nat} (hi : i < 19) : ev_T sh_S G mi_J0_length [.ref (340 + i)] μ (.inl (some (.int (nI (ksL.getD i 0))), μ)) := by
  refine ez_tri (own := RJ0) (z := false) rfl (by decide +kernel) hok (Nat.le_of_ble_eq_true rfl) ?_
  intro p e R s mm below meth c hB hret H locs ls hP hS hl
  obtain ⟨-, hx, hb, hml, hown, hW0, hlo, hlow, hlk2, hR, hex⟩ := id hB
  obtain ⟨k1, k2, k3, v4, k4, k5⟩ := KS_s hB hks
  obtain ⟨d0, d1, d4, d5, d6, d9, d10⟩ := dJ_length
  have h8 := ksL_lt i hi
  refine lv_aload_n hx hb d0 rfl (ev_lv0 hl (v := .ref (340 + i)) rfl) ?_
  refine vk_getf hx hb (k1.1 i hi).2.2.1 hS hown (ev_B_w hB _ lkJ_9) (fun x h => h) d1 ?_
  refine va_tlen hx hb (k1.1 i hi).2.2.2 hS (v := nI (ksL.getD i 0)) rfl d4 ?_
  refine lv_aload_n hx hb d5 rfl (ev_lv0 hl (v := .ref (340 + i)) rfl) ?_
  refine eh_V (l := lv_args 0 [Value.ref (340 + i)]) (r := [.int (nI (ksL.getD i 0))]) (As := []) (b := 340 + i) (C := RJ0) hB ehJ_coder.1 ehJ_coder.2.1 ehJ_coder.2.2 (fun H locs hS => vk_recv (adK := fun i => G.2.1 (340 + i)) k1 hi hS) rfl (Nat.le_of_ble_eq_true rfl) (by decide) (j_coder hok hks hi) d6 ?_ H locs ls hP hS hl
  intro H locs ls hP hS hl
  refine lv_ishr hx hb d9 ?_
  rw [shr_0 _ (by omega)]
  have hq : ∀ t : State, t.heap = H → s.WarmedH t.vm → ev_Q sh_S G (.inl (some (.int (nI (ksL.getD i 0))), μ)) ([Value.ref (340 + i)].map (ev_tr G.2.1)).toArray s (.returned (some (.int (nI (ksL.getD i 0))))) t := fun t ht _ => ⟨some (.int (nI (ksL.getD i 0))), μ, rfl, rfl, by rw [ht]; exact ev_H_of hB hP hS⟩
  exact vx_ret (W.iret hx hb hret hq hS.2.2 d10 hlk2)
theorem j_pci (hok : ev_ok sh_S G) {k n : Nat} (hk : k < n) (hn : n < 1000) (v : Value) (hv : v = .null ∨ v = .ref 380) : ev_T sh_S G mi_J3_checkIndex [.int (nI k), .int (nI n), v] μ (.inl (some (.int (nI k)), μ)) := by
  refine ez_tri (own := RJ3) (z := false) rfl (by decide +kernel) hok (by rcases hv with rfl | rfl <;> exact Nat.le_of_ble_eq_true rfl) ?_
  intro p e R s mm below meth c hB hret H locs ls hP hS hl
  obtain ⟨-, hx, hb, hml, hown, hW0, hlo, hlow, hlk2, hR, hex⟩ := id hB
  obtain ⟨d0, d1, d4, d5, d6, d16, d17⟩ := dJ_pci
  have l0 : ls[0]? = some (.val (.int (nI k))) := ev_lv0 hl (v := .int (nI k)) (by rcases hv with rfl | rfl <;> rfl)
  have l1 : ls[1]? = some (.val (.int (nI n))) := ev_lv0 hl (v := .int (nI n)) (by rcases hv with rfl | rfl <;> rfl)
  refine lv_iload_n hx hb d0 rfl l0 ?_
  refine lv_if_lt hx hb d1 (tgt := 9) rfl (fun q => absurd q (nI_pos (by omega))) (fun _ => ?_)
  refine lv_iload_n hx hb d4 rfl l0 ?_
  refine lv_iload_n hx hb d5 rfl l1 ?_
  refine lv_icmp_lt hx hb d6 (tgt := 16) rfl (fun _ => ?_) (fun q => absurd (nI_lt hk (by omega)) q)
  refine lv_iload_n hx hb d16 rfl l0 ?_
  have hq : ∀ t : State, t.heap = H → s.WarmedH t.vm → ev_Q sh_S G (.inl (some (.int (nI k)), μ)) ([Value.int (nI k), Value.int (nI n), v].map (ev_tr G.2.1)).toArray s (.returned (some (.int (nI k)))) t := fun t ht _ => ⟨some (.int (nI k)), μ, rfl, rfl, by rw [ht]; exact ev_H_of hB hP hS⟩
  exact vx_ret (W.iret hx hb hret hq hS.2.2 d17 hlk2)
theorem j_ci (hok : ev_ok sh_S G) (hks : KS G) {k n : Nat} (hk : k < n) (hn : n < 1000) : ev_T sh_S G mi_J0_checkIndex [.int (nI k), .int (nI n)] μ (.inl (none, μ)) := by
  refine ez_tri (own := RJ0) (z := false) rfl (by decide +kernel) hok (Nat.le_of_ble_eq_true rfl) ?_
  intro p e R s mm below meth c hB hret H locs ls hP hS hl
  obtain ⟨-, hx, hb, hml, hown, hW0, hlo, hlow, hlk2, hR, hex⟩ := id hB
  obtain ⟨k1, k2, k3, v4, k4, k5⟩ := KS_s hB hks
  obtain ⟨d0, d1, d2, d5, d8, d9⟩ := dJ_ci
  refine lv_iload_n hx hb d0 rfl (ev_lv0 hl (v := .int (nI k)) rfl) ?_
  refine lv_iload_n hx hb d1 rfl (ev_lv0 hl (v := .int (nI n)) rfl) ?_
  refine va_gets hx hb k5 hS hown (ev_B_w hB _ lkJ_1053) (fun x h => h) d2 ?_
  refine eh_S (l := lv_args 0 [Value.int (nI k), Value.int (nI n)]) (r := []) (As := [.int (nI k), .int (nI n), v4]) hB ehJ_pci.1 ehJ_pci.2 rfl (by decide) (by decide) (j_pci hok hk hn v4 k4) d5 ?_ H locs ls hP hS hl
  intro H locs ls hP hS hl
  refine lv_pop hx hb d8 rfl ?_
  have hq : ∀ t : State, t.heap = H → s.WarmedH t.vm → ev_Q sh_S G (.inl (none, μ)) ([Value.int (nI k), Value.int (nI n)].map (ev_tr G.2.1)).toArray s (.returned none) t := fun t ht _ => ⟨none, μ, rfl, rfl, by rw [ht]; exact ev_H_of hB hP hS⟩
  exact vx_ret (W.vret hx hb hret hq hS.2.2 d9 hlk2)
theorem j_lca (hok : ev_ok sh_S G) (hks : KS G) {i k : Nat} (hi : i < 19) (hk : k < ksL.getD i 0) : ev_T sh_S G mi_J1_charAt [.ref (360 + i), .int (nI k)] μ (.inl (some (.int (nI (ksC i k))), μ)) := by
  refine ez_tri (own := RJ1) (z := false) rfl (by decide +kernel) hok (Nat.le_of_ble_eq_true rfl) ?_
  intro p e R s mm below meth c hB hret H locs ls hP hS hl
  obtain ⟨-, hx, hb, hml, hown, hW0, hlo, hlow, hlk2, hR, hex⟩ := id hB
  obtain ⟨k1, k2, k3, v4, k4, k5⟩ := KS_s hB hks
  obtain ⟨d0, d1, d2, d3, d6, d7, d8, d9, d12, d13, d14⟩ := dJ_lca
  have h8 := ksL_lt i hi
  have hc := ksC_ok i hi k hk
  refine lv_iload_n hx hb d0 rfl (ev_lv0 hl (v := .int (nI k)) rfl) ?_
  refine lv_aload_n hx hb d1 rfl (ev_lv0 hl (v := .ref (360 + i)) rfl) ?_
  refine va_tlen hx hb (k1.1 i hi).2.2.2 hS (v := nI (ksL.getD i 0)) rfl d2 ?_
  refine eh_S (l := lv_args 0 [Value.ref (360 + i), Value.int (nI k)]) (r := []) (As := [.int (nI k), .int (nI (ksL.getD i 0))]) hB ehJ_ci.1 ehJ_ci.2 rfl (by decide) (by decide) (j_ci hok hks hk (by omega)) d3 ?_ H locs ls hP hS hl
  intro H locs ls hP hS hl
  refine lv_aload_n hx hb d6 rfl (ev_lv0 hl (v := .ref (360 + i)) rfl) ?_
  refine lv_iload_n hx hb d7 rfl (ev_lv0 hl (v := .int (nI k)) rfl) ?_
  refine va_tb hx hb (k1.1 i hi).2.2.2 hS (v := .int ((ksB.getD i []).getD k 0)) (vp_in_nI hk (by omega)) (by rw [nI_clamp (by omega)]) d8 ?_
  refine lv_sipush (v := 255) hx hb d9 (by decide) ?_
  refine lv_iand hx hb d12 ?_
  refine lv_i2c (v := nI (ksC i k)) hx hb d13 hc.2.2.2.1 ?_
  have hq : ∀ t : State, t.heap = H → s.WarmedH t.vm → ev_Q sh_S G (.inl (some (.int (nI (ksC i k))), μ)) ([Value.ref (360 + i), Value.int (nI k)].map (ev_tr G.2.1)).toArray s (.returned (some (.int (nI (ksC i k))))) t := fun t ht _ => ⟨some (.int (nI (ksC i k))), μ, rfl, rfl, by rw [ht]; exact ev_H_of hB hP hS⟩
  exact vx_ret (W.zret hx hb hret hc.2.2.2.2 hq hS.2.2 d14 hlk2)
theorem j_charAt (hok : ev_ok sh_S G) (hks : KS G) {i k : Nat} (hi : i < 19) (hk : k < ksL.getD i 0) : ev_T sh_S G mi_J0_charAt [.ref (340 + i), .int (nI k)] μ (.inl (some (.int (nI (ksC i k))), μ)) := by
  refine ez_tri (own := RJ0) (z := false) rfl (by decide +kernel) hok (Nat.le_of_ble_eq_true rfl) ?_
  intro p e R s mm below meth c hB hret H locs ls hP hS hl
  obtain ⟨-, hx, hb, hml, hown, hW0, hlo, hlow, hlk2, hR, hex⟩ := id hB
  obtain ⟨k1, k2, k3, v4, k4, k5⟩ := KS_s hB hks
  obtain ⟨d0, d1, d4, d7, d8, d11, d12, d15⟩ := dJ_ca
  have hc := ksC_ok i hi k hk
  refine lv_aload_n hx hb d0 rfl (ev_lv0 hl (v := .ref (340 + i)) rfl) ?_
  refine eh_V (l := lv_args 0 [Value.ref (340 + i), Value.int (nI k)]) (r := []) (As := []) (b := 340 + i) (C := RJ0) hB ehJ_latin.1 ehJ_latin.2.1 ehJ_latin.2.2 (fun H locs hS => vk_recv (adK := fun i => G.2.1 (340 + i)) k1 hi hS) rfl (by decide) (by decide) (j_isLatin1 hok hks hi) d1 ?_ H locs ls hP hS hl
  intro H locs ls hP hS hl
  refine lv_if_eq hx hb d4 (tgt := 16) rfl (fun q => absurd q (by decide)) (fun _ => ?_)
  refine lv_aload_n hx hb d7 rfl (ev_lv0 hl (v := .ref (340 + i)) rfl) ?_
  refine vk_getf hx hb (k1.1 i hi).2.2.1 hS hown (ev_B_w hB _ lkJ_9) (fun x h => h) d8 ?_
  refine lv_iload_n hx hb d11 rfl (ev_lv0 hl (v := .int (nI k)) rfl) ?_
  refine eh_S (l := lv_args 0 [Value.ref (340 + i), Value.int (nI k)]) (r := []) (As := [.ref (360 + i), .int (nI k)]) hB ehJ_lca.1 ehJ_lca.2 rfl (by decide) (by decide) (j_lca hok hks hi hk) d12 ?_ H locs ls hP hS hl
  intro H locs ls hP hS hl
  have hq : ∀ t : State, t.heap = H → s.WarmedH t.vm → ev_Q sh_S G (.inl (some (.int (nI (ksC i k))), μ)) ([Value.ref (340 + i), Value.int (nI k)].map (ev_tr G.2.1)).toArray s (.returned (some (.int (nI (ksC i k))))) t := fun t ht _ => ⟨some (.int (nI (ksC i k))), μ, rfl, rfl, by rw [ht]; exact ev_H_of hB hP hS⟩
  exact vx_ret (W.zret hx hb hret hc.2.2.2.2 hq hS.2.2 d15 hlk2)
end JStr
