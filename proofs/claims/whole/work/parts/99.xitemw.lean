/-! ===== the class's parser: an item (by program, wip/whole/gen99.py) ===== -/
section XItemW
variable {G : ev_G} {N : Nat → Nat} {B : Nat → Nat} {n m p : Nat} {μ μ' : ev_M}
def cdIA : List (Nat × Instr) := [(0, .aload 0), (1, .invokevirtual 71), (4, .astore 1), (5, .aload 0), (6, .aload 1), (7, .invokevirtual 91), (10, .ifCond .eq 24), (13, .aload 0), (14, .iconst 4), (15, .aload 0), (16, .getfield 49), (19, .invokevirtual 67), (22, .iconst 0), (23, .ireturn), (24, .aload 0), (25, .dup), (26, .getfield 49), (29, .iconst 1), (30, .iadd), (31, .putfield 49), (34, .getstatic 95)]
def cdIB : List (Nat × Instr) := [(128, .aload 0), (129, .invokevirtual 104), (132, .goto 267), (135, .aload 0), (136, .invokevirtual 107), (139, .goto 267), (142, .aload 0), (143, .invokevirtual 110), (146, .goto 267), (149, .aload 0), (150, .invokevirtual 113), (153, .goto 267), (156, .aload 0), (157, .invokevirtual 116), (160, .goto 267), (163, .aload 0), (164, .invokevirtual 119), (167, .goto 267), (170, .aload 0), (171, .invokevirtual 122), (174, .goto 267), (177, .aload 0), (178, .getfield 12), (181, .invokevirtual 125), (184, .pop), (185, .goto 267), (188, .aload 0), (189, .invokevirtual 128), (192, .goto 267), (195, .aload 0), (196, .invokevirtual 131), (199, .goto 267), (202, .aload 0), (203, .invokevirtual 134), (206, .goto 267), (209, .aload 0), (210, .invokevirtual 137), (213, .goto 267), (216, .aload 0), (217, .invokevirtual 140), (220, .goto 267), (223, .aload 0), (224, .invokevirtual 143), (227, .goto 267), (230, .aload 0), (231, .invokevirtual 146), (234, .goto 267), (237, .aload 0), (238, .invokevirtual 149), (241, .goto 267), (244, .aload 0), (245, .invokevirtual 152), (248, .goto 267), (251, .aload 0), (252, .invokevirtual 155), (255, .ireturn), (256, .aload 0), (257, .iconst 1), (258, .aload 0), (259, .getfield 49), (262, .iconst 1), (263, .isub), (264, .invokevirtual 67), (267, .iconst 0), (268, .ireturn)]
set_option maxRecDepth 100000 in
theorem okM_IA : ev_okM RX7 mi_X7_readItem tb_X7_readItem cdIA := ev_okM_of [] okF_X7 (okC_X7) okK_X7 (fun _ h => absurd h List.not_mem_nil) (by decide +kernel)
set_option maxRecDepth 100000 in
theorem okM_IB : ev_okM RX7 mi_X7_readItem tb_X7_readItem cdIB := ev_okM_of [] okF_X7 (okC_X7) okK_X7 (fun _ h => absurd h List.not_mem_nil) (by decide +kernel)
def wsOrd : List Cond := [.code yJx29ce0_ordinal_8abf5 cJx29ce0_ordinal_8abf5 1 (some .int), .fieldLink "java/lang/Enum" 7 "java/lang/Enum" "ordinal" "I"]
theorem dOrd : decode cJx29ce0_ordinal_8abf5 0 = .ok (.aload_n 0, 1) ∧ decode cJx29ce0_ordinal_8abf5 1 = .ok (.getfield 7, 3) ∧ decode cJx29ce0_ordinal_8abf5 4 = .ok (.ireturn, 1) := by decide +kernel
theorem c_ordinal (l : Launch) (a k : Nat) : Met l yJx29ce0_ordinal_8abf5 wsOrd ({ frames := 0, cells := 0, slots := 0, locals := 0 }) (va_Pc [.ref a] (fun U => va_OF "java/lang/Enum" "ordinal" "I" (.int (nI k)) a (fun _ => False) U U.heap)) (va_Qi (fun r (_ : Unit) => r = nI k) (fun _ _ => True) (fun _ => False)) 0 0 (fun _ => False) := by
  refine Met.ofW (cc := cJx29ce0_ordinal_8abf5) (maxL := 1) (ret := some .int) (by decide) rfl ?_
  intro p e s m args below meth c s₁ B hml hv
  obtain ⟨rfl, hO⟩ := hv
  have hx := B.exec
  have hb := B.bytes
  have hr := B.returns
  have hts := atoms_spec (ws := wsOrd) B.pre
  have hown : s.vm.findClass RJx29ce0 = some m.cls := findClass_of_methodNamed B.named
  have hlocks := B.notSynchronized
  have hS : va_S (fun _ => False) s.heap s.heap [] := va_S.rf
  have hl := lv_entry [Value.ref a] (n := 1) (Nat.le_of_ble_eq_true rfl)
  rw [lg_entry_eq]
  generalize (lg_sl [Value.ref a] ++ List.replicate (1 - (lg_sl [Value.ref a]).length) Slot.unset).toArray = ls at hl ⊢
  have hl : lv_has ls 1 [(0, .ref a)] := hl
  have hE : va_Ef 1 "java/lang/Enum" "ordinal" "I" (fun _ => .int (nI k)) (fun _ => a) (fun _ => False) s s.heap := fun _ _ => hO
  refine lv_aload_n hx hb dOrd.1 rfl (lv_at hl 0 rfl) ?_
  refine va_getX (i := 0) hx hb hE (by decide) hS hown (hts (.fieldLink "java/lang/Enum" 7 "java/lang/Enum" "ordinal" "I") (by unfold wsOrd; exact List.mem_cons_of_mem _ List.mem_cons_self)) (fun x h => h) dOrd.2.1 ?_
  exact W.iret (v := nI k) hx hb hr (fun t ht hW => ⟨⟨nI k, (), rfl, rfl, trivial⟩, hS.F ht⟩) hS.2.2 dOrd.2.2
theorem lkOrd : ∀ w ∈ va_wsU RX7 100 RX3 "java/lang/Enum" ⟨RX3, "ordinal", "()I"⟩ yJx29ce0_ordinal_8abf5 wsOrd, w ∈ ev_wd := by decide +kernel
theorem gdOrd : ∀ w ∈ va_wsU RX7 100 RX3 "java/lang/Enum" ⟨RX3, "ordinal", "()I"⟩ yJx29ce0_ordinal_8abf5 wsOrd, goodWord w = true := by decide +kernel
theorem lk_95 : Cond.fieldLink RX7 95 "PancakePanel$1" "$SwitchMap$PancakePanel$Keyword" "[I" ∈ ev_wd := by decide +kernel
theorem dk7_i : decode cX7_readItem 34 = .ok (.getstatic 95, 3) ∧ decode cX7_readItem 37 = .ok (.aload_n 1, 1) ∧ decode cX7_readItem 38 = .ok (.invokevirtual 100, 3) ∧ decode cX7_readItem 41 = .ok (.iaload, 1) ∧ decode cX7_readItem 42 = .ok (.tableswitch 214 1 18 #[86, 93, 100, 107, 114, 121, 128, 135, 146, 153, 160, 167, 174, 181, 188, 195, 202, 209], 86) := by decide +kernel
/-- where the switch leads -/
def tgt (k : Nat) : Nat := if k = 0 ∨ k = 19 then 256 else if k ≤ 8 then 128 + 7 * (k - 1) else 188 + 7 * (k - 9)
set_option maxHeartbeats 1000000 in
theorem sw_k (hkw : KW G) {pp : Program} {e : Env} {R : Room} {s : State} {mm : MethodId} {args : Array Value} {below : List Frame} {meth : Method} {c : Code} {res : ev_R} (hB : ev_B sh_S G pp R s mm args meth c mi_X7_readItem.2.1 RX7 mi_X7_readItem.2.2.1 mi_X7_readItem.2.2.2.2 res true) {k : Nat} (hk : k < 20) {μ1 : ev_M}
    (h : ev_Wk sh_S G pp G.1 e R s mm args below meth c mi_X7_readItem.2.2.1 res (tgt k) ([0, 1].zip [.ref 5, .ref (312 + k)]) [] μ1) : ev_Wk sh_S G pp G.1 e R s mm args below meth c mi_X7_readItem.2.2.1 res 34 ([0, 1].zip [.ref 5, .ref (312 + k)]) [] μ1 := by
  intro H locs ls hP hS hl
  obtain ⟨-, hx, hb, hml, hown, hW0, hlo, hlow, hlk2, hR, hex⟩ := id hB
  obtain ⟨k1, k2, k3, k4, k5, k6⟩ := KW_s hB hkw
  obtain ⟨q34, q37, q38, q41, q42⟩ := dk7_i
  refine va_gets hx hb k3 hS hown (ev_B_w hB _ lk_95) (fun x h => h) q34 ?_
  refine lv_aload_n hx hb q37 rfl (ev_lv0 hl (v := .ref (312 + k)) rfl) ?_
  have hO : va_OF "java/lang/Enum" "ordinal" "I" (.int (nI k)) (G.2.1 (312 + k)) (fun _ => False) s H := by
    have h1 := (k5.1 k hk).2.2 ("java/lang/Enum", "ordinal", "I", [0, 1, 2, 3, 4, 5, 6, 7, 8, 9, 10, 11, 12, 13, 14, 15, 16, 17, 18, 19]) (by unfold kwO; exact List.mem_singleton_self _)
    have e1 : ([0, 1, 2, 3, 4, 5, 6, 7, 8, 9, 10, 11, 12, 13, 14, 15, 16, 17, 18, 19] : List Int32).getD k 0 = nI k := by
      have : ∀ j, j < 20 → ([0, 1, 2, 3, 4, 5, 6, 7, 8, 9, 10, 11, 12, 13, 14, 15, 16, 17, 18, 19] : List Int32).getD j 0 = nI j := by decide +kernel
      exact this k hk
    have h2 : va_OF "java/lang/Enum" "ordinal" "I" (.int (([0, 1, 2, 3, 4, 5, 6, 7, 8, 9, 10, 11, 12, 13, 14, 15, 16, 17, 18, 19] : List Int32).getD k 0)) (G.2.1 (312 + k)) (ev_fr G) s s.heap := h1
    rw [e1] at h2
    exact (h2.kept hS.2.1).narrow (fun _ q => q.elim)
  have cw := va_cwU (R := R) (s := s) (args := args) (own := RX7) (C := RX3) (owner := "java/lang/Enum") (index := 100) (x := ⟨RX3, "ordinal", "()I"⟩) (y := yJx29ce0_ordinal_8abf5) (rm := { frames := 0, cells := 0, slots := 0, locals := 0 }) (mc := 0) (ms := 0) 0 (ev_B_w hB) (fun w hw => ⟨lkOrd w hw, good_of_word (gdOrd w hw)⟩) (ws := wsOrd) rfl rfl rfl rfl (by decide +kernel) ⟨by rw [hR]; show 0 + 1 ≤ 5; omega, by rw [hR]; show 8 + (1 + 11) + 0 ≤ 40 * 5; omega⟩
  have hrun := va_runU (meth := meth) (g := F0 mm 38 ls [.ref (G.2.1 (312 + k)), .ref (G.2.1 333)]) (As := []) (rest := [.ref (G.2.1 333)]) (b := G.2.1 (312 + k)) (locs := locs) (cells := 0) (slots := 0) (below := below) (e := e) ⟨hx, hb, hml, hown, ev_B_w hB⟩ (c_ordinal G.1 (G.2.1 (312 + k)) k) cw ⟨fun a U g mk q => q, va_recvE (ad := fun i => G.2.1 (312 + i)) (i := k) k5 (show k < kwn.length from hk) hS, fun U hU hW => ⟨rfl, by show va_OF _ _ _ _ _ _ U U.heap; rw [hU]; exact va_OF.moved hW.alike hO⟩⟩ rfl rfl hl.1 rfl (lv_room (Nat.le_of_ble_eq_true rfl)) q38 ⟨Nat.zero_le _, Nat.zero_le _⟩
  refine va_calli hrun hS (fun _ _ q => q.elim) (fun _ q => q.elim) (fun r u t H1 locs1 ht hvm hp _ hsz hkp hS1 => ?_)
  have hr : r = nI k := hp
  subst hr
  have hP1 : va_P G.2.2.1 vwCl (ev_ws sh_S G μ1) H1 := hP.kept (fun k9 q9 hq9 => hkp _ (hP k9 q9 hq9).lt (fun q => q.elim))
  refine va_ti (v := .int (nI (swm k))) hx hb k4 hS1 (vp_20 hk) (by rw [nI_clamp (by omega)]) q41 ?_
  have h := h H1 locs1 ls hP1 hS1 hl
  have hsw : ∀ (j : Nat), j < 20 → (swm j = 0 ∧ tgt j = 256) ∨ ∃ off : Int, ¬ (nI (swm j)).toInt < 1 ∧ ¬ 18 < (nI (swm j)).toInt ∧ (#[86, 93, 100, 107, 114, 121, 128, 135, 146, 153, 160, 167, 174, 181, 188, 195, 202, 209] : Array Int)[((nI (swm j)).toInt - 1).toNat]? = some off ∧ (42 : Int) + off = (tgt j : Int) := by
    intro j hj
    rcases (show j = 0 ∨ j = 1 ∨ j = 2 ∨ j = 3 ∨ j = 4 ∨ j = 5 ∨ j = 6 ∨ j = 7 ∨ j = 8 ∨ j = 9 ∨ j = 10 ∨ j = 11 ∨ j = 12 ∨ j = 13 ∨ j = 14 ∨ j = 15 ∨ j = 16 ∨ j = 17 ∨ j = 18 ∨ j = 19 by omega) with rfl | rfl | rfl | rfl | rfl | rfl | rfl | rfl | rfl | rfl | rfl | rfl | rfl | rfl | rfl | rfl | rfl | rfl | rfl | rfl
    · exact Or.inl ⟨rfl, rfl⟩
    · exact Or.inr ⟨86, by decide, by decide, rfl, rfl⟩
    · exact Or.inr ⟨93, by decide, by decide, rfl, rfl⟩
    · exact Or.inr ⟨100, by decide, by decide, rfl, rfl⟩
    · exact Or.inr ⟨107, by decide, by decide, rfl, rfl⟩
    · exact Or.inr ⟨114, by decide, by decide, rfl, rfl⟩
    · exact Or.inr ⟨121, by decide, by decide, rfl, rfl⟩
    · exact Or.inr ⟨128, by decide, by decide, rfl, rfl⟩
    · exact Or.inr ⟨135, by decide, by decide, rfl, rfl⟩
    · exact Or.inr ⟨146, by decide, by decide, rfl, rfl⟩
    · exact Or.inr ⟨153, by decide, by decide, rfl, rfl⟩
    · exact Or.inr ⟨160, by decide, by decide, rfl, rfl⟩
    · exact Or.inr ⟨167, by decide, by decide, rfl, rfl⟩
    · exact Or.inr ⟨174, by decide, by decide, rfl, rfl⟩
    · exact Or.inr ⟨181, by decide, by decide, rfl, rfl⟩
    · exact Or.inr ⟨188, by decide, by decide, rfl, rfl⟩
    · exact Or.inr ⟨195, by decide, by decide, rfl, rfl⟩
    · exact Or.inr ⟨202, by decide, by decide, rfl, rfl⟩
    · exact Or.inr ⟨209, by decide, by decide, rfl, rfl⟩
    · exact Or.inl ⟨rfl, rfl⟩
  rcases hsw k hk with ⟨h1, h2⟩ | ⟨off, h1, h2, h3, h4⟩
  · rw [h2] at h
    rw [h1]
    exact lv_tableOut hx hb q42 (Or.inl (by decide)) (tgt := 256) rfl h
  · exact lv_tableIn hx hb q42 h1 h2 h3 h4 h

end XItemW
