/-! ===== the evaluator with more instructions: they stand at cut points ===== -/
section ExDefs
def ar_ws : List Cond := [.native arraycopyName, .static arraycopyName, .initialized "java/lang/System"]
theorem ar_in : ∀ w ∈ ar_ws, w ∈ ev_wd := by decide +kernel
def cpyL (μ : ev_M) (a i b j n : Nat) : ev_M := (μ.1, (fun c x => if c = b ∧ j ≤ x ∧ x < j + n then μ.2.1 a (i + (x - j)) else μ.2.1 c x), μ.2.2)
def cpyR (μ : ev_M) (a i b j n : Nat) : ev_M := (μ.1, μ.2.1, (fun c x => if c = b ∧ j ≤ x ∧ x < j + n then μ.2.2 a (i + (x - j)) else μ.2.2 c x))
/-- where arraycopy is called -/
abbrev ex_X : Type := Nat → Bool
def ex_sp (S : ev_S) (G : ev_G) (X : ex_X) (Tb : ev_Tb) (d : Nat) (res : ev_R) (i : Instr) (pc : Nat) (l : List (Nat × Value)) (st : List Value) (μ : ev_M)
    (k : List (Nat × Value) → List Value → ev_M → Prop) (j : Nat → List (Nat × Value) → List Value → ev_M → Prop) (kc : List (Nat × Value) → List Value → ev_M → Prop) : Prop :=
  match i with
  | .invokestatic n => match X n with
    | true => match st with
      | .int c :: .int dp :: .ref b :: .int sp :: .ref a :: r => ev_sz r ≤ 8 ∧ 0 < d ∧ a < ev_nc S ∧ b < ev_nc S ∧ ¬ sp < 0 ∧ ¬ dp < 0 ∧ ¬ c < 0 ∧ sp.toNatClampNeg + c.toNatClampNeg ≤ ev_ln S a ∧ dp.toNatClampNeg + c.toNatClampNeg ≤ ev_ln S b ∧
        ((ev_kd S a = 10 ∧ ev_kd S b = 10 ∧ k l r (cpy μ a sp.toNatClampNeg b dp.toNatClampNeg c.toNatClampNeg)) ∨ (ev_kd S a = 13 ∧ ev_kd S b = 13 ∧ k l r (cpyL μ a sp.toNatClampNeg b dp.toNatClampNeg c.toNatClampNeg)) ∨
          (ev_kd S a = 14 ∧ ev_kd S b = 14 ∧ (∀ i, i < c.toNatClampNeg → μ.2.2 a (sp.toNatClampNeg + i) < ev_nc S ∧ ev_kd S (μ.2.2 a (sp.toNatClampNeg + i)) = 2) ∧ k l r (cpyR μ a sp.toNatClampNeg b dp.toNatClampNeg c.toNatClampNeg)))
      | _ => False
    | false => ev_stp S G Tb d res i pc l st μ k j kc
  | .aastore => match st with
    | .ref v :: .int x :: .ref a :: r => a < ev_nc S ∧ ev_kd S a = 14 ∧ v < ev_nc S ∧ ev_kd S v = 2 ∧ vp_in x (ev_ln S a) ∧ k l r (μ.1, μ.2.1, ev_up μ.2.2 a x.toNatClampNeg v)
    | _ => False
  | _ => ev_stp S G Tb d res i pc l st μ k j kc
end ExDefs
section ExSound
variable {S : ev_S} {G : ev_G}
variable {p : Program} {l0 : Launch} {e : Env} {R : Room} {s : State} {m : MethodId} {args : Array Value} {below : List Frame} {meth : Method} {c : Code} {cc : ByteArray} {own : String} {nL d : Nat} {res : ev_R} {z : Bool}
variable {Tb : ev_Tb} {pc : Nat} {l : List (Nat × Value)} {st : List Value} {μ : ev_M} {k : List (Nat × Value) → List Value → ev_M → Prop} {j : Nat → List (Nat × Value) → List Value → ev_M → Prop} {kc : List (Nat × Value) → List Value → ev_M → Prop}
theorem ex_self (vm : Vm) (c : ClassId) : vm.assignable c c = true := by
  show vm.assignableAux (255 + 1) c c = true
  rw [Vm.assignableAux]
  simp only [beq_self_eq_true, Bool.true_or]
theorem ar_w (hB : ev_B S G p R s m args meth c cc own nL d res z) : (Cond.native arraycopyName).before args s = true ∧ (Cond.static arraycopyName).before args s = true ∧ (Cond.initialized "java/lang/System").before args s = true :=
  ⟨ev_B_w hB _ (ar_in _ (by unfold ar_ws; exact List.mem_cons_self)), ev_B_w hB _ (ar_in _ (by unfold ar_ws; exact List.mem_cons_of_mem _ List.mem_cons_self)), ev_B_w hB _ (ar_in _ (by unfold ar_ws; exact List.mem_cons_of_mem _ (List.mem_cons_of_mem _ List.mem_cons_self)))⟩
theorem va_cpy_1 {a b i j n : Nat} : va_cpy (μ.1 a) (μ.1 b) i j n = (cpy μ a i b j n).1 b := funext fun x => by
  show (if j ≤ x ∧ x < j + n then μ.1 a (i + (x - j)) else μ.1 b x) = if b = b ∧ j ≤ x ∧ x < j + n then μ.1 a (i + (x - j)) else μ.1 b x
  by_cases h : j ≤ x ∧ x < j + n
  · rw [if_pos h, if_pos ⟨rfl, h⟩]
  · rw [if_neg h, if_neg (fun q => h q.2)]
theorem va_cpy_2 {a b i j n : Nat} : va_cpy (μ.2.1 a) (μ.2.1 b) i j n = (cpyL μ a i b j n).2.1 b := funext fun x => by
  show (if j ≤ x ∧ x < j + n then μ.2.1 a (i + (x - j)) else μ.2.1 b x) = if b = b ∧ j ≤ x ∧ x < j + n then μ.2.1 a (i + (x - j)) else μ.2.1 b x
  by_cases h : j ≤ x ∧ x < j + n
  · rw [if_pos h, if_pos ⟨rfl, h⟩]
  · rw [if_neg h, if_neg (fun q => h q.2)]
theorem cpy_ne {a i b j n q : Nat} (h : q ≠ b) : (cpy μ a i b j n).1 q = μ.1 q := funext fun x => if_neg (fun z => h z.1)
theorem cpyL_ne {a i b j n q : Nat} (h : q ≠ b) : (cpyL μ a i b j n).2.1 q = μ.2.1 q := funext fun x => if_neg (fun z => h z.1)
theorem cpyR_ne {a i b j n q : Nat} (h : q ≠ b) : (cpyR μ a i b j n).2.2 q = μ.2.2 q := funext fun x => if_neg (fun z => h z.1)
theorem ex_s_copy (hB : ev_B S G p R s m args meth c cc own nL d res z) {n : Nat} (hlk : Cond.methodLink own n arraycopyName ∈ ev_wd) (hd : decode cc pc = .ok (.invokestatic n, 3)) (hk : ev_K1 S G p l0 e R s m args below meth c nL res (pc + 3) k) {X : ex_X} (hX : X n = true)
    (h : ex_sp S G X Tb d res (.invokestatic n) pc l st μ k j kc) : ev_Wk S G p l0 e R s m args below meth c nL res pc l st μ := by
  intro H locs ls hP hS hl
  obtain ⟨hok, hx, hb, hml, hown, hW0, hlo, hlow, hlk2, hR, hex⟩ := id hB
  obtain ⟨w1, w2, w3⟩ := ar_w hB
  simp only [ex_sp, hX] at h
  split at h
  · rename_i cn dp b sp a r
    obtain ⟨h1, h2, h3, h4, h5, h6, h7, h8, h9, h10⟩ := h
    have hf : 1 ≤ R.frames := by rw [hR]; exact h2
    have hlc : ((r.map (ev_tr G.2.1)).map fun v => v.category).sum + (nativeFrameWords "java/lang/System" "arraycopy" 5 + 11) ≤ R.locals := by
      rw [ev_sz_eq, hR]
      have : nativeFrameWords "java/lang/System" "arraycopy" 5 ≤ 20 := by decide
      show _ ≤ 40 * d
      omega
    rcases h10 with ⟨k1, k2, h11⟩ | ⟨k1, k2, h11⟩ | ⟨k1, k2, k3, h11⟩
    · refine va_copyi hx hb (by rw [hml]; exact hl.1.symm) hown (ev_B_w hB _ hlk) w1 w2 w3 (ev_B_K hB) hP (ev_D hok μ) hS a b 0 0 (by rw [ev_ws_at h3, ev_E_10 k1]) (by rw [ev_ws_at h4, ev_E_10 k2]) rfl rfl rfl h5 h6 h7 h8 h9 (fun _ _ => rfl) hf hlc hd (fun H1 locs1 hP1 hD1 hS1 => ?_)
      refine hk _ _ _ h11 H1 locs1 ls ?_ hS1 hl
      rw [ev_ws_set h4 (μ' := cpy μ a sp.toNatClampNeg b dp.toNatClampNeg cn.toNatClampNeg) (by rw [ev_E_10 k2, va_cpy_1]) (fun q hq => ev_E_eq (cpy_ne hq) rfl rfl)] at hP1
      exact hP1
    · refine va_copyl hx hb (by rw [hml]; exact hl.1.symm) hown (ev_B_w hB _ hlk) w1 w2 w3 (ev_B_K hB) hP (ev_D hok μ) hS a b 3 3 (by rw [ev_ws_at h3, ev_E_13 k1]) (by rw [ev_ws_at h4, ev_E_13 k2]) rfl rfl rfl h5 h6 h7 h8 h9 (fun _ _ => rfl) hf hlc hd (fun H1 locs1 hP1 hD1 hS1 => ?_)
      refine hk _ _ _ h11 H1 locs1 ls ?_ hS1 hl
      have e1 : ev_E S G (cpyL μ a sp.toNatClampNeg b dp.toNatClampNeg cn.toNatClampNeg) b = .inl (G.2.2.2.1 13, ev_ln S b, .inr (.inl (va_cpy (μ.2.1 a) (μ.2.1 b) sp.toNatClampNeg dp.toNatClampNeg cn.toNatClampNeg))) := by rw [ev_E_13 k2, va_cpy_2]
      rw [ev_ws_set (μ := μ) h4 e1 (fun q hq => ev_E_eq rfl (cpyL_ne hq) rfl)] at hP1
      exact hP1
    · refine va_copyq (C := RX4) (E0 := RX4) (E1 := RX4) hx hb (by rw [hml]; exact hl.1.symm) hown (ev_B_w hB _ hlk) w1 w2 w3 (ev_B_K hB) hP (ev_D hok μ) hS a b 4 4 (by rw [ev_ws_at h3, ev_E_14 k1]) (by rw [ev_ws_at h4, ev_E_14 k2]) rfl rfl h5 h6 h7 h8 h9 (fun i hi y hy => ?_) (fun comp c0 hc1 hc2 => ?_) hf hlc hd (fun H1 locs1 hP1 hD1 hS1 => ?_)
      · cases hy
        obtain ⟨q1, q2⟩ := k3 i hi
        exact va_recv (ev_B_K hB) hP (q0 := μ.2.2 a (sp.toNatClampNeg + i)) (ci := 2) (q := (RX4, TX4, 18)) rfl (by rw [ev_ws_at q1, ev_E_obj q2 (by omega)])
      · rw [hc1] at hc2
        cases hc2
        exact ex_self _ _
      · refine hk _ _ _ h11 H1 locs1 ls ?_ hS1 hl
        have e1 : ev_E S G (cpyR μ a sp.toNatClampNeg b dp.toNatClampNeg cn.toNatClampNeg) b = .inl (G.2.2.2.1 14, ev_ln S b, .inr (.inr (.inr (.inr (va_cpy (fun k => some (G.2.1 (μ.2.2 a k))) (fun k => some (G.2.1 (μ.2.2 b k))) sp.toNatClampNeg dp.toNatClampNeg cn.toNatClampNeg))))) := by
          rw [ev_E_14 k2]
          have e2 : (fun k => some (G.2.1 ((cpyR μ a sp.toNatClampNeg b dp.toNatClampNeg cn.toNatClampNeg).2.2 b k))) = va_cpy (fun k => some (G.2.1 (μ.2.2 a k))) (fun k => some (G.2.1 (μ.2.2 b k))) sp.toNatClampNeg dp.toNatClampNeg cn.toNatClampNeg := funext fun x => by
            show some (G.2.1 (if b = b ∧ dp.toNatClampNeg ≤ x ∧ x < dp.toNatClampNeg + cn.toNatClampNeg then μ.2.2 a (sp.toNatClampNeg + (x - dp.toNatClampNeg)) else μ.2.2 b x)) = if dp.toNatClampNeg ≤ x ∧ x < dp.toNatClampNeg + cn.toNatClampNeg then some (G.2.1 (μ.2.2 a (sp.toNatClampNeg + (x - dp.toNatClampNeg)))) else some (G.2.1 (μ.2.2 b x))
            by_cases hq : dp.toNatClampNeg ≤ x ∧ x < dp.toNatClampNeg + cn.toNatClampNeg
            · rw [if_pos hq, if_pos ⟨rfl, hq⟩]
            · rw [if_neg hq, if_neg (fun q => hq q.2)]
          rw [e2]
        rw [ev_ws_set (μ := μ) h4 e1 (fun q hq => ev_E_eq rfl rfl (cpyR_ne hq))] at hP1
        exact hP1
  · exact h.elim
theorem ex_s_aastore (hB : ev_B S G p R s m args meth c cc own nL d res z) (hd : decode cc pc = .ok (.aastore, 1)) (hk : ev_K1 S G p l0 e R s m args below meth c nL res (pc + 1) k) {X : ex_X}
    (h : ex_sp S G X Tb d res .aastore pc l st μ k j kc) : ev_Wk S G p l0 e R s m args below meth c nL res pc l st μ := by
  intro H locs ls hP hS hl
  obtain ⟨hok, hx, hb, hml, hown, hW0, hlo, hlow, hlk2, hR, hex⟩ := id hB
  simp only [ex_sp] at h
  split at h
  · rename_i v x a r
    obtain ⟨h1, h2, h3, h4, h5, h6⟩ := h
    refine va_astq (r := (RX4, TX4, 18)) hx hb (ev_B_K hB) hP (ev_D hok μ) hS a 4 v 2 (by rw [ev_ws_at h1, ev_E_14 h2]) rfl (by rw [ev_ws_at h3, ev_E_obj h4 (by omega)]) rfl h5 hd (fun H1 locs1 hP1 hD1 hS1 => ?_)
    refine hk _ _ _ h6 H1 locs1 ls ?_ hS1 hl
    have e1 : ev_E S G (μ.1, μ.2.1, ev_up μ.2.2 a x.toNatClampNeg v) a = .inl (G.2.2.2.1 14, ev_ln S a, .inr (.inr (.inr (.inr (va_up (fun k => some (G.2.1 (μ.2.2 a k))) x.toNatClampNeg (some (G.2.1 v))))))) := by
      rw [ev_E_14 h2]
      have e2 : (fun k => some (G.2.1 (ev_up μ.2.2 a x.toNatClampNeg v a k))) = va_up (fun k => some (G.2.1 (μ.2.2 a k))) x.toNatClampNeg (some (G.2.1 v)) := funext fun y => by
        show some (G.2.1 (if a = a ∧ y = x.toNatClampNeg then v else μ.2.2 a y)) = if y = x.toNatClampNeg then some (G.2.1 v) else some (G.2.1 (μ.2.2 a y))
        by_cases hq : y = x.toNatClampNeg
        · rw [if_pos hq, if_pos ⟨rfl, hq⟩]
        · rw [if_neg hq, if_neg (fun q => hq q.2)]
      rw [e2]
    rw [ev_ws_set (μ := μ) h1 e1 (fun q hq => ev_E_eq rfl rfl (ev_up_ne hq))] at hP1
    exact hP1
  · exact h.elim
end ExSound
