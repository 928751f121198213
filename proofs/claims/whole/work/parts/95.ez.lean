/-! ===== a method's stretch without returns (follows part 07, by program) ===== -/
section Ez
/-- as ev_okM, of a stretch without returns: the method may answer anything -/
def ez_okM (own : String) (y : ev_Mi) (Tb : ev_Tb) (cd : List (Nat × Instr)) : Prop :=
  y.1.cls = own ∧ plainName own = true ∧ ev_okc y.2.1 cd = true ∧ y.2.2.1 = Tb.2.2.2.2.2.1 ∧
  (∃ fl, Tb.1 = ev_lu fl ∧ ev_okF own fl) ∧ (∃ ca, Tb.2.1 = ev_lu ca ∧ ev_okC own ca) ∧ (∀ x ∈ cd, ∀ n, x.2 = .new n → ∀ E, Tb.2.2.1 n = some E → ev_okN own y.2.1 x.1 n E) ∧
  (∀ n v, Tb.2.2.2.1 n = some v → Cond.constant own n v ∈ ev_wd) ∧ (∀ n v, Tb.2.2.2.2.1 n = some v → Cond.constantLong own n v ∈ ev_wd) ∧
  (∀ x ∈ cd, x.2 ≠ .ireturn ∧ x.2 ≠ .return_ ∧ x.2 ≠ .lreturn)
variable {S : ev_S} {G : ev_G}
variable {p : Program} {e : Env} {R : Room} {s : State} {m : MethodId} {args : Array Value} {below : List Frame} {meth : Method} {c : Code} {own : String} {nL d : Nat} {res : ev_R} {z : Bool}
variable {Tb : ev_Tb} {pc : Nat} {l : List (Nat × Value)} {st : List Value} {μ : ev_M} {k : List (Nat × Value) → List Value → ev_M → Prop} {j : Nat → List (Nat × Value) → List Value → ev_M → Prop} {kc : List (Nat × Value) → List Value → ev_M → Prop}
set_option maxHeartbeats 4000000 in
theorem ez_stp_ok {y : ev_Mi} {cd : List (Nat × Instr)} (hM : ez_okM own y Tb cd) (hB : ev_B S G p R s m args meth c y.2.1 own y.2.2.1 d res Tb.2.2.2.2.2.2) {raw : Instr} (hd : decode y.2.1 pc = .ok (raw, ev_il raw)) (hmem : (pc, ev_nm pc raw) ∈ cd)
    (hg1 : ∀ t, ev_nm pc raw = .goto t → 0 ≤ t) (hg2 : ∀ cn t, ev_nm pc raw = .ifCond cn t → 0 ≤ t) (hg3 : ∀ cn t, ev_nm pc raw = .if_icmp cn t → 0 ≤ t)
    (hk : ev_K1 S G p G.1 e R s m args below meth c y.2.2.1 res (pc + ev_il raw) k) (hkc : ev_K1 S G p G.1 e R s m args below meth c y.2.2.1 res (pc + ev_il raw) kc) (hj : ∀ t, ev_K1 S G p G.1 e R s m args below meth c y.2.2.1 res t (j t))
    (h : ev_stp S G Tb d res (ev_nm pc raw) pc l st μ k j kc) : ev_Wk S G p G.1 e R s m args below meth c y.2.2.1 res pc l st μ := by
  obtain ⟨m1, m2, m3, m4, ⟨fl, m6, m7⟩, ⟨ca, m8, m9⟩, m10, m11, m12, m13⟩ := hM
  cases raw with
  | iload_n n => exact ev_s_iload_n hB m4.symm hd hk h
  | iload n => exact ev_s_iload hB m4.symm hd hk h
  | lload_n n => exact ev_s_lload_n hB m4.symm hd hk h
  | lload n => exact ev_s_lload hB m4.symm hd hk h
  | aload_n n => exact ev_s_aload_n hB m4.symm hd hk h
  | aload n => exact ev_s_aload hB m4.symm hd hk h
  | istore_n n => exact ev_s_istore_n hB m4.symm hd hk h
  | istore n => exact ev_s_istore hB m4.symm hd hk h
  | lstore_n n => exact ev_s_lstore_n hB m4.symm hd hk h
  | lstore n => exact ev_s_lstore hB m4.symm hd hk h
  | astore_n n => exact ev_s_astore_n hB m4.symm hd hk h
  | astore n => exact ev_s_astore hB m4.symm hd hk h
  | iinc n q => exact ev_s_iinc hB m4.symm hd hk h
  | iconst n => exact ev_s_iconst hB m4.symm hd hk h
  | bipush n => exact ev_s_bipush hB m4.symm hd hk h
  | sipush n => exact ev_s_sipush hB m4.symm hd hk h
  | lconst n => exact ev_s_lconst hB m4.symm hd hk h
  | ldc n => exact ev_s_ldc hB m4.symm m11 hd hk h
  | ldc_w n => exact ev_s_ldc_w hB m4.symm m11 hd hk h
  | ldc2_w n => exact ev_s_ldc2_w hB m4.symm m12 hd hk h
  | iadd => exact ev_s_iadd hB m4.symm hd hk h
  | isub => exact ev_s_isub hB m4.symm hd hk h
  | imul => exact ev_s_imul hB m4.symm hd hk h
  | iand => exact ev_s_iand hB m4.symm hd hk h
  | ior => exact ev_s_ior hB m4.symm hd hk h
  | ishl => exact ev_s_ishl hB m4.symm hd hk h
  | ishr => exact ev_s_ishr hB m4.symm hd hk h
  | ladd => exact ev_s_ladd hB m4.symm hd hk h
  | lsub => exact ev_s_lsub hB m4.symm hd hk h
  | lmul => exact ev_s_lmul hB m4.symm hd hk h
  | lor => exact ev_s_lor hB m4.symm hd hk h
  | idiv => exact ev_s_idiv hB m4.symm hd hk h
  | irem => exact ev_s_irem hB m4.symm hd hk h
  | ineg => exact ev_s_ineg hB m4.symm hd hk h
  | lcmp => exact ev_s_lcmp hB m4.symm hd hk h
  | i2l => exact ev_s_i2l hB m4.symm hd hk h
  | l2i => exact ev_s_l2i hB m4.symm hd hk h
  | i2b => exact ev_s_i2b hB m4.symm hd hk h
  | i2c => exact ev_s_i2c hB m4.symm hd hk h
  | iushr => exact ev_s_iushr hB m4.symm hd hk h
  | lushr => exact ev_s_lushr hB m4.symm hd hk h
  | lshl => exact ev_s_lshl hB m4.symm hd hk h
  | dup => exact ev_s_dup hB m4.symm hd hk h
  | pop => exact ev_s_pop hB m4.symm hd hk h
  | dup2 => exact ev_s_dup2 hB m4.symm hd hk h
  | goto off => exact ev_s_goto hB m4.symm (hg1 _ rfl) hj hd hk h
  | ifCond cn off => cases cn with
    | eq => exact ev_s_if_eq hB m4.symm (hg2 _ _ rfl) hj hd hk h
    | ne => exact ev_s_if_ne hB m4.symm (hg2 _ _ rfl) hj hd hk h
    | lt => exact ev_s_if_lt hB m4.symm (hg2 _ _ rfl) hj hd hk h
    | ge => exact ev_s_if_ge hB m4.symm (hg2 _ _ rfl) hj hd hk h
    | gt => exact ev_s_if_gt hB m4.symm (hg2 _ _ rfl) hj hd hk h
    | le => exact ev_s_if_le hB m4.symm (hg2 _ _ rfl) hj hd hk h
  | if_icmp cn off => cases cn with
    | eq => exact ev_s_icmp_eq hB m4.symm (hg3 _ _ rfl) hj hd hk h
    | ne => exact ev_s_icmp_ne hB m4.symm (hg3 _ _ rfl) hj hd hk h
    | lt => exact ev_s_icmp_lt hB m4.symm (hg3 _ _ rfl) hj hd hk h
    | ge => exact ev_s_icmp_ge hB m4.symm (hg3 _ _ rfl) hj hd hk h
    | gt => exact ev_s_icmp_gt hB m4.symm (hg3 _ _ rfl) hj hd hk h
    | le => exact ev_s_icmp_le hB m4.symm (hg3 _ _ rfl) hj hd hk h
  | getfield n => exact ev_s_getfield hB m4.symm m6 m7 hd hk h
  | putfield n => exact ev_s_putfield hB m4.symm m6 m7 hd hk h
  | iaload => exact ev_s_iaload hB hd hk h
  | laload => exact ev_s_laload hB hd hk h
  | aaload => exact ev_s_aaload hB hd hk h
  | baload => exact ev_s_baload hB hd hk h
  | iastore => exact ev_s_iastore hB hd hk h
  | bastore => exact ev_s_bastore hB hd hk h
  | lastore => exact ev_s_lastore hB hd hk h
  | arraylength => exact ev_s_arraylength hB hd hk h
  | invokevirtual n => exact ev_s_invokevirtual hB m8 m9 hkc hd hk h
  | invokestatic n => exact ev_s_invokestatic hB m8 m9 hkc hd hk h
  | ireturn => exact absurd rfl (m13 _ hmem).1
  | lreturn => exact absurd rfl (m13 _ hmem).2.2
  | return_ => exact absurd rfl (m13 _ hmem).2.1
  | new n => exact ev_s_new hB (fun E hE => m10 _ hmem n rfl E hE) hd h
  | _ => exact False.elim h
theorem ez_run_ok {y : ev_Mi} {cd : List (Nat × Instr)} {J : ev_J} (hM : ez_okM own y Tb cd) (hB : ev_B S G p R s m args meth c y.2.1 own y.2.2.1 d res Tb.2.2.2.2.2.2) (hJ : ev_hJ S G p e R s m args below meth c y.2.2.1 res J) :
    ∀ (n : Nat) (is : List (Nat × Instr)) (l : List (Nat × Value)) (st : List Value) (μ : ev_M) (pc : Nat), ev_okc y.2.1 is = true → (∀ x ∈ is, x ∈ cd) → ev_hp is pc → ev_run S G Tb d J cd res n is l st μ → ev_Wk S G p G.1 e R s m args below meth c y.2.2.1 res pc l st μ := by
  intro n
  induction n with
  | zero =>
    intro is l st μ pc _ _ _ h
    rw [ev_run_0] at h
    exact h.elim
  | succ n ih =>
    intro is l st μ pc hok hsub hp h
    cases is with
    | nil =>
      rw [ev_run_n] at h
      exact h.elim
    | cons x is =>
      obtain ⟨q, i⟩ := x
      have hq : q = pc := hp
      subst hq
      rw [ev_run_c] at h
      cases hj : ev_fj J q with
      | some r =>
        obtain ⟨ks, P⟩ := r
        rw [hj] at h
        obtain ⟨vs, h1, h2⟩ := h
        exact hJ q ks P hj l st μ vs h1 h2
      | none =>
        rw [hj] at h
        obtain ⟨raw, hd, hnm, hhp, hg1, hg2, hg3⟩ := ev_okc_hd hok
        subst hnm
        have hok2 := ev_okc_tail hok
        have hsub2 : ∀ x ∈ is, x ∈ cd := fun x hx => hsub x (List.mem_cons_of_mem _ hx)
        refine ez_stp_ok hM hB hd (hsub _ List.mem_cons_self) hg1 hg2 hg3 (fun l st μ h9 => ih is l st μ _ hok2 hsub2 hhp h9) (fun l st μ h9 => ih is l st μ _ hok2 hsub2 hhp h9) (fun t l st μ h9 => ih (ev_at cd t) l st μ t (ev_okc_at hM.2.2.1) ev_at_sub ev_hp_at h9) h
theorem ez_run {y : ev_Mi} {cd : List (Nat × Instr)} {J : ev_J} (hM : ez_okM own y Tb cd) (hB : ev_B S G p R s m args meth c y.2.1 own y.2.2.1 y.2.2.2.2 res Tb.2.2.2.2.2.2) (hJ : ev_hJ S G p e R s m args below meth c y.2.2.1 res J)
    (n pc : Nat) (h : ev_run S G Tb y.2.2.2.2 J cd res n (ev_at cd pc) l st μ) : ev_Wk S G p G.1 e R s m args below meth c y.2.2.1 res pc l st μ :=
  ez_run_ok hM hB hJ n _ l st μ pc (ev_okc_at hM.2.2.1) ev_at_sub ev_hp_at h
theorem ez_tri {y : ev_Mi} {args : List Value} (hcls : y.1.cls = own) (hpl : plainName own = true) (hok : ev_ok S G) (hargs : (lg_sl (args.map (ev_tr G.2.1))).length ≤ y.2.2.1)
    (h : ∀ (p : Program) (e : Env) (R : Room) (s : State) (m : MethodId) (below : List Frame) (meth : Method) (c : Code), ev_B S G p R s m (args.map (ev_tr G.2.1)).toArray meth c y.2.1 own y.2.2.1 y.2.2.2.2 res z → meth.sig.returnType = y.2.2.2.1 → ev_Wk S G p G.1 e R s m (args.map (ev_tr G.2.1)).toArray below meth c y.2.2.1 res 0 (lv_args 0 args) [] μ) : ev_T S G y args μ res := by
  refine vx_ofW (cc := y.2.1) (maxL := y.2.2.1) (ret := y.2.2.2.1) (by rw [hcls]; exact hpl) rfl ?_
  intro p e s m args9 below meth c s₁ B hml hex hv
  obtain ⟨rfl, hW, hH⟩ := hv
  have hB : ev_B S G p { frames := y.2.2.2.2, cells := (ev_co res).1, slots := (ev_co res).2, locals := 40 * y.2.2.2.2 } s m (args.map (ev_tr G.2.1)).toArray meth c y.2.1 own y.2.2.1 y.2.2.2.2 res z :=
    ⟨hok, B.exec, B.bytes, hml, by rw [← hcls]; exact findClass_of_methodNamed B.named, hW, hH.2.1, hH.2.2, B.notSynchronized, rfl, hex⟩
  have hl := lv_entry (args.map (ev_tr G.2.1)) (n := y.2.2.1) hargs
  rw [lg_entry_eq]
  generalize (lg_sl (args.map (ev_tr G.2.1)) ++ List.replicate (y.2.2.1 - (lg_sl (args.map (ev_tr G.2.1))).length) Slot.unset).toArray = ls at hl ⊢
  rw [ev_args_ml] at hl
  exact h p e _ s m below meth c hB B.returns s.heap [] ls hH.1 va_S.rf hl
end Ez
