/-! ===== the evaluator with more instructions: the whole ===== -/
section Ex2
variable {S : ev_S} {G : ev_G} {own : String} {Tb : ev_Tb} {res : ev_R} {μ : ev_M}
variable {p : Program} {e : Env} {R : Room} {s : State} {m : MethodId} {args : Array Value} {below : List Frame} {meth : Method} {c : Code}
def ex_go (S : ev_S) (G : ev_G) (X : ex_X) (Tb : ev_Tb) (d : Nat) (J : ev_J) (cd : List (Nat × Instr)) (res : ev_R) (n : Nat) (is : List (Nat × Instr)) (l : List (Nat × Value)) (st : List Value) (μ : ev_M) : Prop := match is with
  | [] => False
  | (pc, i) :: is => ex_sp S G X Tb d res i pc l st μ (ev_run S G Tb d J cd res n is) (fun t => ev_run S G Tb d J cd res n (ev_at cd t)) (ev_run S G Tb d J cd res n (ev_hl is))
theorem ex_sp_else {X : ex_X} {d pc : Nat} {i : Instr} {l : List (Nat × Value)} {st : List Value} {k : List (Nat × Value) → List Value → ev_M → Prop} {j : Nat → List (Nat × Value) → List Value → ev_M → Prop} {kc : List (Nat × Value) → List Value → ev_M → Prop}
    (h1 : ∀ n, i ≠ .invokestatic n) (h2 : i ≠ .aastore) (h : ex_sp S G X Tb d res i pc l st μ k j kc) : ev_stp S G Tb d res i pc l st μ k j kc := by
  unfold ex_sp at h
  split at h
  · rename_i n; exact absurd rfl (h1 n)
  · exact absurd rfl h2
  · exact h
theorem nm_is {pc n : Nat} {raw : Instr} (h : ev_nm pc raw = .invokestatic n) : raw = .invokestatic n := by
  unfold ev_nm at h
  split at h <;> first | exact h | cases h
theorem nm_as {pc : Nat} {raw : Instr} (h : ev_nm pc raw = .aastore) : raw = .aastore := by
  unfold ev_nm at h
  split at h <;> first | exact h | cases h
theorem ex_go_ok {y : ev_Mi} {cd : List (Nat × Instr)} {J : ev_J} {X : ex_X} (hX : ∀ n, X n = true → Cond.methodLink own n arraycopyName ∈ ev_wd) (hM : ev_okM own y Tb cd) (hB : ev_B S G p R s m args meth c y.2.1 own y.2.2.1 y.2.2.2.2 res Tb.2.2.2.2.2.2) (hret : meth.sig.returnType = y.2.2.2.1) (hJ : ev_hJ S G p e R s m args below meth c y.2.2.1 res J)
    (n : Nat) (l : List (Nat × Value)) (st : List Value) (μ : ev_M) (pc : Nat) (h : ex_go S G X Tb y.2.2.2.2 J cd res n (ev_at cd pc) l st μ) : ev_Wk S G p G.1 e R s m args below meth c y.2.2.1 res pc l st μ := by
  have hok : ev_okc y.2.1 (ev_at cd pc) = true := ev_okc_at hM.2.2.1
  have hsub : ∀ x ∈ ev_at cd pc, x ∈ cd := ev_at_sub
  have hp : ev_hp (ev_at cd pc) pc := ev_hp_at
  generalize ev_at cd pc = is at h hok hsub hp
  cases is with
  | nil => exact h.elim
  | cons x is =>
    obtain ⟨q, i⟩ := x
    have hq : q = pc := hp
    subst hq
    obtain ⟨raw, hd, hnm, hhp, hg1, hg2, hg3⟩ := ev_okc_hd hok
    subst hnm
    have hok2 := ev_okc_tail hok
    have hsub2 : ∀ x ∈ is, x ∈ cd := fun x hx => hsub x (List.mem_cons_of_mem _ hx)
    have hk : ev_K1 S G p G.1 e R s m args below meth c y.2.2.1 res (q + ev_il raw) (ev_run S G Tb y.2.2.2.2 J cd res n is) := fun l st μ h9 => ev_run_ok hM hB hret hJ n is l st μ _ hok2 hsub2 hhp h9
    have h : ex_sp S G X Tb y.2.2.2.2 res (ev_nm q raw) q l st μ (ev_run S G Tb y.2.2.2.2 J cd res n is) (fun t => ev_run S G Tb y.2.2.2.2 J cd res n (ev_at cd t)) (ev_run S G Tb y.2.2.2.2 J cd res n (ev_hl is)) := h
    have plain : ev_stp S G Tb y.2.2.2.2 res (ev_nm q raw) q l st μ (ev_run S G Tb y.2.2.2.2 J cd res n is) (fun t => ev_run S G Tb y.2.2.2.2 J cd res n (ev_at cd t)) (ev_run S G Tb y.2.2.2.2 J cd res n (ev_hl is)) → ev_Wk S G p G.1 e R s m args below meth c y.2.2.1 res q l st μ := fun h =>
      ev_stp_ok hM hB hret hd (hsub _ List.mem_cons_self) hg1 hg2 hg3 hk (fun l st μ h9 => ev_run_ok hM hB hret hJ n is l st μ _ hok2 hsub2 hhp h9) (fun t l st μ h9 => ev_run_ok hM hB hret hJ n (ev_at cd t) l st μ t (ev_okc_at hM.2.2.1) ev_at_sub ev_hp_at h9) h
    by_cases h1 : ∃ n', ev_nm q raw = .invokestatic n'
    · obtain ⟨n', h1⟩ := h1
      have e1 := nm_is h1
      subst e1
      cases hx : X n' with
      | true => exact ex_s_copy hB (hX n' hx) hd hk hx h
      | false =>
        refine plain ?_
        have h : (match X n' with | true => _ | false => ev_stp S G Tb y.2.2.2.2 res (.invokestatic n') q l st μ _ _ _) := h
        rw [hx] at h
        exact h
    · by_cases h2 : ev_nm q raw = .aastore
      · have e1 := nm_as h2
        subst e1
        exact ex_s_aastore hB hd hk h
      · exact plain (ex_sp_else (fun n' z => h1 ⟨n', z⟩) h2 h)
theorem ex_triJ {y : ev_Mi} {cd : List (Nat × Instr)} {args : List Value} {X : ex_X} (hX : ∀ n, X n = true → Cond.methodLink own n arraycopyName ∈ ev_wd) (hok : ev_ok S G) (hM : ev_okM own y Tb cd) (hargs : (lg_sl (args.map (ev_tr G.2.1))).length ≤ y.2.2.1) (ks : List (Nat × List Nat)) (n : Nat) (Inv : Nat → Nat → List Value → List Value → ev_M → Prop)
    (hstep : ∀ (mm : Nat) (q : Nat × List Nat), q ∈ ks → ∀ vs st μ, Inv mm q.1 vs st μ → ex_go S G X Tb y.2.2.2.2 (ev_Jof (fun pc vs st μ => ∃ m', m' < mm ∧ Inv m' pc vs st μ) ks) cd res n (ev_at cd q.1) (q.2.zip vs) st μ)
    (h0 : ev_run S G Tb y.2.2.2.2 (ev_Jof (fun pc vs st μ => ∃ m', Inv m' pc vs st μ) ks) cd res n (ev_at cd 0) (lv_args 0 args) [] μ) : ev_T S G y args μ res := by
  obtain ⟨e1, e2, -, -⟩ := id hM
  refine vx_ofW (cc := y.2.1) (maxL := y.2.2.1) (ret := y.2.2.2.1) (by rw [e1]; exact e2) rfl ?_
  intro p e s m args9 below meth c s₁ B hml hex hv
  obtain ⟨rfl, hW, hH⟩ := hv
  have hB : ev_B S G p { frames := y.2.2.2.2, cells := (ev_co res).1, slots := (ev_co res).2, locals := 40 * y.2.2.2.2 } s m (args.map (ev_tr G.2.1)).toArray meth c y.2.1 own y.2.2.1 y.2.2.2.2 res Tb.2.2.2.2.2.2 :=
    ⟨hok, B.exec, B.bytes, hml, by rw [← e1]; exact findClass_of_methodNamed B.named, hW, hH.2.1, hH.2.2, B.notSynchronized, rfl, hex⟩
  have hl := lv_entry (args.map (ev_tr G.2.1)) (n := y.2.2.1) hargs
  rw [lg_entry_eq]
  generalize (lg_sl (args.map (ev_tr G.2.1)) ++ List.replicate (y.2.2.1 - (lg_sl (args.map (ev_tr G.2.1))).length) Slot.unset).toArray = ls at hl ⊢
  rw [ev_args_ml] at hl
  have hret : meth.sig.returnType = y.2.2.2.1 := B.returns
  have key : ∀ (M mm : Nat), mm < M → ∀ (q : Nat × List Nat), q ∈ ks → ∀ vs st μ l, Inv mm q.1 vs st μ → ev_pk l q.2 = some vs → ev_Wk S G p G.1 e { frames := y.2.2.2.2, cells := (ev_co res).1, slots := (ev_co res).2, locals := 40 * y.2.2.2.2 } s m (args.map (ev_tr G.2.1)).toArray below meth c y.2.2.1 res q.1 l st μ := by
    intro M
    induction M with
    | zero => exact fun mm hmm => absurd hmm (Nat.not_lt_zero _)
    | succ M ih =>
      intro mm hmm q hq vs st μ l hI hpk H locs ls9 hP hS hl9
      refine ex_go_ok (J := ev_Jof (fun pc vs st μ => ∃ m', m' < mm ∧ Inv m' pc vs st μ) ks) hX hM hB hret ?_ n _ st μ q.1 (hstep mm q hq vs st μ hI) H locs ls9 hP hS (ev_pk_has hl9 hpk)
      intro pc kk P hP2 l2 st2 μ2 vs2 h1 h2
      obtain ⟨hin, rfl⟩ := ev_fj_of hP2
      obtain ⟨m', hm', hI'⟩ := h2
      exact ih m' (by omega) (pc, kk) hin vs2 st2 μ2 l2 hI' h1
  have hW1 : ev_Wk S G p G.1 e { frames := y.2.2.2.2, cells := (ev_co res).1, slots := (ev_co res).2, locals := 40 * y.2.2.2.2 } s m (args.map (ev_tr G.2.1)).toArray below meth c y.2.2.1 res 0 (lv_args 0 args) [] μ := by
    refine ev_run_ok (J := ev_Jof (fun pc vs st μ => ∃ m', Inv m' pc vs st μ) ks) hM hB hret ?_ n _ _ _ _ 0 (ev_okc_at hM.2.2.1) ev_at_sub ev_hp_at h0
    intro pc kk P hP2 l2 st2 μ2 vs2 h1 h2
    obtain ⟨hin, rfl⟩ := ev_fj_of hP2
    obtain ⟨m', hI'⟩ := h2
    exact key (m' + 1) m' (Nat.lt_succ_self _) (pc, kk) hin vs2 st2 μ2 l2 hI' h1
  exact hW1 s.heap [] ls hH.1 va_S.rf hl
/-- cut points in a row, each told whole: locals, stack, contents -/
def lpX (F T : Nat → List Value) (M : Nat → ev_M) (ms : Nat → Nat) (mm pc : Nat) (vs st : List Value) (μ : ev_M) : Prop := vs = F pc ∧ st = T pc ∧ μ = M pc ∧ mm = ms pc
theorem lpX_nx {F T : Nat → List Value} {M : Nat → ev_M} {ms : Nat → Nat} {mm pc : Nat} {vs st : List Value} {μ : ev_M} (h : ms pc < mm) (hv : vs = F pc) (ht : st = T pc) (hm : μ = M pc) : ∃ m', m' < mm ∧ lpX F T M ms m' pc vs st μ := ⟨_, h, hv, ht, hm, rfl⟩
theorem lpX_st {F T : Nat → List Value} {M : Nat → ev_M} {ms : Nat → Nat} {pc : Nat} {vs st : List Value} {μ : ev_M} (hv : vs = F pc) (ht : st = T pc) (hm : μ = M pc) : ∃ m', lpX F T M ms m' pc vs st μ := ⟨_, hv, ht, hm, rfl⟩
theorem ex_triX {y : ev_Mi} {cd : List (Nat × Instr)} {args : List Value} {X : ex_X} (hX : ∀ n, X n = true → Cond.methodLink own n arraycopyName ∈ ev_wd) (hok : ev_ok S G) (hM : ev_okM own y Tb cd) (hargs : (lg_sl (args.map (ev_tr G.2.1))).length ≤ y.2.2.1) (ks : List (Nat × List Nat)) (n : Nat) (F T : Nat → List Value) (M : Nat → ev_M) (ms : Nat → Nat)
    (hstep : ∀ q ∈ ks, ex_go S G X Tb y.2.2.2.2 (ev_Jof (fun pc vs st μ => ∃ m', m' < ms q.1 ∧ lpX F T M ms m' pc vs st μ) ks) cd res n (ev_at cd q.1) (q.2.zip (F q.1)) (T q.1) (M q.1))
    (h0 : ev_run S G Tb y.2.2.2.2 (ev_Jof (fun pc vs st μ => ∃ m', lpX F T M ms m' pc vs st μ) ks) cd res n (ev_at cd 0) (lv_args 0 args) [] μ) : ev_T S G y args μ res := by
  refine ex_triJ hX hok hM hargs ks n (lpX F T M ms) ?_ h0
  intro mm q hq vs st μ' hI
  obtain ⟨rfl, rfl, rfl, rfl⟩ := hI
  exact hstep q hq
end Ex2
