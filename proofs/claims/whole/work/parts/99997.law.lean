/-! ===== the law's body: its instructions over both sides' contents ===== -/
section Lw
variable {G : ev_G} {μ μ1 μ' : ev_M}
def lw_S0 : Nat := 28091
/-- what is given in the law: both sides' cells behind its entry, the script at the logical place 400 -/
def lw_B (G : ev_G) (p : Program) (s : State) (m : MethodId) (c : Code) (b L : Nat) (xs : Nat → Int32) : Prop :=
  ev_ok sh_S G ∧ p.tables.exec = Jvm.exec ∧ c.code = code ∧ c.maxLocals = 9 ∧ s.vm.findClass RL = some m.cls ∧ G.2.2.2.2.1 = s ∧ G.2.1 400 = b ∧ va_X b L xs s s.heap ∧ b < s.heap.size ∧ L ≤ 3072
/-- from here the law goes on to Q: k helpers were called -/
def LW (G : ev_G) (p : Program) (e : Env) (s : State) (m : MethodId) (below : List Frame) (meth : Method) (c : Code) (b : Nat) (Q : State → Prop) (k pc : Nat) (l : List (Nat × Value)) (st : List Value) (μ : ev_M) : Prop :=
  ∀ (H : Heap) (locs : List Loc) (ls : Array Slot), va_P G.2.2.1 vwCl (ev_ws sh_S G μ) H → va_S (ev_fr G) s.heap H locs → lv_has ls 9 (ev_ml G l) →
    W p G.1 e room_1 s m #[.ref b] below meth c H locs (312 + k) (lw_S0 + 6 * k) Q (F0 m pc ls (st.map (ev_tr G.2.1)))
def lw_okd (l : List (Nat × Instr × Nat)) : Bool := l.all fun q => decide (decode code q.1 = .ok (q.2.1, q.2.2))
theorem lw_d {l : List (Nat × Instr × Nat)} (h : lw_okd l = true) (j : Nat) {pc n : Nat} {i : Instr} (hj : l[j]? = some (pc, i, n)) : decode code pc = .ok (i, n) := by
  unfold lw_okd at h
  have h2 := List.all_eq_true.mp h (pc, i, n) (List.mem_of_getElem? hj)
  have h3 : decide (decode code pc = .ok (i, n)) = true := h2
  exact of_decide_eq_true h3
theorem lw_okd_1 {a b : List (Nat × Instr × Nat)} (h : lw_okd (a ++ b) = true) : lw_okd a = true := by
  unfold lw_okd at h ⊢
  rw [List.all_append, Bool.and_eq_true] at h
  exact h.1
theorem lw_okd_2 {a b : List (Nat × Instr × Nat)} (h : lw_okd (a ++ b) = true) : lw_okd b = true := by
  unfold lw_okd at h ⊢
  rw [List.all_append, Bool.and_eq_true] at h
  exact h.2
theorem lw_ix {k j : Nat} {w : Cond} (h : (ev_tl k)[j]? = some w) (hg : ev_gw w = true) : w ∈ ev_wd := List.mem_filter.mpr ⟨ev_tl_in h, hg⟩
variable {p : Program} {e : Env} {s : State} {m : MethodId} {below : List Frame} {meth : Method} {c : Code} {b L : Nat} {xs : Nat → Int32} {Q : State → Prop} {k pc i : Nat} {l : List (Nat × Value)} {st : List Value}
theorem lw_w (hB : lw_B G p s m c b L xs) {args : Array Value} : ∀ w ∈ ev_wd, w.before args s = true := fun w hw => ev_gw_warm (s0 := s) (State.WarmedH.refl s) (by have h := hB.1.2.2.2.1 w (ev_wd_in hw).1; rw [hB.2.2.2.2.2.1] at h; exact h) (ev_wd_in hw).2
theorem lw_K (hB : lw_B G p s m c b L xs) : va_K G.2.2.1 vwCl (ev_tys G) s := by
  have h := hB.1.2.2.1
  rw [hB.2.2.2.2.2.1] at h
  exact h
theorem lw_lo (hB : lw_B G p s m c b L xs) : ev_lo G = s.heap.size := by
  show G.2.2.2.2.1.heap.size = _
  rw [hB.2.2.2.2.2.1]
theorem lw_H (hB : lw_B G p s m c b L xs) {H : Heap} {locs : List Loc} (hP : va_P G.2.2.1 vwCl (ev_ws sh_S G μ) H) (hS : va_S (ev_fr G) s.heap H locs) : ev_H sh_S G μ H :=
  ⟨hP, by rw [lw_lo hB]; exact hS.1, fun q hq => by
    rw [hB.2.2.2.2.2.1]
    rw [lw_lo hB] at hq
    exact hS.2.1 q hq (by show ¬ ev_lo G ≤ q; rw [lw_lo hB]; omega)⟩
theorem lw_Sn (hB : lw_B G p s m c b L xs) {H' : Heap} {locs' : List Loc} (hH : ev_H sh_S G μ' H') (hL : ∀ q ∈ locs', ev_fr G q.base) : va_S (ev_fr G) s.heap H' locs' :=
  ⟨by have h := hH.2.1; rw [lw_lo hB] at h; exact h, fun q hq _ => by
    have h := hH.2.2 q (by rw [lw_lo hB]; exact hq)
    rw [hB.2.2.2.2.2.1] at h
    exact h, hL⟩
theorem LW_sub {l' : List (Nat × Value)} (hs : ∀ q ∈ l', q ∈ l) (h : LW G p e s m below meth c b Q k pc l' st μ) : LW G p e s m below meth c b Q k pc l st μ := fun H locs ls hP hS hl =>
  h H locs ls hP hS ⟨hl.1, hl.2.1, fun q hq => by
    obtain ⟨q0, h0, rfl⟩ := List.mem_map.mp hq
    exact hl.2.2 _ (List.mem_map.mpr ⟨q0, hs q0 h0, rfl⟩)⟩
theorem LW_k {k' : Nat} (hk : k ≤ k') (h : LW G p e s m below meth c b Q k' pc l st μ) : LW G p e s m below meth c b Q k pc l st μ := fun H locs ls hP hS hl =>
  W.widen (by omega) (by omega) (h H locs ls hP hS hl)
section Rows
variable (hB : lw_B G p s m c b L xs)
theorem LW_al {k9 : Fin 4} {a : Nat} (hB : lw_B G p s m c b L xs) (hd : decode code pc = .ok (.aload_n k9, 1)) (hk : ev_lk l k9 = some (.ref a)) (h : LW G p e s m below meth c b Q k (pc + 1) l (.ref a :: st) μ) : LW G p e s m below meth c b Q k pc l st μ := fun H locs ls hP hS hl =>
  lv_aload_n hB.2.1 hB.2.2.1 hd rfl (ev_lv0 hl (v := .ref a) hk) (h H locs ls hP hS hl)
theorem LW_ald {n a : Nat} (hB : lw_B G p s m c b L xs) (hd : decode code pc = .ok (.aload n, 2)) (hk : ev_lk l n = some (.ref a)) (h : LW G p e s m below meth c b Q k (pc + 2) l (.ref a :: st) μ) : LW G p e s m below meth c b Q k pc l st μ := fun H locs ls hP hS hl =>
  lv_aload hB.2.1 hB.2.2.1 hd (ev_lv0 hl (v := .ref a) hk) (h H locs ls hP hS hl)
theorem LW_il {n : Nat} {x : Int32} (hB : lw_B G p s m c b L xs) (hd : decode code pc = .ok (.iload n, 2)) (hk : ev_lk l n = some (.int x)) (h : LW G p e s m below meth c b Q k (pc + 2) l (.int x :: st) μ) : LW G p e s m below meth c b Q k pc l st μ := fun H locs ls hP hS hl =>
  lv_iload hB.2.1 hB.2.2.1 hd (ev_lv0 hl (v := .int x) hk) (h H locs ls hP hS hl)
theorem LW_dl {n : Nat} {x : UInt64} (hB : lw_B G p s m c b L xs) (hd : decode code pc = .ok (.dload n, 2)) (hk : ev_lk l n = some (.double x)) (h : LW G p e s m below meth c b Q k (pc + 2) l (.double x :: st) μ) : LW G p e s m below meth c b Q k pc l st μ := fun H locs ls hP hS hl =>
  lv_dload hB.2.1 hB.2.2.1 hd (ev_lv0 hl (v := .double x) hk) (h H locs ls hP hS hl)
theorem LW_fl {n : Nat} {x : UInt32} (hB : lw_B G p s m c b L xs) (hd : decode code pc = .ok (.fload n, 2)) (hk : ev_lk l n = some (.float x)) (h : LW G p e s m below meth c b Q k (pc + 2) l (.float x :: st) μ) : LW G p e s m below meth c b Q k pc l st μ := fun H locs ls hP hS hl =>
  lv_fload hB.2.1 hB.2.2.1 hd (ev_lv0 hl (v := .float x) hk) (h H locs ls hP hS hl)
theorem LW_ic {n : Int} {v : Int32} (hB : lw_B G p s m c b L xs) (hd : decode code pc = .ok (.iconst n, 1)) (hv : Int32.ofInt n = v) (h : LW G p e s m below meth c b Q k (pc + 1) l (.int v :: st) μ) : LW G p e s m below meth c b Q k pc l st μ := fun H locs ls hP hS hl =>
  lv_iconst hB.2.1 hB.2.2.1 hd hv (h H locs ls hP hS hl)
theorem LW_bi {n : Int} {v : Int32} (hB : lw_B G p s m c b L xs) (hd : decode code pc = .ok (.bipush n, 2)) (hv : (Int8.ofInt n).toInt32 = v) (h : LW G p e s m below meth c b Q k (pc + 2) l (.int v :: st) μ) : LW G p e s m below meth c b Q k pc l st μ := fun H locs ls hP hS hl =>
  lv_bipush hB.2.1 hB.2.2.1 hd hv (h H locs ls hP hS hl)
theorem LW_lc {n : Fin 2} {v : Int64} (hB : lw_B G p s m c b L xs) (hd : decode code pc = .ok (.lconst n, 1)) (hv : Int64.ofNat n = v) (h : LW G p e s m below meth c b Q k (pc + 1) l (.long v :: st) μ) : LW G p e s m below meth c b Q k pc l st μ := fun H locs ls hP hS hl =>
  lv_lconst hB.2.1 hB.2.2.1 hd hv (h H locs ls hP hS hl)
theorem LW_ia {x y : Int32} (hB : lw_B G p s m c b L xs) (hd : decode code pc = .ok (.iadd, 1)) (h : LW G p e s m below meth c b Q k (pc + 1) l (.int (x + y) :: st) μ) : LW G p e s m below meth c b Q k pc l (.int y :: .int x :: st) μ := fun H locs ls hP hS hl =>
  lv_iadd hB.2.1 hB.2.2.1 hd (h H locs ls hP hS hl)
theorem LW_isu {x y : Int32} (hB : lw_B G p s m c b L xs) (hd : decode code pc = .ok (.isub, 1)) (h : LW G p e s m below meth c b Q k (pc + 1) l (.int (x - y) :: st) μ) : LW G p e s m below meth c b Q k pc l (.int y :: .int x :: st) μ := fun H locs ls hP hS hl =>
  lv_isub hB.2.1 hB.2.2.1 hd (h H locs ls hP hS hl)
theorem LW_ian {x y : Int32} (hB : lw_B G p s m c b L xs) (hd : decode code pc = .ok (.iand, 1)) (h : LW G p e s m below meth c b Q k (pc + 1) l (.int (x &&& y) :: st) μ) : LW G p e s m below meth c b Q k pc l (.int y :: .int x :: st) μ := fun H locs ls hP hS hl =>
  lv_iand hB.2.1 hB.2.2.1 hd (h H locs ls hP hS hl)
theorem LW_i2l {x : Int32} (hB : lw_B G p s m c b L xs) (hd : decode code pc = .ok (.i2l, 1)) (h : LW G p e s m below meth c b Q k (pc + 1) l (.long x.toInt64 :: st) μ) : LW G p e s m below meth c b Q k pc l (.int x :: st) μ := fun H locs ls hP hS hl =>
  lv_i2l hB.2.1 hB.2.2.1 hd rfl (h H locs ls hP hS hl)
theorem LW_f2d {x : UInt32} (hB : lw_B G p s m c b L xs) (hd : decode code pc = .ok (.f2d, 1)) (hn : vf_n64 (FP.f2d x)) (h : LW G p e s m below meth c b Q k (pc + 1) l (.double (FP.f2d x) :: st) μ) : LW G p e s m below meth c b Q k pc l (.float x :: st) μ := fun H locs ls hP hS hl =>
  lv_f2d hB.2.1 hB.2.2.1 hd hn (h H locs ls hP hS hl)
theorem LW_lcm {x y : Int64} (hB : lw_B G p s m c b L xs) (hd : decode code pc = .ok (.lcmp, 1)) (h : LW G p e s m below meth c b Q k (pc + 1) l (.int (lg_cmp x y) :: st) μ) : LW G p e s m below meth c b Q k pc l (.long y :: .long x :: st) μ := fun H locs ls hP hS hl =>
  W.lcmp hB.2.1 hB.2.2.1 hd (h H locs ls hP hS hl)
theorem LW_dcm {x y : UInt64} {op : CmpOp} (hB : lw_B G p s m c b L xs) (hd : decode code pc = .ok (.dcmp op, 1)) (h : LW G p e s m below meth c b Q k (pc + 1) l (.int (Op.cmpValue (FP.dcmp x y) op) :: st) μ) : LW G p e s m below meth c b Q k pc l (.double y :: .double x :: st) μ := fun H locs ls hP hS hl =>
  lv_dcmp hB.2.1 hB.2.2.1 hd (h H locs ls hP hS hl)
theorem LW_gt {off : Int} {t : Nat} (hB : lw_B G p s m c b L xs) (hd : decode code pc = .ok (.goto off, 3)) (ht : (pc : Int) + off = (t : Int)) (h : LW G p e s m below meth c b Q k t l st μ) : LW G p e s m below meth c b Q k pc l st μ := fun H locs ls hP hS hl =>
  lv_goto hB.2.1 hB.2.2.1 hd ht (h H locs ls hP hS hl)
theorem LW_ie {off : Int} {t : Nat} {x : Int32} (hB : lw_B G p s m c b L xs) (hd : decode code pc = .ok (.ifCond .eq off, 3)) (ht : (pc : Int) + off = (t : Int)) (h1 : x = 0 → LW G p e s m below meth c b Q k t l st μ) (h2 : ¬ x = 0 → LW G p e s m below meth c b Q k (pc + 3) l st μ) : LW G p e s m below meth c b Q k pc l (.int x :: st) μ := fun H locs ls hP hS hl =>
  lv_if_eq hB.2.1 hB.2.2.1 hd ht (fun q => h1 q H locs ls hP hS hl) (fun q => h2 q H locs ls hP hS hl)
theorem LW_in {off : Int} {t : Nat} {x : Int32} (hB : lw_B G p s m c b L xs) (hd : decode code pc = .ok (.ifCond .ne off, 3)) (ht : (pc : Int) + off = (t : Int)) (h1 : ¬ x = 0 → LW G p e s m below meth c b Q k t l st μ) (h2 : x = 0 → LW G p e s m below meth c b Q k (pc + 3) l st μ) : LW G p e s m below meth c b Q k pc l (.int x :: st) μ := fun H locs ls hP hS hl =>
  lv_if_ne hB.2.1 hB.2.2.1 hd ht (fun q => h1 q H locs ls hP hS hl) (fun q => h2 q H locs ls hP hS hl)
/-- two ints that are one -/
theorem LW_ce {off : Int} {t : Nat} {x y : Int32} (hB : lw_B G p s m c b L xs) (hd : decode code pc = .ok (.if_icmp .eq off, 3)) (ht : (pc : Int) + off = (t : Int)) (hxy : x = y) (h1 : LW G p e s m below meth c b Q k t l st μ) : LW G p e s m below meth c b Q k pc l (.int y :: .int x :: st) μ := fun H locs ls hP hS hl =>
  lv_icmp_eq hB.2.1 hB.2.2.1 hd ht (fun _ => h1 H locs ls hP hS hl) (fun q => absurd hxy q)
theorem LW_cg {off : Int} {t : Nat} {x y : Int32} (hB : lw_B G p s m c b L xs) (hd : decode code pc = .ok (.if_icmp .gt off, 3)) (ht : (pc : Int) + off = (t : Int)) (h1 : y < x → LW G p e s m below meth c b Q k t l st μ) (h2 : ¬ y < x → LW G p e s m below meth c b Q k (pc + 3) l st μ) : LW G p e s m below meth c b Q k pc l (.int y :: .int x :: st) μ := fun H locs ls hP hS hl =>
  lv_icmp_gt hB.2.1 hB.2.2.1 hd ht (fun q => h1 q H locs ls hP hS hl) (fun q => h2 q H locs ls hP hS hl)
theorem LW_is {n : Nat} {x : Int32} (hB : lw_B G p s m c b L xs) (hd : decode code pc = .ok (.istore n, 2)) (hn : n < 9) (h : LW G p e s m below meth c b Q k (pc + 2) (ev_st1 l n (.int x)) st μ) : LW G p e s m below meth c b Q k pc l (.int x :: st) μ := fun H locs ls hP hS hl =>
  lv_istore hB.2.1 hB.2.2.1 hd hl hn rfl (fun ls' hl' => h H locs ls' hP hS (ev_has1 (v := .int x) hl'))
theorem LW_fs {n : Nat} {x : UInt32} (hB : lw_B G p s m c b L xs) (hd : decode code pc = .ok (.fstore n, 2)) (hn : n < 9) (h : LW G p e s m below meth c b Q k (pc + 2) (ev_st1 l n (.float x)) st μ) : LW G p e s m below meth c b Q k pc l (.float x :: st) μ := fun H locs ls hP hS hl =>
  lv_fstore hB.2.1 hB.2.2.1 hd hl hn rfl (fun ls' hl' => h H locs ls' hP hS (ev_has1 (v := .float x) hl'))
theorem LW_ds {n : Nat} {x : UInt64} (hB : lw_B G p s m c b L xs) (hd : decode code pc = .ok (.dstore n, 2)) (hn : n + 1 < 9) (h : LW G p e s m below meth c b Q k (pc + 2) (ev_st2 l n (.double x)) st μ) : LW G p e s m below meth c b Q k pc l (.double x :: st) μ := fun H locs ls hP hS hl =>
  lv_dstore hB.2.1 hB.2.2.1 hd hl hn rfl (fun ls' hl' => h H locs ls' hP hS (ev_has2 (v := .double x) hl'))
theorem LW_ii {n kp : Nat} {a : Int} {x v : Int32} (hB : lw_B G p s m c b L xs) (hd : decode code pc = .ok (.iinc n a, 3)) (hk : l[kp]? = some (n, .int x)) (hv : x + Int32.ofInt a = v) (hn : n < 9) (h : LW G p e s m below meth c b Q k (pc + 3) (ev_st1 l n (.int v)) st μ) : LW G p e s m below meth c b Q k pc l st μ := fun H locs ls hP hS hl =>
  lv_iinc hB.2.1 hB.2.2.1 hd hl (k := kp) (by rw [List.getElem?_map, hk]; rfl) hv hn rfl (fun ls' hl' => h H locs ls' hP hS (ev_has1 (v := .int v) hl'))
/-- the script -/
theorem LW_sl {x : Int32} (hB : lw_B G p s m c b L xs) (hd : decode code pc = .ok (.iaload, 1)) (hin : vp_in x L) (h : LW G p e s m below meth c b Q k (pc + 1) l (.int (xs x.toNatClampNeg) :: st) μ) : LW G p e s m below meth c b Q k pc l (.int x :: .ref 400 :: st) μ := fun H locs ls hP hS hl => by
  obtain ⟨h1, h2, h3, h4, h5, h6, h7, h8, h9, h10⟩ := id hB
  have e9 : ((Value.int x :: .ref 400 :: st).map (ev_tr G.2.1)) = .int x :: .ref b :: st.map (ev_tr G.2.1) := by
    show Value.int x :: .ref (G.2.1 400) :: _ = _
    rw [h7]
  rw [e9]
  exact va_sld h2 h3 h8 h9 (by show ¬ ev_lo G ≤ b; rw [lw_lo hB]; omega) hS hin hd (h H locs ls hP hS hl)
theorem LW_sn (hB : lw_B G p s m c b L xs) (hd : decode code pc = .ok (.arraylength, 1)) (h : LW G p e s m below meth c b Q k (pc + 1) l (.int (Int32.ofNat L) :: st) μ) : LW G p e s m below meth c b Q k pc l (.ref 400 :: st) μ := fun H locs ls hP hS hl => by
  obtain ⟨h1, h2, h3, h4, h5, h6, h7, h8, h9, h10⟩ := id hB
  have e9 : ((Value.ref 400 :: st).map (ev_tr G.2.1)) = .ref b :: st.map (ev_tr G.2.1) := by
    show Value.ref (G.2.1 400) :: _ = _
    rw [h7]
  rw [e9]
  exact va_slen h2 h3 h8 h9 (by show ¬ ev_lo G ≤ b; rw [lw_lo hB]; omega) hS hd (h H locs ls hP hS hl)
/-- the two rows that answers are laid in -/
theorem LW_ll (hB : lw_B G p s m c b L xs) (hd : decode code pc = .ok (.laload, 1)) (h : LW G p e s m below meth c b Q k (pc + 1) l (.long (μ.2.1 310 0) :: st) μ) : LW G p e s m below meth c b Q k pc l (.int 0 :: .ref 310 :: st) μ := fun H locs ls hP hS hl => by
  have h1 : 310 < ev_nc sh_S := by decide +kernel
  have h2 : ev_kd sh_S 310 = 13 := by decide +kernel
  have h3 : vp_in 0 (ev_ln sh_S 310) := by rw [show ev_ln sh_S 310 = 1 by decide +kernel]; exact vp_in_nI (n := 0) (by omega) (by omega)
  exact va_lald hB.2.1 hB.2.2.1 (lw_K hB) hP 310 3 (by rw [ev_ws_at h1, ev_E_13 h2]) rfl h3 hd (h H locs ls hP hS hl)
theorem LW_dd0 (hB : lw_B G p s m c b L xs) (hd : decode code pc = .ok (.daload, 1)) (h : LW G p e s m below meth c b Q k (pc + 1) l (.double (μ.2.1 311 0).toUInt64 :: st) μ) : LW G p e s m below meth c b Q k pc l (.int 0 :: .ref 311 :: st) μ := fun H locs ls hP hS hl => by
  have h1 : 311 < ev_nc sh_S := by decide +kernel
  have h2 : ev_kd sh_S 311 = 15 := by decide +kernel
  have h3 : vp_in 0 (ev_ln sh_S 311) := by rw [show ev_ln sh_S 311 = 1 by decide +kernel]; exact vp_in_nI (n := 0) (by omega) (by omega)
  have h0 : (0 : Int32).toNatClampNeg = 0 := by decide
  refine va_dald hB.2.1 hB.2.2.1 (lw_K hB) hP 311 5 (by rw [ev_ws_at h1, ev_E_15 h2]) rfl h3 hd ?_
  rw [h0]
  exact h H locs ls hP hS hl
/-- a call of either side -/
theorem LW_call (hB : lw_B G p s m c b L xs) {n na : Nat} {ym : ev_Mi} (hw : eh_ok RL n na ym) {C : String} (w2 : Cond.instanceMethod ym.1 ∈ ev_wd) (w3 : Cond.selects C ym.1 ym.1 ∈ ev_wd) {r ci N : Nat} {T9 : u_T} (hr1 : r < ev_nc sh_S) (hr2 : ev_kd sh_S r = ci) (hr3 : ci < 10) (hc : vwCl[ci]? = some (C, T9, N)) {As : List Value} (hlen : As.length = na) (hsz : ev_sz st ≤ 8) (hdp : ym.2.2.2.2 ≤ 100) {v : Value} (hT : ev_T sh_S G ym (.ref r :: As) μ (.inl (some v, μ1))) (hd : decode code pc = .ok (.invokevirtual n, 3))
    (h : LW G p e s m below meth c b Q k (pc + 3) l (v :: st) μ1) (hk : k < 600) : LW G p e s m below meth c b Q k pc l (As.reverse ++ .ref r :: st) μ := by
  intro H locs ls hP hS hl
  obtain ⟨w1, w4, w5, w6, w7⟩ := hw
  have hww := lw_w hB (args := #[.ref b])
  have hr : vx_Run p G.1 e room_1 s m #[.ref b] below meth c H locs (312 + k) (lw_S0 + 6 * k) 0 0 (F0 m pc ls ((As.reverse ++ .ref r :: st).map (ev_tr G.2.1))) (st.map (ev_tr G.2.1)) (ev_Q sh_S G (.inl (some v, μ1)) (Value.ref (G.2.1 r) :: As.map (ev_tr G.2.1)).toArray) (ev_X sh_S G (.inl (some v, μ1))) (ev_fr G) := vx_runV (As := As.map (ev_tr G.2.1)) (C := C) (b := G.2.1 r) ⟨hB.2.1, hB.2.2.1, hB.2.2.2.1, hB.2.2.2.2.1, hww⟩ hT ⟨callB_of na hww (ev_good w5) rfl rfl rfl (hww _ w4) (hww _ w1) w7 ⟨by show ym.2.2.2.2 + 1 ≤ 2048; omega, by show 8 + (ym.2.2.1 + 11) + 40 * ym.2.2.2.2 ≤ 84000; have : ym.2.2.1 ≤ 20 := w6; omega⟩, hww _ w2, hww _ w3⟩ ⟨ev_pre_blind, va_recv (lw_K hB) hP (q0 := r) hc (by rw [ev_ws_at hr1, ev_E_obj hr2 hr3]), fun U hU hW => ⟨by simp [ev_tr], by rw [hB.2.2.2.2.2.1]; exact hW, by rw [hU]; exact lw_H hB hP hS⟩⟩ rfl (by simpa using hlen) hl.1 (by simp [ev_tr]) (lv_room (by rw [ev_sz_eq]; exact hsz)) hd ⟨by show 312 + k + 0 ≤ 601024; omega, by unfold lw_S0; show 28091 + 6 * k + 0 ≤ 7293034; omega⟩
  intro T hT9 X
  rcases hr T hT9 X with ⟨v9, st0, t, T', L9, h0, X', hL, e1, e2, ⟨r9, μ9, hr1, hr2, hr3⟩, stp⟩ | ⟨q, st0, t, T', L9, E, ce, h0, X', hL, e1, e2, ⟨μ9, hr1, hr3⟩, hce, hcv, hcl, stp⟩
  · cases hr2
    cases hr1
    have hH : ev_H sh_S G μ1 T'.heap := by rw [e1]; exact hr3
    obtain ⟨t2, a1, b1⟩ := h T'.heap (locs ++ L9) ls hH.1 (lw_Sn hB hH (fun q hq => by
      rcases List.mem_append.mp hq with h | h
      · exact hS.2.2 q h
      · exact hL q h)) hl T' rfl X'
    exact ⟨t2, stp t2 a1, b1⟩
  · cases hr1
/-- a call of a helper -/
theorem LW_help (hB : lw_B G p s m c b L xs) {n na : Nat} {yh : ev_Mi} {hh : List (Nat × Nat × Nat × Nat)} (w1 : Cond.methodLink RL n yh.1 ∈ ev_wd) (w2 : Cond.static yh.1 ∈ ev_wd) (w3 : Cond.codeWith yh.1 yh.2.1 yh.2.2.1 yh.2.2.2.1 hh ∈ ev_wd) (w4 : Cond.initialized yh.1.cls ∈ ev_wd) (w7 : yh.1.cls ≠ "java/lang/invoke/MethodHandle" ∧ yh.1.cls ≠ "java/lang/invoke/VarHandle" ∧ (parseMethodDescriptor yh.1.desc).map (fun d => d.parameters.length) = some na) {As : List Value} (hlen : As.length = na) (hy : yh.2.2.1 ≤ 20 ∧ yh.2.2.2.2 ≤ 100) {x : Int32} (hT : hb_T G yh hh As μ x μ1) (hd : decode code pc = .ok (.invokestatic n, 3))
    (h : LW G p e s m below meth c b Q (k + 1) (pc + 3) l [.int x] μ1) (hk : k < 600) : LW G p e s m below meth c b Q k pc l As.reverse μ := by
  intro H locs ls hP hS hl
  have hww := lw_w hB (args := #[.ref b])
  have hcs : vx_CSW room_1 s #[.ref b] RL n yh.1 yh.2.1 yh.2.2.1 yh.2.2.2.1 hh (.codeWith yh.1 yh.2.1 yh.2.2.1 yh.2.2.2.1 hh :: []) { frames := yh.2.2.2.2, cells := 1, slots := 6, locals := 40 * yh.2.2.2.2 } 1 6 na :=
    ⟨⟨rfl, rfl, by show yh.2.2.2.2 + 1 ≤ 2048; omega, by show 8 + (yh.2.2.1 + 11) + 40 * yh.2.2.2.2 ≤ 84000; omega, fun w hw a' U hU => by
      rw [List.mem_singleton.mp hw]
      exact ev_gw_warm hU (hww _ w3) (ev_wd_in w3).2, List.mem_cons_self⟩, hww _ w3, hww _ w4, ⟨w7.1, w7.2.1⟩, fun sig hs => by
      have h2 := w7.2.2
      rw [hs] at h2
      exact (Option.some.inj h2).symm, hww _ w1, hww _ w2⟩
  have hr : vx_Run p G.1 e room_1 s m #[.ref b] below meth c H locs (312 + k) (lw_S0 + 6 * k) 1 6 (F0 m pc ls (As.reverse.map (ev_tr G.2.1))) [] (ev_Q sh_S G (.inl (some (.int x), μ1)) (As.map (ev_tr G.2.1)).toArray) (fun _ _ _ => False) (ev_fr G) := vx_runSX (As := As.map (ev_tr G.2.1)) (n := na) ⟨hB.2.1, hB.2.2.1, hB.2.2.2.1, hB.2.2.2.2.1, hww⟩ hT hcs ⟨ev_pre_blind, fun U hU hW => ⟨rfl, by rw [hB.2.2.2.2.2.1]; exact hW, by rw [hU]; exact lw_H hB hP hS⟩⟩ rfl (by simpa using hlen) hl.1 (by simp) (by show 2 * 0 + 0 ≤ 8; omega) hd ⟨by show 312 + k + 1 ≤ 601024; omega, by unfold lw_S0; show 28091 + 6 * k + 6 ≤ 7293034; omega⟩
  intro T hT9 X
  rcases hr T hT9 X with ⟨v9, st0, t, T', L9, h0, X', hL, e1, e2, ⟨r9, μ9, hr1, hr2, hr3⟩, stp⟩ | ⟨q, st0, t, T', L9, E, ce, h0, X', hL, e1, e2, hf, hce, hcv, hcl, stp⟩
  · cases hr2
    cases hr1
    have hH : ev_H sh_S G μ1 T'.heap := by rw [e1]; exact hr3
    have e5 : lw_S0 + 6 * k + 6 = lw_S0 + 6 * (k + 1) := by omega
    rw [e5] at X'
    obtain ⟨t2, a1, b1⟩ := h T'.heap (locs ++ L9) ls hH.1 (lw_Sn hB hH (fun q hq => by
      rcases List.mem_append.mp hq with h | h
      · exact hS.2.2 q h
      · exact hL q h)) hl T' rfl X'
    exact ⟨t2, stp t2 a1, b1⟩
  · exact hf.elim
end Rows
/-- the law's locals -/
def lw_l (i : Nat) : List (Nat × Value) := [(5, .int (nI i)), (0, .ref 400), (1, .ref 0), (2, .ref 301), (3, .ref 310), (4, .ref 311)]
/-- what a case needs of the locals -/
def lw_lk (l : List (Nat × Value)) (i : Nat) : Prop := ev_lk l 0 = some (.ref 400) ∧ ev_lk l 1 = some (.ref 0) ∧ ev_lk l 2 = some (.ref 301) ∧ ev_lk l 3 = some (.ref 310) ∧ ev_lk l 4 = some (.ref 311) ∧ ev_lk l 5 = some (.int (nI i))
theorem lw_lk0 : lw_lk (lw_l i) i := ⟨rfl, rfl, rfl, rfl, rfl, rfl⟩
/-- one of the call's numbers -/
def lw_a1 (t j : Nat) : List (Nat × Instr × Nat) := [(t, .aload_n 0, 1), (t + 1, .iload 5, 2), (t + 3, .iconst j, 1), (t + 4, .iadd, 1), (t + 5, .iaload, 1)]
theorem LW_a1 (hB : lw_B G p s m c b L xs) {t j : Nat} (hd : lw_okd (lw_a1 t j) = true) (hl9 : lw_lk l i) (hj : j ≤ 5) (hi : i + 5 < L) (h : LW G p e s m below meth c b Q k (t + 6) l (.int (xs (i + j)) :: st) μ) : LW G p e s m below meth c b Q k t l st μ := by
  have hL := hB.2.2.2.2.2.2.2.2.2
  refine LW_al hB (lw_d hd 0 rfl) hl9.1 ?_
  refine LW_il hB (lw_d hd 1 rfl) hl9.2.2.2.2.2 ?_
  refine LW_ic (v := nI j) hB (lw_d hd 2 rfl) rfl ?_
  refine LW_ia hB (lw_d hd 3 rfl) ?_
  rw [nI_add]
  refine LW_sl hB (lw_d hd 4 rfl) (vp_in_nI (by omega) (by omega)) ?_
  rw [nI_clamp (by omega)]
  exact h
def lw_ap : Nat → Nat → Nat → List (Nat × Instr × Nat)
  | _, 0, _ => []
  | t, n + 1, j => lw_a1 t j ++ lw_ap (t + 6) n (j + 1)
def lw_av (xs : Nat → Int32) (i : Nat) : Nat → Nat → List Value
  | _, 0 => []
  | j, n + 1 => .int (xs (i + j)) :: lw_av xs i (j + 1) n
theorem LW_ap (hB : lw_B G p s m c b L xs) (hl9 : lw_lk l i) (hi : i + 5 < L) (n : Nat) : ∀ (t j : Nat) (st : List Value), lw_okd (lw_ap t n j) = true → j + n ≤ 6 → LW G p e s m below meth c b Q k (t + 6 * n) l ((lw_av xs i j n).reverse ++ st) μ → LW G p e s m below meth c b Q k t l st μ := by
  induction n with
  | zero =>
    intro t j st _ _ h
    have e1 : t + 6 * 0 = t := by omega
    rw [e1] at h
    exact h
  | succ n ih =>
    intro t j st hd hj h
    have hd : lw_okd (lw_a1 t j ++ lw_ap (t + 6) n (j + 1)) = true := hd
    refine LW_a1 hB (lw_okd_1 hd) hl9 (by omega) hi ?_
    refine ih (t + 6) (j + 1) _ (lw_okd_2 hd) (by omega) ?_
    have e1 : t + 6 + 6 * n = t + 6 * (n + 1) := by omega
    rw [e1]
    have e2 : (lw_av xs i j (n + 1)).reverse ++ st = (lw_av xs i (j + 1) n).reverse ++ (.int (xs (i + j)) :: st) := by
      show (Value.int (xs (i + j)) :: lw_av xs i (j + 1) n).reverse ++ st = _
      simp
    rw [← e2]
    exact h
theorem lw_av_len : ∀ (n j : Nat), (lw_av xs i j n).length = n
  | 0, _ => rfl
  | n + 1, j => by
    show (lw_av xs i (j + 1) n).length + 1 = n + 1
    rw [lw_av_len n (j + 1)]
end Lw
