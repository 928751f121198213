/-! ===== the class: a score set; the middle score ===== -/
section XPut
variable {G : ev_G} {N : Nat → Nat} {μ : ev_M} {p : Nat}
theorem asm_up {i q v : Nat} (hi : i < N 0) (hq : q < N 1) (h0 : N 0 ≤ 16) (h1 : N 1 ≤ 10) : asm (up N (8 + 59 * i + (23 + q)) v) (N 0) + N (8 + 59 * i + (23 + q)) = asm N (N 0) + v := by
  have e1 : up N (8 + 59 * i + (23 + q)) v 1 = N 1 := up_ne (by omega)
  have a := sm_ch (f := fun i' => smb (up N (8 + 59 * i + (23 + q)) v) i' (up N (8 + 59 * i + (23 + q)) v 1)) (g := fun i' => smb N i' (N 1)) hi (fun k hk hki => by
    show smb _ k _ = smb N k (N 1)
    rw [e1]
    exact sm_ext (fun q' hq' => up_ne (by omega)))
  have b := sm_ch (f := fun q' => up N (8 + 59 * i + (23 + q)) v (8 + 59 * i + (23 + q'))) (g := fun q' => N (8 + 59 * i + (23 + q'))) hq (fun k hk hki => up_ne (by omega))
  rw [up_eq rfl] at b
  have a : asm (up N (8 + 59 * i + (23 + q)) v) (N 0) + smb N i (N 1) = asm N (N 0) + smb (up N (8 + 59 * i + (23 + q)) v) i (up N (8 + 59 * i + (23 + q)) v 1) := a
  have b : smb (up N (8 + 59 * i + (23 + q)) v) i (N 1) + N (8 + 59 * i + (23 + q)) = smb N i (N 1) + v := b
  rw [e1] at a
  omega
theorem asc_up {i q v : Nat} (hi : i < N 0) (hq : q < N 1) (h0 : N 0 ≤ 16) (h1 : N 1 ≤ 10) : asc (up N (8 + 59 * i + (23 + q)) v) (N 0) + (if N (8 + 59 * i + (23 + q)) = 0 then 0 else 1) = asc N (N 0) + (if v = 0 then 0 else 1) := by
  have e1 : up N (8 + 59 * i + (23 + q)) v 1 = N 1 := up_ne (by omega)
  have a := sm_ch (f := fun i' => scb (up N (8 + 59 * i + (23 + q)) v) i' (up N (8 + 59 * i + (23 + q)) v 1)) (g := fun i' => scb N i' (N 1)) hi (fun k hk hki => by
    show scb _ k _ = scb N k (N 1)
    rw [e1]
    exact sm_ext (fun q' hq' => by rw [up_ne (by omega)]))
  have b := sm_ch (f := fun q' => if up N (8 + 59 * i + (23 + q)) v (8 + 59 * i + (23 + q')) = 0 then 0 else 1) (g := fun q' => if N (8 + 59 * i + (23 + q')) = 0 then 0 else 1) hq (fun k hk hki => by rw [up_ne (by omega)])
  rw [up_eq rfl] at b
  have a : asc (up N (8 + 59 * i + (23 + q)) v) (N 0) + scb N i (N 1) = asc N (N 0) + scb (up N (8 + 59 * i + (23 + q)) v) i (up N (8 + 59 * i + (23 + q)) v 1) := a
  have b : scb (up N (8 + 59 * i + (23 + q)) v) i (N 1) + (if N (8 + 59 * i + (23 + q)) = 0 then 0 else 1) = scb N i (N 1) + (if v = 0 then 0 else 1) := b
  rw [e1] at a
  omega
def x_put (p i q v : Nat) (N : Nat → Nat) (μ : ev_M) : ev_M := w1 (w1 (w1 μ (p + 21) (i * 10 + q) (nI v)) (p + 19) 2 (nI (asm (up N (8 + 59 * i + (23 + q)) v) (N 0)))) (p + 19) 1 (nI (asc (up N (8 + 59 * i + (23 + q)) v) (N 0)))
/-- a row with one score set -/
theorem PR_put' (hP : PR p N μ) (hlen : ∀ i, i < 16 → N (8 + 59 * i + 6) ≤ 6) {i q v : Nat} (hi : i < N 0) (hq : q < N 1) (h0 : N 0 ≤ 16) (h1 : N 1 ≤ 10) : PR p (up N (8 + 59 * i + (23 + q)) v) (x_put p i q v N μ) := by
  have e : ∀ k, k ≠ 8 + 59 * i + (23 + q) → up N (8 + 59 * i + (23 + q)) v k = N k := fun k hk => up_ne hk
  have m : ∀ a k, a ≠ p + 19 → a ≠ p + 21 → (x_put p i q v N μ).1 a k = μ.1 a k := fun a k h h2 => by
    unfold x_put
    rw [w1_n (by omega), w1_n (by omega), w1_n (by omega)]
  have enm : ∀ j n, n ≤ 6 → nmL (up N (8 + 59 * i + (23 + q)) v) j n = nmL N j n := fun j n => by
    induction n with
    | zero => exact fun _ => rfl
    | succ n ih =>
      intro hn
      show nmL (up N (8 + 59 * i + (23 + q)) v) j n <<< 8 ||| _ = nmL N j n <<< 8 ||| _
      rw [ih (by omega), e _ (by omega)]
  have hH := pr_h hP
  have hs := pr_sh hP
  have e0 : up N (8 + 59 * i + (23 + q)) v 0 = N 0 := e 0 (by omega)
  refine ⟨?_, ?_, ?_, ?_, ?_, ?_, ?_, ?_, ?_, ⟨?_, ?_⟩, ⟨?_, ?_⟩, ?_, ?_⟩
  · rw [e 0 (by omega), e 1 (by omega), e 2 (by omega), e 3 (by omega), e 4 (by omega), e 5 (by omega), m _ _ (by omega) (by omega), m _ _ (by omega) (by omega), m _ _ (by omega) (by omega), m _ _ (by omega) (by omega), m _ _ (by omega) (by omega), m _ _ (by omega) (by omega)]
    exact hH
  · intro j hj
    rw [e _ (by omega)]
    show μ.2.1 (p + 1) j = _
    rw [pr_nm hP j hj]
    exact (enm j _ (hlen j hj)).symm
  · intro j hj; rw [m _ _ (by omega) (by omega), e _ (by omega)]; exact pr_ki hP j hj
  · intro j hj; rw [m _ _ (by omega) (by omega), e _ (by omega)]; exact pr_li hP j hj
  · intro j hj; rw [m _ _ (by omega) (by omega), e _ (by omega)]; exact pr_to hP j hj
  · intro j t hj ht; rw [m _ _ (by omega) (by omega), e _ (by omega)]; exact pr_ta hP j t hj ht
  · intro j t hj ht; rw [m _ _ (by omega) (by omega), e _ (by omega)]; exact pr_tg hP j t hj ht
  · intro j t hj ht; rw [m _ _ (by omega) (by omega), e _ (by omega)]; exact pr_bi hP j t hj ht
  · intro j t hj ht; rw [m _ _ (by omega) (by omega), e _ (by omega)]; exact pr_de hP j t hj ht
  · intro j hj; rw [m _ _ (by omega) (by omega), e _ (by omega)]; exact pr_cn hP j hj
  · intro j k hj hk; rw [e _ (by omega)] at hk; rw [m _ _ (by omega) (by omega), e _ (by omega)]; exact pr_cm hP j k hj hk
  · intro j hj; rw [m _ _ (by omega) (by omega), e _ (by omega)]; exact pr_sn hP j hj
  · intro j k hj hk; rw [e _ (by omega)] at hk; rw [m _ _ (by omega) (by omega), e _ (by omega)]; exact pr_sm hP j k hj hk
  · rw [e0, e 6 (by omega), e 7 (by omega)]
    unfold x_put
    refine ⟨w1_s, ?_, ?_, ?_⟩
    · rw [w1_n (by omega)]; exact w1_s
    · rw [w1_n (by omega), w1_n (by omega), w1_n (by omega)]; exact hs.2.2.1
    · rw [w1_n (by omega), w1_n (by omega), w1_n (by omega)]; exact hs.2.2.2
  · intro j t hj ht
    unfold x_put
    rw [w1_n (by omega), w1_n (by omega)]
    by_cases h : j = i ∧ t = q
    · rw [h.1, h.2, up_eq rfl]; exact w1_s
    · rw [w1_n (by omega), up_ne (by omega)]; exact pr_sc hP j t hj ht
theorem PR_put (hP : PR p N μ) (hI : INV N) {i q v : Nat} (hi : i < N 0) (hq : q < N 1) (h0 : N 0 ≤ 16) (h1 : N 1 ≤ 10) : PR p (up N (8 + 59 * i + (23 + q)) v) (x_put p i q v N μ) := PR_put' hP (fun j hj => (iv_p hI j hj).2) hi hq h0 h1
end XPut
section Middle
variable {G : ev_G} {N : Nat → Nat} {μ : ev_M} {p : Nat}
/-- the scores that are given -/
def vl (N : Nat → Nat) (q : Nat) : Nat → List Nat
  | 0 => []
  | n + 1 => if N (8 + 59 * n + (23 + q)) = 0 then vl N q n else N (8 + 59 * n + (23 + q)) :: vl N q n
def cL (s : Nat) : List Nat → Nat
  | [] => 0
  | x :: l => cL s l + (if x ≤ s then 1 else 0)
def sL : List Nat → Nat
  | [] => 0
  | x :: l => sL l + x
def lL : List Nat → Nat
  | [] => 9
  | x :: l => if x < lL l then x else lL l
def gL : List Nat → Nat
  | [] => 0
  | x :: l => if gL l < x then x else gL l
theorem vl_n {q k : Nat} (h : N (8 + 59 * k + (23 + q)) = 0) : vl N q (k + 1) = vl N q k := if_pos h
theorem vl_y {q k : Nat} (h : ¬ N (8 + 59 * k + (23 + q)) = 0) : vl N q (k + 1) = N (8 + 59 * k + (23 + q)) :: vl N q k := if_neg h
theorem vl_len {q n : Nat} : (vl N q n).length = scs N q n := by
  induction n with
  | zero => rfl
  | succ n ih =>
    by_cases h : N (8 + 59 * n + (23 + q)) = 0
    · rw [vl_n h, scs_n h, ih]
    · rw [vl_y h, scs_y h, List.length_cons, ih]
theorem vl_cnt {q s n : Nat} : cL s (vl N q n) = cnt N q s n := by
  induction n with
  | zero => rfl
  | succ n ih =>
    by_cases h : N (8 + 59 * n + (23 + q)) = 0
    · rw [vl_n h, ih]
      exact cnt_n (fun z => z.1 h)
    · rw [vl_y h]
      show cL s (vl N q n) + _ = _
      rw [ih]
      by_cases h2 : N (8 + 59 * n + (23 + q)) ≤ s
      · rw [if_pos h2]; exact cnt_y h h2
      · rw [if_neg h2]; exact cnt_n (fun z => h2 z.2)
theorem vl_in (hI : INV N) {q n : Nat} (hq : q < 10) (hn : n ≤ 16) : ∀ x ∈ vl N q n, 1 ≤ x ∧ x ≤ 9 := by
  induction n with
  | zero => intro x hx; cases hx
  | succ n ih =>
    intro x hx
    by_cases h : N (8 + 59 * n + (23 + q)) = 0
    · rw [vl_n h] at hx
      exact ih (by omega) x hx
    · rw [vl_y h] at hx
      rcases List.mem_cons.mp hx with rfl | hx
      · have := iv_pq hI n q (by omega) hq
        omega
      · exact ih (by omega) x hx
set_option maxRecDepth 100000 in
theorem mid_2 : ∀ x, x < 10 → ∀ y, y < 10 → 1 ≤ x → 1 ≤ y → o0 (foF (fun s => if 0 < cL s [x, y] then some s else none) 1 9) = lL [x, y] := by decide +kernel
def mid3b (x y z : Nat) : Bool := x == 0 || y == 0 || z == 0 || (decide (o0 (foF (fun s => if 1 < cL s [x, y, z] then some s else none) 1 9) = sL [x, y, z] - lL [x, y, z] - gL [x, y, z]) && decide (lL [x, y, z] ≤ sL [x, y, z]) && decide (gL [x, y, z] ≤ sL [x, y, z] - lL [x, y, z]))
set_option maxRecDepth 100000 in
theorem mid_3b : ((List.range 10).all fun x => (List.range 10).all fun y => (List.range 10).all fun z => mid3b x y z) = true := by decide +kernel
theorem mid_3 {x y z : Nat} (hx : x < 10) (hy : y < 10) (hz : z < 10) (h1 : 1 ≤ x) (h2 : 1 ≤ y) (h3 : 1 ≤ z) : o0 (foF (fun s => if 1 < cL s [x, y, z] then some s else none) 1 9) = sL [x, y, z] - lL [x, y, z] - gL [x, y, z] ∧ lL [x, y, z] ≤ sL [x, y, z] ∧ gL [x, y, z] ≤ sL [x, y, z] - lL [x, y, z] := by
  have a := List.all_eq_true.mp (List.all_eq_true.mp (List.all_eq_true.mp mid_3b x (List.mem_range.mpr hx)) y (List.mem_range.mpr hy)) z (List.mem_range.mpr hz)
  unfold mid3b at a
  simp only [Bool.or_eq_true, Bool.and_eq_true, decide_eq_true_eq, beq_iff_eq] at a
  rcases a with ((a | a) | a) | a
  · omega
  · omega
  · omega
  · exact ⟨a.1.1, a.1.2, a.2⟩
/-- the class's middle -/
def midC (l : List Nat) : Nat := if l.length < 3 then lL l else sL l - lL l - gL l
theorem fx_sum {f : Nat → Nat} {n : Nat} : ∀ s, sm (fun i => if fx f i s < s then 1 else 0) n ≤ s := by
  intro s
  induction s with
  | zero =>
    have h : ∀ n, sm (fun i => if fx f i 0 < 0 then 1 else 0) n = 0 := by
      intro n
      induction n with
      | zero => rfl
      | succ n ih => show sm _ n + (if fx f n 0 < 0 then 1 else 0) = 0; rw [ih, if_neg (by omega)]
    rw [h]
    exact Nat.le_refl 0
  | succ s ih =>
    have h1 : ∀ n, sm (fun i => if f s = i then 1 else 0) n ≤ 1 := by
      intro n
      have : sm (fun i => if f s = i then 1 else 0) n = if f s < n then 1 else 0 := by
        induction n with
        | zero => rfl
        | succ n ih2 =>
          show sm _ n + (if f s = n then 1 else 0) = _
          rw [ih2]
          (repeat' split) <;> omega
      rw [this]
      split <;> omega
    have h2 : ∀ n, sm (fun i => if fx f i (s + 1) < s + 1 then 1 else 0) n ≤ sm (fun i => if fx f i s < s then 1 else 0) n + sm (fun i => if f s = i then 1 else 0) n := by
      intro n
      induction n with
      | zero => exact Nat.le_refl 0
      | succ n ih2 =>
        show sm _ n + (if fx f n (s + 1) < s + 1 then 1 else 0) ≤ sm _ n + (if fx f n s < s then 1 else 0) + (sm _ n + (if f s = n then 1 else 0))
        have h3 : (if fx f n (s + 1) < s + 1 then 1 else 0) ≤ (if fx f n s < s then 1 else 0) + (if f s = n then 1 else 0) := by
          by_cases a : fx f n s < s
          · rw [if_pos a]; split <;> omega
          · by_cases b : f s = n
            · rw [if_pos b]; split <;> omega
            · have h4 : fx f n s = s := by have := fx_le f n s; omega
              rw [fx_s h4 b, if_neg (by omega)]
              exact Nat.zero_le _
        omega
    have := h2 n
    have := h1 n
    omega
theorem scs_3 (hI : INV N) {q : Nat} (hq : q < 10) : scs N q (N 0) ≤ 3 := by
  have h1 : ∀ n, n ≤ 16 → scs N q n ≤ sm (fun i => if sP N q i < N (952 + 9 * q + 5) then 1 else 0) n := by
    intro n
    induction n with
    | zero => exact fun _ => Nat.le_refl 0
    | succ n ih =>
      intro hn
      show scs N q n + (if N (8 + 59 * n + (23 + q)) = 0 then 0 else 1) ≤ sm _ n + (if sP N q n < N (952 + 9 * q + 5) then 1 else 0)
      have := ih (by omega)
      by_cases h : N (8 + 59 * n + (23 + q)) = 0
      · rw [if_pos h]; omega
      · rw [if_neg h, if_pos (iv_sc hI n q (by omega) hq h)]; omega
  have h2 := h1 _ (iv_h hI).1
  have h3 : sm (fun i => if sP N q i < N (952 + 9 * q + 5) then 1 else 0) (N 0) ≤ N (952 + 9 * q + 5) := fx_sum (N (952 + 9 * q + 5))
  have h4 := iv_q hI q hq
  omega
theorem mid_C (hI : INV N) {q : Nat} (hq : q < 10) (h2 : 2 ≤ scs N q (N 0)) : mid N q = midC (vl N q (N 0)) ∧ midC (vl N q (N 0)) ≤ 9 ∧ (vl N q (N 0)).length ≤ 3 ∧ lL (vl N q (N 0)) ≤ sL (vl N q (N 0)) ∧ gL (vl N q (N 0)) ≤ sL (vl N q (N 0)) - lL (vl N q (N 0)) := by
  have h3 := scs_3 hI hq
  have hv := vl_in hI hq (iv_h hI).1
  have hl := vl_len (N := N) (q := q) (n := N 0)
  have hf : mdf N q = fun s => if ((vl N q (N 0)).length - 1) / 2 < cL s (vl N q (N 0)) then some s else none := by
    funext s
    unfold mdf
    rw [vl_cnt, vl_len]
  have hm := mid_le N q
  have hmid : mid N q = o0 (foF (mdf N q) 1 9) := rfl
  rw [hf] at hmid
  generalize vl N q (N 0) = l at *
  match l, hl, hv, hmid with
  | [x, y], hl, hv, hmid =>
    have a := hv x (by simp)
    have b := hv y (by simp)
    have c := mid_2 x (by omega) y (by omega) a.1 b.1
    have e9 : ([x, y].length - 1) / 2 = 0 := by simp
    simp only [e9] at hmid
    rw [c] at hmid
    have d : midC [x, y] = lL [x, y] := rfl
    refine ⟨by rw [d, hmid], by rw [d, ← hmid]; exact hm, by simp, ?_, ?_⟩
    · unfold lL lL lL sL sL sL; (repeat' split) <;> omega
    · unfold gL gL gL sL sL sL lL lL lL; (repeat' split) <;> omega
  | [x, y, z], hl, hv, hmid =>
    have a := hv x (by simp)
    have b := hv y (by simp)
    have b2 := hv z (by simp)
    have c := mid_3 (x := x) (y := y) (z := z) (by omega) (by omega) (by omega) a.1 b.1 b2.1
    have e9 : ([x, y, z].length - 1) / 2 = 1 := by simp
    simp only [e9] at hmid
    rw [c.1] at hmid
    have d : midC [x, y, z] = sL [x, y, z] - lL [x, y, z] - gL [x, y, z] := rfl
    exact ⟨by rw [d, hmid], by rw [d, ← hmid]; exact hm, by simp, c.2.1, c.2.2⟩
  | [], hl, hv, hmid => simp at hl; omega
  | [x], hl, hv, hmid => simp at hl; omega
  | x :: y :: z :: w :: l, hl, hv, hmid => simp at hl; omega
end Middle
