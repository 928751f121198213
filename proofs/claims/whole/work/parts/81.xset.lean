/-! ===== the class: single cells of a panel set (by program, wip/whole/genset.py) ===== -/
section XSet
variable {G : ev_G} {N : Nat → Nat} {μ μ' : ev_M} {p : Nat}
theorem PR_ski (hP : PR p N μ) (hlen : ∀ i, i < 16 → N (8 + 59 * i + 6) ≤ 6) {i v : Nat} (hi : i < 16) (h0 : N 0 ≤ 16) (h1 : N 1 ≤ 10) : PR p (up N (8 + 59 * i + 0) v) (w1 μ (p + 2) (i) (nI v)) := by
  have e : ∀ k, k ≠ 8 + 59 * i + 0 → (up N (8 + 59 * i + 0) v) k = N k := fun k hk => up_ne hk
  have hH := pr_h hP
  have hS := pr_sh hP
  have easc : asc (up N (8 + 59 * i + 0) v) ((up N (8 + 59 * i + 0) v) 0) = asc N (N 0) := by
    rw [e 0 (by omega)]
    refine sm_ext (fun i' hi' => ?_)
    rw [e 1 (by omega)]
    refine sm_ext (fun q' hq' => ?_)
    rw [e _ (by omega)]
  have easm : asm (up N (8 + 59 * i + 0) v) ((up N (8 + 59 * i + 0) v) 0) = asm N (N 0) := by
    rw [e 0 (by omega)]
    refine sm_ext (fun i' hi' => ?_)
    rw [e 1 (by omega)]
    refine sm_ext (fun q' hq' => ?_)
    exact e _ (by omega)
  have enm : ∀ j, j < 16 → ∀ n, n ≤ 6 → nmL (up N (8 + 59 * i + 0) v) j n = nmL N j n := fun j hj n => by
    induction n with
    | zero => exact fun _ => rfl
    | succ n ih =>
      intro hn
      show nmL (up N (8 + 59 * i + 0) v) j n <<< 8 ||| _ = nmL N j n <<< 8 ||| _
      rw [ih (by omega), e _ (by omega)]
  have m : ∀ a k, a ≠ p + 2 → (w1 μ (p + 2) (i) (nI v)).1 a k = μ.1 a k := fun a k h => w1_n (fun z => h z.1)
  refine ⟨?_, ?_, ?_, ?_, ?_, ?_, ?_, ?_, ?_, ⟨?_, ?_⟩, ⟨?_, ?_⟩, ?_, ?_⟩
  · rw [e 0 (by omega), e 1 (by omega), e 2 (by omega), e 3 (by omega), e 4 (by omega), e 5 (by omega), m _ _ (by omega), m _ _ (by omega), m _ _ (by omega), m _ _ (by omega), m _ _ (by omega), m _ _ (by omega)]
    exact hH
  · intro j hj; rw [w1_2, e _ (by omega), enm _ hj _ (hlen j hj)]; exact pr_nm hP j hj
  · intro j hj
    by_cases h : j = i
    · rw [h, w1_s, up_eq rfl]
    · rw [w1_n (by omega), e _ (by omega)]; exact pr_ki hP j hj
  · intro j hj; rw [m _ _ (by omega), e _ (by omega)]; exact pr_li hP j hj
  · intro j hj; rw [m _ _ (by omega), e _ (by omega)]; exact pr_to hP j hj
  · intro j t hj ht; rw [m _ _ (by omega), e _ (by omega)]; exact pr_ta hP j t hj ht
  · intro j t hj ht; rw [m _ _ (by omega), e _ (by omega)]; exact pr_tg hP j t hj ht
  · intro j t hj ht; rw [m _ _ (by omega), e _ (by omega)]; exact pr_bi hP j t hj ht
  · intro j t hj ht; rw [m _ _ (by omega), e _ (by omega)]; exact pr_de hP j t hj ht
  · intro j hj; rw [m _ _ (by omega), e _ (by omega)]; exact pr_cn hP j hj
  · intro j k hj hk; rw [e _ (by omega)] at hk; rw [m _ _ (by omega), e _ (by omega)]; exact pr_cm hP j k hj hk
  · intro j hj; rw [m _ _ (by omega), e _ (by omega)]; exact pr_sn hP j hj
  · intro j k hj hk; rw [e _ (by omega)] at hk; rw [m _ _ (by omega), e _ (by omega)]; exact pr_sm hP j k hj hk
  · rw [easc, easm, e 6 (by omega), e 7 (by omega), m _ _ (by omega), m _ _ (by omega), m _ _ (by omega), m _ _ (by omega)]
    exact hS
  · intro j t hj ht; rw [m _ _ (by omega), e _ (by omega)]; exact pr_sc hP j t hj ht
theorem PR_sli (hP : PR p N μ) (hlen : ∀ i, i < 16 → N (8 + 59 * i + 6) ≤ 6) {i v : Nat} (hi : i < 16) (h0 : N 0 ≤ 16) (h1 : N 1 ≤ 10) : PR p (up N (8 + 59 * i + 1) v) (w1 μ (p + 3) (i) (nI v)) := by
  have e : ∀ k, k ≠ 8 + 59 * i + 1 → (up N (8 + 59 * i + 1) v) k = N k := fun k hk => up_ne hk
  have hH := pr_h hP
  have hS := pr_sh hP
  have easc : asc (up N (8 + 59 * i + 1) v) ((up N (8 + 59 * i + 1) v) 0) = asc N (N 0) := by
    rw [e 0 (by omega)]
    refine sm_ext (fun i' hi' => ?_)
    rw [e 1 (by omega)]
    refine sm_ext (fun q' hq' => ?_)
    rw [e _ (by omega)]
  have easm : asm (up N (8 + 59 * i + 1) v) ((up N (8 + 59 * i + 1) v) 0) = asm N (N 0) := by
    rw [e 0 (by omega)]
    refine sm_ext (fun i' hi' => ?_)
    rw [e 1 (by omega)]
    refine sm_ext (fun q' hq' => ?_)
    exact e _ (by omega)
  have enm : ∀ j, j < 16 → ∀ n, n ≤ 6 → nmL (up N (8 + 59 * i + 1) v) j n = nmL N j n := fun j hj n => by
    induction n with
    | zero => exact fun _ => rfl
    | succ n ih =>
      intro hn
      show nmL (up N (8 + 59 * i + 1) v) j n <<< 8 ||| _ = nmL N j n <<< 8 ||| _
      rw [ih (by omega), e _ (by omega)]
  have m : ∀ a k, a ≠ p + 3 → (w1 μ (p + 3) (i) (nI v)).1 a k = μ.1 a k := fun a k h => w1_n (fun z => h z.1)
  refine ⟨?_, ?_, ?_, ?_, ?_, ?_, ?_, ?_, ?_, ⟨?_, ?_⟩, ⟨?_, ?_⟩, ?_, ?_⟩
  · rw [e 0 (by omega), e 1 (by omega), e 2 (by omega), e 3 (by omega), e 4 (by omega), e 5 (by omega), m _ _ (by omega), m _ _ (by omega), m _ _ (by omega), m _ _ (by omega), m _ _ (by omega), m _ _ (by omega)]
    exact hH
  · intro j hj; rw [w1_2, e _ (by omega), enm _ hj _ (hlen j hj)]; exact pr_nm hP j hj
  · intro j hj; rw [m _ _ (by omega), e _ (by omega)]; exact pr_ki hP j hj
  · intro j hj
    by_cases h : j = i
    · rw [h, w1_s, up_eq rfl]
    · rw [w1_n (by omega), e _ (by omega)]; exact pr_li hP j hj
  · intro j hj; rw [m _ _ (by omega), e _ (by omega)]; exact pr_to hP j hj
  · intro j t hj ht; rw [m _ _ (by omega), e _ (by omega)]; exact pr_ta hP j t hj ht
  · intro j t hj ht; rw [m _ _ (by omega), e _ (by omega)]; exact pr_tg hP j t hj ht
  · intro j t hj ht; rw [m _ _ (by omega), e _ (by omega)]; exact pr_bi hP j t hj ht
  · intro j t hj ht; rw [m _ _ (by omega), e _ (by omega)]; exact pr_de hP j t hj ht
  · intro j hj; rw [m _ _ (by omega), e _ (by omega)]; exact pr_cn hP j hj
  · intro j k hj hk; rw [e _ (by omega)] at hk; rw [m _ _ (by omega), e _ (by omega)]; exact pr_cm hP j k hj hk
  · intro j hj; rw [m _ _ (by omega), e _ (by omega)]; exact pr_sn hP j hj
  · intro j k hj hk; rw [e _ (by omega)] at hk; rw [m _ _ (by omega), e _ (by omega)]; exact pr_sm hP j k hj hk
  · rw [easc, easm, e 6 (by omega), e 7 (by omega), m _ _ (by omega), m _ _ (by omega), m _ _ (by omega), m _ _ (by omega)]
    exact hS
  · intro j t hj ht; rw [m _ _ (by omega), e _ (by omega)]; exact pr_sc hP j t hj ht
theorem PR_sto (hP : PR p N μ) (hlen : ∀ i, i < 16 → N (8 + 59 * i + 6) ≤ 6) (hc : ∀ q, q < 10 → N (952 + 9 * q + 1) ≤ 3 ∧ N (952 + 9 * q + 5) ≤ 3) {q v : Nat} (hq : q < 10) (h0 : N 0 ≤ 16) (h1 : N 1 ≤ 10) : PR p (up N (952 + 9 * q + 0) v) (w1 μ (p + 4) (q) (nI v)) := by
  have e : ∀ k, k ≠ 952 + 9 * q + 0 → (up N (952 + 9 * q + 0) v) k = N k := fun k hk => up_ne hk
  have hH := pr_h hP
  have hS := pr_sh hP
  have easc : asc (up N (952 + 9 * q + 0) v) ((up N (952 + 9 * q + 0) v) 0) = asc N (N 0) := by
    rw [e 0 (by omega)]
    refine sm_ext (fun i' hi' => ?_)
    rw [e 1 (by omega)]
    refine sm_ext (fun q' hq' => ?_)
    rw [e _ (by omega)]
  have easm : asm (up N (952 + 9 * q + 0) v) ((up N (952 + 9 * q + 0) v) 0) = asm N (N 0) := by
    rw [e 0 (by omega)]
    refine sm_ext (fun i' hi' => ?_)
    rw [e 1 (by omega)]
    refine sm_ext (fun q' hq' => ?_)
    exact e _ (by omega)
  have enm : ∀ j, j < 16 → ∀ n, n ≤ 6 → nmL (up N (952 + 9 * q + 0) v) j n = nmL N j n := fun j hj n => by
    induction n with
    | zero => exact fun _ => rfl
    | succ n ih =>
      intro hn
      show nmL (up N (952 + 9 * q + 0) v) j n <<< 8 ||| _ = nmL N j n <<< 8 ||| _
      rw [ih (by omega), e _ (by omega)]
  have m : ∀ a k, a ≠ p + 4 → (w1 μ (p + 4) (q) (nI v)).1 a k = μ.1 a k := fun a k h => w1_n (fun z => h z.1)
  refine ⟨?_, ?_, ?_, ?_, ?_, ?_, ?_, ?_, ?_, ⟨?_, ?_⟩, ⟨?_, ?_⟩, ?_, ?_⟩
  · rw [e 0 (by omega), e 1 (by omega), e 2 (by omega), e 3 (by omega), e 4 (by omega), e 5 (by omega), m _ _ (by omega), m _ _ (by omega), m _ _ (by omega), m _ _ (by omega), m _ _ (by omega), m _ _ (by omega)]
    exact hH
  · intro j hj; rw [w1_2, e _ (by omega), enm _ hj _ (hlen j hj)]; exact pr_nm hP j hj
  · intro j hj; rw [m _ _ (by omega), e _ (by omega)]; exact pr_ki hP j hj
  · intro j hj; rw [m _ _ (by omega), e _ (by omega)]; exact pr_li hP j hj
  · intro j hj
    by_cases h : j = q
    · rw [h, w1_s, up_eq rfl]
    · rw [w1_n (by omega), e _ (by omega)]; exact pr_to hP j hj
  · intro j t hj ht; rw [m _ _ (by omega), e _ (by omega)]; exact pr_ta hP j t hj ht
  · intro j t hj ht; rw [m _ _ (by omega), e _ (by omega)]; exact pr_tg hP j t hj ht
  · intro j t hj ht; rw [m _ _ (by omega), e _ (by omega)]; exact pr_bi hP j t hj ht
  · intro j t hj ht; rw [m _ _ (by omega), e _ (by omega)]; exact pr_de hP j t hj ht
  · intro j hj; rw [m _ _ (by omega), e _ (by omega)]; exact pr_cn hP j hj
  · intro j k hj hk; rw [e _ (by omega)] at hk; have := hc j hj; rw [m _ _ (by omega), e _ (by omega)]; exact pr_cm hP j k hj hk
  · intro j hj; rw [m _ _ (by omega), e _ (by omega)]; exact pr_sn hP j hj
  · intro j k hj hk; rw [e _ (by omega)] at hk; have := hc j hj; rw [m _ _ (by omega), e _ (by omega)]; exact pr_sm hP j k hj hk
  · rw [easc, easm, e 6 (by omega), e 7 (by omega), m _ _ (by omega), m _ _ (by omega), m _ _ (by omega), m _ _ (by omega)]
    exact hS
  · intro j t hj ht; rw [m _ _ (by omega), e _ (by omega)]; exact pr_sc hP j t hj ht
theorem PR_sta (hP : PR p N μ) (hlen : ∀ i, i < 16 → N (8 + 59 * i + 6) ≤ 6) {i u v : Nat} (hi : i < 16) (hu : u < 4) (h0 : N 0 ≤ 16) (h1 : N 1 ≤ 10) : PR p (up N (8 + 59 * i + (2 + u)) v) (w1 μ (p + 6) (i * 4 + u) (nI v)) := by
  have e : ∀ k, k ≠ 8 + 59 * i + (2 + u) → (up N (8 + 59 * i + (2 + u)) v) k = N k := fun k hk => up_ne hk
  have hH := pr_h hP
  have hS := pr_sh hP
  have easc : asc (up N (8 + 59 * i + (2 + u)) v) ((up N (8 + 59 * i + (2 + u)) v) 0) = asc N (N 0) := by
    rw [e 0 (by omega)]
    refine sm_ext (fun i' hi' => ?_)
    rw [e 1 (by omega)]
    refine sm_ext (fun q' hq' => ?_)
    rw [e _ (by omega)]
  have easm : asm (up N (8 + 59 * i + (2 + u)) v) ((up N (8 + 59 * i + (2 + u)) v) 0) = asm N (N 0) := by
    rw [e 0 (by omega)]
    refine sm_ext (fun i' hi' => ?_)
    rw [e 1 (by omega)]
    refine sm_ext (fun q' hq' => ?_)
    exact e _ (by omega)
  have enm : ∀ j, j < 16 → ∀ n, n ≤ 6 → nmL (up N (8 + 59 * i + (2 + u)) v) j n = nmL N j n := fun j hj n => by
    induction n with
    | zero => exact fun _ => rfl
    | succ n ih =>
      intro hn
      show nmL (up N (8 + 59 * i + (2 + u)) v) j n <<< 8 ||| _ = nmL N j n <<< 8 ||| _
      rw [ih (by omega), e _ (by omega)]
  have m : ∀ a k, a ≠ p + 6 → (w1 μ (p + 6) (i * 4 + u) (nI v)).1 a k = μ.1 a k := fun a k h => w1_n (fun z => h z.1)
  refine ⟨?_, ?_, ?_, ?_, ?_, ?_, ?_, ?_, ?_, ⟨?_, ?_⟩, ⟨?_, ?_⟩, ?_, ?_⟩
  · rw [e 0 (by omega), e 1 (by omega), e 2 (by omega), e 3 (by omega), e 4 (by omega), e 5 (by omega), m _ _ (by omega), m _ _ (by omega), m _ _ (by omega), m _ _ (by omega), m _ _ (by omega), m _ _ (by omega)]
    exact hH
  · intro j hj; rw [w1_2, e _ (by omega), enm _ hj _ (hlen j hj)]; exact pr_nm hP j hj
  · intro j hj; rw [m _ _ (by omega), e _ (by omega)]; exact pr_ki hP j hj
  · intro j hj; rw [m _ _ (by omega), e _ (by omega)]; exact pr_li hP j hj
  · intro j hj; rw [m _ _ (by omega), e _ (by omega)]; exact pr_to hP j hj
  · intro j t hj ht
    by_cases h : j = i ∧ t = u
    · rw [h.1, h.2, w1_s, up_eq rfl]
    · rw [w1_n (by omega), e _ (by omega)]; exact pr_ta hP j t hj ht
  · intro j t hj ht; rw [m _ _ (by omega), e _ (by omega)]; exact pr_tg hP j t hj ht
  · intro j t hj ht; rw [m _ _ (by omega), e _ (by omega)]; exact pr_bi hP j t hj ht
  · intro j t hj ht; rw [m _ _ (by omega), e _ (by omega)]; exact pr_de hP j t hj ht
  · intro j hj; rw [m _ _ (by omega), e _ (by omega)]; exact pr_cn hP j hj
  · intro j k hj hk; rw [e _ (by omega)] at hk; rw [m _ _ (by omega), e _ (by omega)]; exact pr_cm hP j k hj hk
  · intro j hj; rw [m _ _ (by omega), e _ (by omega)]; exact pr_sn hP j hj
  · intro j k hj hk; rw [e _ (by omega)] at hk; rw [m _ _ (by omega), e _ (by omega)]; exact pr_sm hP j k hj hk
  · rw [easc, easm, e 6 (by omega), e 7 (by omega), m _ _ (by omega), m _ _ (by omega), m _ _ (by omega), m _ _ (by omega)]
    exact hS
  · intro j t hj ht; rw [m _ _ (by omega), e _ (by omega)]; exact pr_sc hP j t hj ht
theorem PR_stg (hP : PR p N μ) (hlen : ∀ i, i < 16 → N (8 + 59 * i + 6) ≤ 6) {i u v : Nat} (hi : i < 16) (hu : u < 16) (h0 : N 0 ≤ 16) (h1 : N 1 ≤ 10) : PR p (up N (8 + 59 * i + (43 + u)) v) (w1 μ (p + 8) (i * 16 + u) (nI v)) := by
  have e : ∀ k, k ≠ 8 + 59 * i + (43 + u) → (up N (8 + 59 * i + (43 + u)) v) k = N k := fun k hk => up_ne hk
  have hH := pr_h hP
  have hS := pr_sh hP
  have easc : asc (up N (8 + 59 * i + (43 + u)) v) ((up N (8 + 59 * i + (43 + u)) v) 0) = asc N (N 0) := by
    rw [e 0 (by omega)]
    refine sm_ext (fun i' hi' => ?_)
    rw [e 1 (by omega)]
    refine sm_ext (fun q' hq' => ?_)
    rw [e _ (by omega)]
  have easm : asm (up N (8 + 59 * i + (43 + u)) v) ((up N (8 + 59 * i + (43 + u)) v) 0) = asm N (N 0) := by
    rw [e 0 (by omega)]
    refine sm_ext (fun i' hi' => ?_)
    rw [e 1 (by omega)]
    refine sm_ext (fun q' hq' => ?_)
    exact e _ (by omega)
  have enm : ∀ j, j < 16 → ∀ n, n ≤ 6 → nmL (up N (8 + 59 * i + (43 + u)) v) j n = nmL N j n := fun j hj n => by
    induction n with
    | zero => exact fun _ => rfl
    | succ n ih =>
      intro hn
      show nmL (up N (8 + 59 * i + (43 + u)) v) j n <<< 8 ||| _ = nmL N j n <<< 8 ||| _
      rw [ih (by omega), e _ (by omega)]
  have m : ∀ a k, a ≠ p + 8 → (w1 μ (p + 8) (i * 16 + u) (nI v)).1 a k = μ.1 a k := fun a k h => w1_n (fun z => h z.1)
  refine ⟨?_, ?_, ?_, ?_, ?_, ?_, ?_, ?_, ?_, ⟨?_, ?_⟩, ⟨?_, ?_⟩, ?_, ?_⟩
  · rw [e 0 (by omega), e 1 (by omega), e 2 (by omega), e 3 (by omega), e 4 (by omega), e 5 (by omega), m _ _ (by omega), m _ _ (by omega), m _ _ (by omega), m _ _ (by omega), m _ _ (by omega), m _ _ (by omega)]
    exact hH
  · intro j hj; rw [w1_2, e _ (by omega), enm _ hj _ (hlen j hj)]; exact pr_nm hP j hj
  · intro j hj; rw [m _ _ (by omega), e _ (by omega)]; exact pr_ki hP j hj
  · intro j hj; rw [m _ _ (by omega), e _ (by omega)]; exact pr_li hP j hj
  · intro j hj; rw [m _ _ (by omega), e _ (by omega)]; exact pr_to hP j hj
  · intro j t hj ht; rw [m _ _ (by omega), e _ (by omega)]; exact pr_ta hP j t hj ht
  · intro j t hj ht
    by_cases h : j = i ∧ t = u
    · rw [h.1, h.2, w1_s, up_eq rfl]
    · rw [w1_n (by omega), e _ (by omega)]; exact pr_tg hP j t hj ht
  · intro j t hj ht; rw [m _ _ (by omega), e _ (by omega)]; exact pr_bi hP j t hj ht
  · intro j t hj ht; rw [m _ _ (by omega), e _ (by omega)]; exact pr_de hP j t hj ht
  · intro j hj; rw [m _ _ (by omega), e _ (by omega)]; exact pr_cn hP j hj
  · intro j k hj hk; rw [e _ (by omega)] at hk; rw [m _ _ (by omega), e _ (by omega)]; exact pr_cm hP j k hj hk
  · intro j hj; rw [m _ _ (by omega), e _ (by omega)]; exact pr_sn hP j hj
  · intro j k hj hk; rw [e _ (by omega)] at hk; rw [m _ _ (by omega), e _ (by omega)]; exact pr_sm hP j k hj hk
  · rw [easc, easm, e 6 (by omega), e 7 (by omega), m _ _ (by omega), m _ _ (by omega), m _ _ (by omega), m _ _ (by omega)]
    exact hS
  · intro j t hj ht; rw [m _ _ (by omega), e _ (by omega)]; exact pr_sc hP j t hj ht
theorem PR_sth (hP : PR p N μ) (hlen : ∀ i, i < 16 → N (8 + 59 * i + 6) ≤ 6) {v : Nat} (h0 : N 0 ≤ 16) (h1 : N 1 ≤ 10) : PR p (up N (2) v) (w1 μ (p) (1) (nI v)) := by
  have e : ∀ k, k ≠ 2 → (up N (2) v) k = N k := fun k hk => up_ne hk
  have hH := pr_h hP
  have hS := pr_sh hP
  have easc : asc (up N (2) v) ((up N (2) v) 0) = asc N (N 0) := by
    rw [e 0 (by omega)]
    refine sm_ext (fun i' hi' => ?_)
    rw [e 1 (by omega)]
    refine sm_ext (fun q' hq' => ?_)
    rw [e _ (by omega)]
  have easm : asm (up N (2) v) ((up N (2) v) 0) = asm N (N 0) := by
    rw [e 0 (by omega)]
    refine sm_ext (fun i' hi' => ?_)
    rw [e 1 (by omega)]
    refine sm_ext (fun q' hq' => ?_)
    exact e _ (by omega)
  have enm : ∀ j, j < 16 → ∀ n, n ≤ 6 → nmL (up N (2) v) j n = nmL N j n := fun j hj n => by
    induction n with
    | zero => exact fun _ => rfl
    | succ n ih =>
      intro hn
      show nmL (up N (2) v) j n <<< 8 ||| _ = nmL N j n <<< 8 ||| _
      rw [ih (by omega), e _ (by omega)]
  have m : ∀ a k, a ≠ p → (w1 μ (p) (1) (nI v)).1 a k = μ.1 a k := fun a k h => w1_n (fun z => h z.1)
  refine ⟨?_, ?_, ?_, ?_, ?_, ?_, ?_, ?_, ?_, ⟨?_, ?_⟩, ⟨?_, ?_⟩, ?_, ?_⟩
  · rw [e 0 (by omega), e 1 (by omega), e 3 (by omega), e 4 (by omega), e 5 (by omega), up_eq rfl, w1_s, w1_n (by omega), w1_n (by omega), w1_n (by omega), w1_n (by omega), w1_n (by omega)]
    exact ⟨rfl, hH.2.1, hH.2.2.1, hH.2.2.2.1, hH.2.2.2.2.1, hH.2.2.2.2.2⟩
  · intro j hj; rw [w1_2, e _ (by omega), enm _ hj _ (hlen j hj)]; exact pr_nm hP j hj
  · intro j hj; rw [m _ _ (by omega), e _ (by omega)]; exact pr_ki hP j hj
  · intro j hj; rw [m _ _ (by omega), e _ (by omega)]; exact pr_li hP j hj
  · intro j hj; rw [m _ _ (by omega), e _ (by omega)]; exact pr_to hP j hj
  · intro j t hj ht; rw [m _ _ (by omega), e _ (by omega)]; exact pr_ta hP j t hj ht
  · intro j t hj ht; rw [m _ _ (by omega), e _ (by omega)]; exact pr_tg hP j t hj ht
  · intro j t hj ht; rw [m _ _ (by omega), e _ (by omega)]; exact pr_bi hP j t hj ht
  · intro j t hj ht; rw [m _ _ (by omega), e _ (by omega)]; exact pr_de hP j t hj ht
  · intro j hj; rw [m _ _ (by omega), e _ (by omega)]; exact pr_cn hP j hj
  · intro j k hj hk; rw [e _ (by omega)] at hk; rw [m _ _ (by omega), e _ (by omega)]; exact pr_cm hP j k hj hk
  · intro j hj; rw [m _ _ (by omega), e _ (by omega)]; exact pr_sn hP j hj
  · intro j k hj hk; rw [e _ (by omega)] at hk; rw [m _ _ (by omega), e _ (by omega)]; exact pr_sm hP j k hj hk
  · rw [easc, easm, e 6 (by omega), e 7 (by omega), m _ _ (by omega), m _ _ (by omega), m _ _ (by omega), m _ _ (by omega)]
    exact hS
  · intro j t hj ht; rw [m _ _ (by omega), e _ (by omega)]; exact pr_sc hP j t hj ht
theorem PR_spl (hP : PR p N μ) (hlen : ∀ i, i < 16 → N (8 + 59 * i + 6) ≤ 6) {v : Nat} (h0 : N 0 ≤ 16) (h1 : N 1 ≤ 10) : PR p (up N (3) v) (w1 μ (p) (2) (nI v)) := by
  have e : ∀ k, k ≠ 3 → (up N (3) v) k = N k := fun k hk => up_ne hk
  have hH := pr_h hP
  have hS := pr_sh hP
  have easc : asc (up N (3) v) ((up N (3) v) 0) = asc N (N 0) := by
    rw [e 0 (by omega)]
    refine sm_ext (fun i' hi' => ?_)
    rw [e 1 (by omega)]
    refine sm_ext (fun q' hq' => ?_)
    rw [e _ (by omega)]
  have easm : asm (up N (3) v) ((up N (3) v) 0) = asm N (N 0) := by
    rw [e 0 (by omega)]
    refine sm_ext (fun i' hi' => ?_)
    rw [e 1 (by omega)]
    refine sm_ext (fun q' hq' => ?_)
    exact e _ (by omega)
  have enm : ∀ j, j < 16 → ∀ n, n ≤ 6 → nmL (up N (3) v) j n = nmL N j n := fun j hj n => by
    induction n with
    | zero => exact fun _ => rfl
    | succ n ih =>
      intro hn
      show nmL (up N (3) v) j n <<< 8 ||| _ = nmL N j n <<< 8 ||| _
      rw [ih (by omega), e _ (by omega)]
  have m : ∀ a k, a ≠ p → (w1 μ (p) (2) (nI v)).1 a k = μ.1 a k := fun a k h => w1_n (fun z => h z.1)
  refine ⟨?_, ?_, ?_, ?_, ?_, ?_, ?_, ?_, ?_, ⟨?_, ?_⟩, ⟨?_, ?_⟩, ?_, ?_⟩
  · rw [e 0 (by omega), e 1 (by omega), e 2 (by omega), e 4 (by omega), e 5 (by omega), up_eq rfl, w1_n (by omega), w1_s, w1_n (by omega), w1_n (by omega), w1_n (by omega), w1_n (by omega)]
    exact ⟨hH.1, rfl, hH.2.2.1, hH.2.2.2.1, hH.2.2.2.2.1, hH.2.2.2.2.2⟩
  · intro j hj; rw [w1_2, e _ (by omega), enm _ hj _ (hlen j hj)]; exact pr_nm hP j hj
  · intro j hj; rw [m _ _ (by omega), e _ (by omega)]; exact pr_ki hP j hj
  · intro j hj; rw [m _ _ (by omega), e _ (by omega)]; exact pr_li hP j hj
  · intro j hj; rw [m _ _ (by omega), e _ (by omega)]; exact pr_to hP j hj
  · intro j t hj ht; rw [m _ _ (by omega), e _ (by omega)]; exact pr_ta hP j t hj ht
  · intro j t hj ht; rw [m _ _ (by omega), e _ (by omega)]; exact pr_tg hP j t hj ht
  · intro j t hj ht; rw [m _ _ (by omega), e _ (by omega)]; exact pr_bi hP j t hj ht
  · intro j t hj ht; rw [m _ _ (by omega), e _ (by omega)]; exact pr_de hP j t hj ht
  · intro j hj; rw [m _ _ (by omega), e _ (by omega)]; exact pr_cn hP j hj
  · intro j k hj hk; rw [e _ (by omega)] at hk; rw [m _ _ (by omega), e _ (by omega)]; exact pr_cm hP j k hj hk
  · intro j hj; rw [m _ _ (by omega), e _ (by omega)]; exact pr_sn hP j hj
  · intro j k hj hk; rw [e _ (by omega)] at hk; rw [m _ _ (by omega), e _ (by omega)]; exact pr_sm hP j k hj hk
  · rw [easc, easm, e 6 (by omega), e 7 (by omega), m _ _ (by omega), m _ _ (by omega), m _ _ (by omega), m _ _ (by omega)]
    exact hS
  · intro j t hj ht; rw [m _ _ (by omega), e _ (by omega)]; exact pr_sc hP j t hj ht
end XSet
