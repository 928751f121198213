/-! ===== the class's parser: its machine, what an item leaves behind ===== -/
section XPs
variable {G : ev_G} {N : Nat → Nat} {B : Nat → Nat} {n m p : Nat} {μ μ' : ev_M}
/-- an error, or none and the next token is there -/
def OKe (m : Nat) (e : Nat × Int32) (a : Nat) : Prop := e.1 = 0 → e = (0, -1) ∧ a ≤ m
theorem oz {a : Nat} (h : a ≤ m) : OKe m (0, -1) a := fun _ => ⟨rfl, h⟩
theorem oP {e : Nat × Int32} {a : Nat} (hT : TT B n m μ) (h : OKe m e a) : OKe m (rP B n N e a) (a + 1) := fun z => by
  have h1 := rP_0 z
  exact ⟨h1.2.2.2.2.trans (h h1.1).1, rP_nx hT (fun q => (h q).2) z⟩
theorem oN {e : Nat × Int32} {a l g : Nat} (hT : TT B n m μ) (h : OKe m e a) : OKe m (rN B n e a l g) (a + 1) := fun z => by
  have h1 := rN_0 z
  exact ⟨h1.2.2.trans (h h1.1).1, rN_nx hT (fun q => (h q).2) z⟩
theorem oC {e : Nat × Int32} {a : Nat} (hT : TT B n m μ) (h : OKe m e a) : OKe m (rC B n e a) (a + 1) := fun z => by
  have h1 := rC_0 z
  have h2 := cmc_0 h1.2.1
  exact ⟨h1.2.2.trans (h h1.1).1, tk_nxt hT (h h1.1).2 (by omega)⟩
theorem oE {e : Nat × Int32} {a c i : Nat} {b : Prop} [Decidable b] (hc : c ≠ 0) (h : OKe m e a) : OKe m (er e b c i B n) a := fun z => by
  have h1 := er_0 z hc
  exact ⟨h1.2.2.trans (h h1.1).1, (h h1.1).2⟩
theorem oT (hT : TT B n m μ) : ∀ (k : Nat) {e : Nat × Int32} {a : Nat}, OKe m e a → OKe m (tsE B n e a k) (a + k)
  | 0, e, a, h => h
  | k + 1, e, a, h => oN hT (oT hT k h)
theorem oS {A c : Nat} (hT : TT B n m μ) (h : A + c ≤ m) : OKe m (pkS B n N A c) (A + c + 1) := by
  unfold pkS
  exact oE (by decide) (oE (by decide) (oP hT (oz h)))
theorem oK {A : Nat} (hT : TT B n m μ) : ∀ d c, A + c ≤ m → OKe m (pkE B n N A d c).1 (A + (pkE B n N A d c).2) := by
  intro d
  induction d with
  | zero => exact fun c h => oz h
  | succ d ih =>
    intro c h
    unfold pkE
    by_cases h1 : 0 < c ∧ tkd B n (A + c) ≠ 1
    · rw [if_pos h1]; exact oz h
    · rw [if_neg h1]
      by_cases h2 : (pkS B n N A c).1 = 0
      · rw [if_pos h2]; exact ih (c + 1) ((oS hT h) h2).2
      · rw [if_neg h2]; exact fun z => absurd z h2
theorem oI9 {a k : Nat} (hT : TT B n m μ) (h : a + 1 ≤ m) : OKe m (qI B n N a k) (aI9 B n N a k) := by
  unfold qI aI9
  split
  · unfold q_person; exact oN hT (oE (by decide) (oC hT (oz h)))
  · unfold q_taster; exact oT hT 4 (oN hT (oE (by decide) (oP hT (oz h))))
  · unfold q_pancake
    by_cases h2 : (rN B n (0, -1) (a + 1) 0 4).1 = 0
    · rw [if_pos h2]; exact oK hT 4 0 ((oN hT (oz h)) h2).2
    · rw [if_neg h2]; exact fun z => absurd z h2
  · unfold q_bid; exact oN hT (oN hT (oE (by decide) (oP hT (oz h))))
  · unfold q_together; exact oE (by decide) (oP hT (oP hT (oz h)))
  · unfold q_conflict; exact oE (by decide) (oN hT (oP hT (oz h)))
  · unfold q_seat; exact oE (by decide) (oN hT (oP hT (oz h)))
  · unfold q_leave; exact oE (by decide) (oN hT (oP hT (oz h)))
  · unfold q_score; exact oN hT (oE (by decide) (oN hT (oP hT (oz h))))
  · unfold q_talk; exact oE (by decide) (oN hT (oz h))
  · unfold q_limit; exact oN hT (oE (by decide) (oP hT (oz h)))
  · unfold q_kitchen; exact oN hT (oP hT (oz h))
  · unfold q_swap; exact oE (by decide) (oN hT (oN hT (oz h)))
  · unfold q_clear; exact oN hT (oz h)
  · unfold q_even; exact oE (by decide) (oN hT (oz h))
  · unfold q_copy; exact oE (by decide) (oE (by decide) (oP hT (oE (by decide) (oP hT (oz h)))))
  · exact oz h
  · exact fun z => absurd (er_y1.symm.trans z) Nat.one_ne_zero
/-- the parser's state -/
abbrev PS : Type := (Nat → Nat) × Nat × Nat × (Nat → Nat) × (Nat → Nat) × Nat × (Nat × Int32)
abbrev PS.Q (s : PS) : Nat → Nat := s.1
abbrev PS.a (s : PS) : Nat := s.2.1
abbrev PS.d (s : PS) : Nat := s.2.2.1
abbrev PS.bd (s : PS) : Nat → Nat := s.2.2.2.1
abbrev PS.pl (s : PS) : Nat → Nat := s.2.2.2.2.1
abbrev PS.due (s : PS) : Nat := s.2.2.2.2.2.1
abbrev PS.e (s : PS) : Nat × Int32 := s.2.2.2.2.2.2
def u1 (f : Nat → Nat) (k v : Nat) : Nat → Nat := fun j => if j = k then v else f j
/-- one turn of its loop -/
def stp (B : Nat → Nat) (n : Nat) (s : PS) : PS :=
  if s.due = 1 then
    if otm s.Q s.d (kwi B n s.a) = 1 then (s.Q, s.a, s.d, s.bd, s.pl, 0, er (0, -1) True 4 s.a B n)
    else if kwi B n s.a = 18 then (s.Q, s.a + 1 + 1 + 1, s.d + 1, u1 s.bd s.d (s.a + 1 + 1 + 1), u1 s.pl s.d (tvl B n (s.a + 1)), 1, q_repeat B n (s.a + 1))
    else (nI9 B n s.Q s.a (kwi B n s.a), aI9 B n s.Q s.a (kwi B n s.a), s.d, s.bd, s.pl, 0, qI B n s.Q s.a (kwi B n s.a))
  else if tkd B n s.a = 3 then (s.Q, s.a + 1, s.d, s.bd, s.pl, 1, s.e)
  else if tkd B n s.a = 5 ∧ 0 < s.d then
    if 2 ≤ s.pl (s.d - 1) then (s.Q, s.bd (s.d - 1), s.d, s.bd, u1 s.pl (s.d - 1) (s.pl (s.d - 1) - 1), 1, s.e)
    else (s.Q, s.a + 1, s.d - 1, s.bd, s.pl, 0, s.e)
  else (s.Q, s.a, s.d, s.bd, s.pl, s.due, er (0, -1) True 1 s.a B n)
/-- it accepts -/
def AC (B : Nat → Nat) (n : Nat) (s : PS) : Prop := s.due = 0 ∧ tkd B n s.a = 0 ∧ s.d = 0
/-- what a turn keeps -/
def Fm9 (μ μ' : ev_M) : Prop := (∀ b k, b < 5 ∨ 34 ≤ b → μ'.1 b k = μ.1 b k) ∧ (∀ b k, b ≠ 7 → μ'.2.1 b k = μ.2.1 b k) ∧ μ'.2.2 = μ.2.2 ∧ μ'.1 6 0 = μ.1 6 0 ∧ (∀ b k, 28 ≤ b → b < 32 → μ'.1 b k = μ.1 b k)
theorem Fm9_tr {μ'' : ev_M} (h : Fm9 μ μ') (h2 : Fm9 μ' μ'') : Fm9 μ μ'' := ⟨fun b k hb => (h2.1 b k hb).trans (h.1 b k hb), fun b k hb => (h2.2.1 b k hb).trans (h.2.1 b k hb), h2.2.2.1.trans h.2.2.1, h2.2.2.2.1.trans h.2.2.2.1, fun b k h3 h4 => (h2.2.2.2.2 b k h3 h4).trans (h.2.2.2.2 b k h3 h4)⟩
theorem Fm9_rf : Fm9 μ μ := ⟨fun _ _ _ => rfl, fun _ _ _ => rfl, rfl, rfl, fun _ _ _ _ => rfl⟩
theorem Fm9_s (h : Fs μ μ') : Fm9 μ μ' := ⟨fun b k hb => h.1 b k (by omega), h.2.1, h.2.2.1, h.2.2.2.2, fun b k h3 h4 => h.1 b k (by omega)⟩
theorem TT_q (hT : TT B n m μ) (h : Fm9 μ μ') : TT B n m μ' := ⟨hT.1, hT.2.1, hT.2.2.1, fun k hk => ⟨(h.2.2.2.2 29 k (by omega) (by omega)).trans (hT.2.2.2 k hk).1, (h.2.2.2.2 30 k (by omega) (by omega)).trans (hT.2.2.2 k hk).2.1, (h.2.1 31 k (by omega)).trans (hT.2.2.2 k hk).2.2⟩⟩
/-- the parser's memory -/
def SR (B : Nat → Nat) (n m : Nat) (s : PS) (μ : ev_M) : Prop := TT B n m μ ∧ μ.1 5 1 = nI s.e.1 ∧ μ.1 5 2 = s.e.2 ∧ s.e.1 < 5 ∧ s.due ≤ 1 ∧
  (s.e.1 = 0 → s.e = (0, -1) ∧ PR 6 s.Q μ ∧ INV s.Q ∧ μ.1 5 7 = nI s.a ∧ s.a ≤ m ∧ μ.1 5 6 = nI s.d ∧ s.d ≤ 2 ∧ ∀ r, r < s.d → μ.1 32 r = nI (s.bd r) ∧ μ.1 33 r = nI (s.pl r) ∧ s.bd r ≤ m ∧ 1 ≤ s.pl r ∧ s.pl r < 10)
theorem pe_self {e : Nat × Int32} {a : Nat} (h1 : μ.1 5 1 = nI e.1) (h2 : μ.1 5 2 = e.2) (h7 : μ.1 5 7 = nI a) : pe e a μ = μ := by
  refine Prod.ext (funext fun b => funext fun k => ?_) rfl
  rw [pe_at]
  split
  · next h => rw [h.1, h.2, h7]
  · split
    · next h => rw [h.1, h.2, h2]
    · split
      · next h => rw [h.1, h.2, h1]
      · rfl
end XPs
