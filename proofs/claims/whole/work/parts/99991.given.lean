/-! ===== what the claim gives of the start ===== -/
section Given
variable {args : Array Value} {s : State}
abbrev gvC : List Cond := flatC (Jvm.Cond.and given_1 narrow_1)
theorem gv_ncm : ∀ q ∈ [(eI, eO), (eI, eA), (eO, eI), (eO, eA), (eA, eI), (eA, eO)], Cond.not (.castable q.1 q.2) ∈ gvC := by decide +kernel
theorem gv_nc (h : (Jvm.Cond.and given_1 narrow_1).before args s = true) : ∀ E ∈ [eI, eO, eA], ∀ T ∈ [eI, eO, eA], E ≠ T → va_Nc E T s := by
  have hs := flat_of_before _ h
  have hb : ∀ q ∈ [(eI, eO), (eI, eA), (eO, eI), (eO, eA), (eA, eI), (eA, eO)], va_Nc q.1 q.2 s := fun q hq => va_Nc.of (hs _ (gv_ncm q hq))
  have h1 := hb (eI, eO) (by simp)
  have h2 := hb (eI, eA) (by simp)
  have h3 := hb (eO, eI) (by simp)
  have h4 := hb (eO, eA) (by simp)
  have h5 := hb (eA, eI) (by simp)
  have h6 := hb (eA, eO) (by simp)
  intro E hE T hT hne
  simp only [List.mem_cons, List.not_mem_nil, or_false] at hE hT
  rcases hE with rfl | rfl | rfl <;> rcases hT with rfl | rfl | rfl <;> first | exact absurd rfl hne | assumption
end Given
