/-! ===== the shape: the cells that the constructors make, in their order ===== -/
section Shape
def sh_P : List Nat := [2, 13, 10, 10, 10, 6, 10, 6, 10, 6, 10, 6, 10, 3, 10, 10, 3, 10, 10, 4, 6, 10]
def sh_L : List Nat := [0, 16, 16, 16, 10, 0, 64, 0, 256, 0, 160, 0, 160, 0, 10, 30, 0, 10, 30, 0, 0, 160]
def sh_kl : List Nat := [8, 0, 10, 0, 10, 5] ++ sh_P ++ [7, 10, 10, 13, 10, 10] ++ sh_P ++ sh_P ++ [1, 14] ++ sh_P ++ sh_P ++ sh_P ++ sh_P ++ sh_P ++ sh_P ++ sh_P ++ sh_P ++ [14] ++ sh_P ++ sh_P ++ [9, 10, 10, 10, 10, 12, 11, 12, 11, 13, 15]
def sh_ll : List Nat := [0, 0, 500, 0, 64, 0] ++ sh_L ++ [0, 501, 501, 501, 2, 2] ++ sh_L ++ sh_L ++ [0, 8] ++ sh_L ++ sh_L ++ sh_L ++ sh_L ++ sh_L ++ sh_L ++ sh_L ++ sh_L ++ [2] ++ sh_L ++ sh_L ++ [0, 1042, 1042, 8336, 2084, 2, 500, 10, 200, 1, 1]
def sh_kd (a : Nat) : Nat := sh_kl.getD a 99
def sh_ln (a : Nat) : Nat := sh_ll.getD a 0
/-- how far behind an object the cell of its field lies -/
def sh_of : Nat → Nat → Nat
  | 0, 0 => 1
  | 1, 0 => 1
  | 2, 7 => 1
  | 2, 8 => 2
  | 2, 9 => 3
  | 2, 10 => 4
  | 2, 11 => 5
  | 2, 12 => 7
  | 2, 13 => 9
  | 2, 14 => 11
  | 2, 15 => 13
  | 2, 16 => 16
  | 2, 17 => 19
  | 3, 0 => 1
  | 3, 1 => 2
  | 4, 0 => 1
  | 5, 0 => 1
  | 5, 3 => 23
  | 5, 4 => 27
  | 5, 5 => 28
  | 6, 2 => 1
  | 7, 0 => 1
  | 7, 1 => 2
  | 7, 2 => 3
  | 8, 0 => 1
  | 8, 1 => 3
  | 8, 2 => 5
  | 8, 3 => 34
  | 8, 4 => 56
  | 8, 5 => 78
  | 8, 6 => 256
  | 9, 1 => 1
  | 9, 2 => 2
  | 9, 3 => 3
  | 9, 4 => 4
  | 9, 5 => 5
  | 9, 8 => 6
  | 9, 18 => 7
  | 9, 19 => 8
  | _, _ => 0
def sh_cs (a k : Nat) : Int32 := if k = 0 then 16 else if sh_ln (a + 1) = 64 then 4 else if sh_ln (a + 1) = 256 then 16 else 10
def sh_pt (a k : Nat) : Nat := a + sh_of (sh_kd a) k
def sh_S : ev_S := (sh_kd, sh_ln, sh_pt, sh_cs, 312)
theorem sh_1 (a : Nat) : ev_kd sh_S a = sh_kd a := rfl
theorem sh_2 (a : Nat) : ev_ln sh_S a = sh_ln a := rfl
theorem sh_3 (a k : Nat) : ev_pt sh_S a k = sh_pt a k := rfl
theorem sh_4 (a k : Nat) : ev_cs sh_S a k = sh_cs a k := rfl
theorem sh_5 : ev_nc sh_S = 312 := rfl
/-- where panels begin -/
def sh_B : List Nat := [6, 34, 56, 80, 102, 124, 146, 168, 190, 212, 234, 257, 279]
theorem sh_len : sh_kl.length = 312 ∧ sh_ll.length = 312 := by decide +kernel
theorem sh_pan_kd : ∀ p ∈ sh_B, ∀ i, i < 22 → sh_kd (p + i) = sh_P.getD i 0 := by decide +kernel
theorem sh_pan_ln : ∀ p ∈ sh_B, ∀ i, i < 22 → sh_ln (p + i) = sh_L.getD i 0 := by decide +kernel
theorem sh_pan_lt : ∀ p ∈ sh_B, p + 22 ≤ 301 ∧ 6 ≤ p := by decide +kernel
theorem sh_pan_ap : ∀ p ∈ sh_B, ∀ q ∈ sh_B, p = q ∨ p + 22 ≤ q ∨ q + 22 ≤ p := by decide +kernel
/-- a table of R rows and C columns -/
def sh_T (t R C : Nat) : Prop := sh_kd t = 6 ∧ sh_kd (t + 1) = 10 ∧ sh_ln (t + 1) = R * C ∧ sh_cs t 0 = nI R ∧ sh_cs t 1 = nI C ∧ t + 1 < 312 ∧ R ≤ 16 ∧ C ≤ 16
/-- lists of persons -/
def sh_PL (t : Nat) : Prop := sh_kd t = 3 ∧ sh_kd (t + 1) = 10 ∧ sh_ln (t + 1) = 10 ∧ sh_kd (t + 2) = 10 ∧ sh_ln (t + 2) = 30 ∧ t + 2 < 312
theorem sh_T5 {p : Nat} (h : p ∈ sh_B) : sh_T (p + 5) 16 4 := by revert p; unfold sh_T; decide +kernel
theorem sh_T7 {p : Nat} (h : p ∈ sh_B) : sh_T (p + 7) 16 16 := by revert p; unfold sh_T; decide +kernel
theorem sh_T9 {p : Nat} (h : p ∈ sh_B) : sh_T (p + 9) 16 10 := by revert p; unfold sh_T; decide +kernel
theorem sh_T11 {p : Nat} (h : p ∈ sh_B) : sh_T (p + 11) 16 10 := by revert p; unfold sh_T; decide +kernel
theorem sh_T20 {p : Nat} (h : p ∈ sh_B) : sh_T (p + 20) 16 10 := by revert p; unfold sh_T; decide +kernel
theorem sh_PL13 {p : Nat} (h : p ∈ sh_B) : sh_PL (p + 13) := by revert p; unfold sh_PL; decide +kernel
theorem sh_PL16 {p : Nat} (h : p ∈ sh_B) : sh_PL (p + 16) := by revert p; unfold sh_PL; decide +kernel
end Shape
