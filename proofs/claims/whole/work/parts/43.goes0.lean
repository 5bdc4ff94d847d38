/-- the numbers that the reference tries from fr on: all 1 (i = fr), or 200 at i - 1 -/
def gof (fr i : Nat) : Int32 := if i = fr then -1 else nI (i - 1)
def gob (nd : Nat → Nat × Nat × Nat) (x y g fr : Nat) (nu : Nat → Nat) (i : Nat) : Bool := decide ((i = fr ∨ g / 2 ^ (i - 1) % 2 = 1) ∧ vl (rs g fr (gof fr i) nu) nd y < vl (rs g fr (gof fr i) nu) nd x)
/-- whether a comes above b with these first numbers -/
def gor (nd : Nat → Nat × Nat × Nat) (x y g fr : Nat) (nu : Nat → Nat) : Int32 := ff (gob nd x y g fr nu) fr (6 - fr)
theorem five_m1 {i : Nat} (h : i < 1000000) : (5 : Int32) ≤ nI i - 1 ↔ 6 ≤ i := by
  rw [Int32.le_iff_toInt_le, m1_toInt h, show ((5 : Int32)).toInt = 5 from by decide]; omega
theorem m1_lt_n {x y : Nat} (hx : x < 1000000) (hy : y < 1000000) : (nI x - 1 : Int32) < nI y ↔ x < y + 1 := by
  rw [Int32.lt_iff_toInt_lt, m1_toInt hx, n_toInt hy]; omega
theorem n_le_m1 {x y : Nat} (hx : x < 1000000) (hy : y < 1000000) : nI x ≤ (nI y - 1 : Int32) ↔ x + 1 ≤ y := by
  rw [Int32.le_iff_toInt_le, m1_toInt hy, n_toInt hx]; omega
theorem gor_b {b R : Int32} (h : (b = 1 ∧ ¬ R = -1) ∨ (b = 0 ∧ R = -1)) : b = if R = -1 then 0 else 1 := by
  rcases h with z | z
  · rw [if_neg z.2]; exact z.1
  · rw [if_pos z.2]; exact z.1
