/-- the greatest part of a parameter and 1, among the first i -/
def mst (nd : Nat → Nat × Nat × Nat) (a g : Nat) : Nat → Int32
  | 0 => -1
  | i + 1 => if grw nd a g i < 0 then mst nd a g i else if grw nd a g i + 1 ≤ mst nd a g i then mst nd a g i else grw nd a g i + 1
theorem mst_1 {nd : Nat → Nat × Nat × Nat} {a g i : Nat} (h : grw nd a g i < 0) : mst nd a g (i + 1) = mst nd a g i := by rw [mst, if_pos h]
theorem mst_2 {nd : Nat → Nat × Nat × Nat} {a g i : Nat} (h : ¬ grw nd a g i < 0) (h2 : grw nd a g i + 1 ≤ mst nd a g i) : mst nd a g (i + 1) = mst nd a g i := by rw [mst, if_neg h, if_pos h2]
theorem mst_3 {nd : Nat → Nat × Nat × Nat} {a g i : Nat} (h : ¬ grw nd a g i < 0) (h2 : ¬ grw nd a g i + 1 ≤ mst nd a g i) : mst nd a g (i + 1) = grw nd a g i + 1 := by rw [mst, if_neg h, if_neg h2]
/-- the reference's c -/
def ptc (nd : Nat → Nat × Nat × Nat) (a g : Nat) : Int32 := if nI (vl (rs g 0 (-1) (fun _ => 0)) nd a) ≤ mst nd a g 5 then -1 else nI (vl (rs g 0 (-1) (fun _ => 0)) nd a)
/-- a region, and a parameter or NONE, that there is not -/
def badp (n : Nat) (x g p : Int32) : Prop := hs x n = 0 ∨ g < 0 ∨ 31 < g ∨ p < -1 ∨ 5 ≤ p
theorem sml_b (nd : Nat → Nat × Nat × Nat) (x y : Nat) : sml nd x y = 0 ∨ sml nd x y = 1 := by
  unfold sml
  split
  · exact Or.inr rfl
  · exact Or.inl rfl
theorem badp_no {n : Nat} {x g p : Int32} (h : badp n x g p) (h1 : ¬ hs x n = 0) (h2 : ¬ g < 0) (h3 : ¬ 31 < g) (h4 : ¬ p < -1) (h5 : p < 5) : False := by
  rcases h with z | z | z | z | z
  · exact h1 z
  · exact h2 z
  · exact h3 z
  · exact h4 z
  · exact absurd h5 (Int32.not_lt.mpr z)
