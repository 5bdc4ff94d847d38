/-- the greatest part of a parameter and 1, among the first i -/
def mst (nd : Nat → Nat × Nat × Nat) (a g : Nat) : Nat → Int32
  | 0 => -1
  | i + 1 => if grw nd a g i < 0 then mst nd a g i else if grw nd a g i + 1 ≤ mst nd a g i then mst nd a g i else grw nd a g i + 1
theorem mst_1 {nd : Nat → Nat × Nat × Nat} {a g i : Nat} (h : grw nd a g i < 0) : mst nd a g (i + 1) = mst nd a g i := by rw [mst, if_pos h]
theorem mst_2 {nd : Nat → Nat × Nat × Nat} {a g i : Nat} (h : ¬ grw nd a g i < 0) (h2 : grw nd a g i + 1 ≤ mst nd a g i) : mst nd a g (i + 1) = mst nd a g i := by rw [mst, if_neg h, if_pos h2]
theorem mst_3 {nd : Nat → Nat × Nat × Nat} {a g i : Nat} (h : ¬ grw nd a g i < 0) (h2 : ¬ grw nd a g i + 1 ≤ mst nd a g i) : mst nd a g (i + 1) = grw nd a g i + 1 := by rw [mst, if_neg h, if_neg h2]
/-- the reference's c -/
def ptc (nd : Nat → Nat × Nat × Nat) (a g : Nat) : Int32 := if nI (vl (rs g 0 (-1) (fun _ => 0)) nd a) ≤ mst nd a g 5 then -1 else nI (vl (rs g 0 (-1) (fun _ => 0)) nd a)
/-- a region, and a parameter or NONE, that there is not -/
def badp (n : Nat) (x g p : Int32) : Prop := hs x n = 0 ∨ g < 0 ∨ 31 < g ∨ p < -1 ∨ 5 ≤ p
theorem sml_b (nd : Nat → Nat × Nat × Nat) (x y : Nat) : sml nd x y = 0 ∨ sml nd x y = 1 := by
  unfold sml
  split
  · exact Or.inr rfl
  · exact Or.inl rfl
