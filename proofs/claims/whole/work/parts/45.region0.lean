/-- the first region in which the reference finds a above b -/
def rgo (nd : Nat → Nat × Nat × Nat) (x y : Nat) : Int32 := ff (fun g => !decide (gor nd x y g 0 (fun _ => 0) = -1)) 0 32
/-- the same, as the reference finds it -/
def sml (nd : Nat → Nat × Nat × Nat) (x y : Nat) : Int32 := if rgo nd x y = -1 ∧ rgo nd y x = -1 then 1 else 0
theorem gor_self (nd : Nat → Nat × Nat × Nat) (x g fr : Nat) (nu : Nat → Nat) : gor nd x x g fr nu = -1 := by
  unfold gor
  rcases ff_cases (P := gob nd x x g fr nu) (6 - fr) fr with h | ⟨j, -, -, -, h, -⟩
  · exact h.1
  · rw [gob, decide_eq_true_iff] at h; exact absurd h.2 (Nat.lt_irrefl _)
theorem rgo_self (nd : Nat → Nat × Nat × Nat) (x : Nat) : rgo nd x x = -1 := by
  unfold rgo
  rcases ff_cases (P := fun g => !decide (gor nd x x g 0 (fun _ => 0) = -1)) 32 0 with h | ⟨j, -, -, -, h, -⟩
  · exact h.1
  · rw [gor_self] at h; exact absurd h (by decide)
theorem sml_self (nd : Nat → Nat × Nat × Nat) (x : Nat) : sml nd x x = 1 := by rw [sml, if_pos ⟨rgo_self nd x, rgo_self nd x⟩]
/-- the reference's 'least' -/
def lsm (nd : Nat → Nat × Nat × Nat) (x : Nat) : Int32 := ff (fun k => decide (sml nd k x = 1)) 0 (x + 1)
