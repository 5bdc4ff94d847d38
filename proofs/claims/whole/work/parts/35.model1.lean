/-- what came of the reference's 'made': f tells that the table is full -/
def mdp (nd : Nat → Nat × Nat × Nat) (n : Nat) (q : Nat × Nat × Nat) (f r th : Int32) (nd' : Nat → Nat × Nat × Nat) (n' : Nat) : Prop := (mkd nd n q r nd' n' ∧ th = 0) ∨ ((∀ j, j < n → nd j ≠ q) ∧ n = 120 ∧ r = 0 ∧ th = f ∧ nd' = nd ∧ n' = n)
theorem mkm_no {nd : Nat → Nat × Nat × Nat} {n : Nat} {q : Nat × Nat × Nat} {r : Int32} {nd' : Nat → Nat × Nat × Nat} {n' : Nat} (hn : n ≤ 120) (h : mkm nd n q r nd' n') (hr : r = -1) : (∀ j, j < n → nd j ≠ q) ∧ n = 120 ∧ nd' = nd ∧ n' = n := by
  rcases h with (⟨j, h1, -, h3, -⟩ | ⟨-, h1, -, h3, -⟩) | ⟨h1, h2, -, h4, h5⟩
  · exact absurd (h3.symm.trans hr) (nI_m1 (by omega))
  · exact absurd (h3.symm.trans hr) (nI_m1 (by omega))
  · exact ⟨h1, h2, h4, h5⟩
theorem mkm_yes {nd : Nat → Nat × Nat × Nat} {n : Nat} {q : Nat × Nat × Nat} {r : Int32} {nd' : Nat → Nat × Nat × Nat} {n' : Nat} (h : mkm nd n q r nd' n') (hr : ¬ r = -1) : mkd nd n q r nd' n' := by
  rcases h with h | ⟨-, -, h, -⟩
  · exact h
  · exact absurd h hr
theorem row0 (n : Nat) : rowOk (0, 0, 0) n := by unfold rowOk; simp
theorem row1 (n : Nat) {a : Nat} (h : a < 5) : rowOk (1, a, 0) n := by unfold rowOk; simp; omega
theorem row2 (n : Nat) {a : Nat} (h : a < n) : rowOk (2, a, 0) n := by unfold rowOk; simp; omega
theorem row3 (n : Nat) {a b : Nat} (h : a < n) (h2 : b < n) : rowOk (3, a, b) n := by unfold rowOk; simp; omega
theorem row4 (n : Nat) {a b : Nat} (h : a < n) (h2 : b < n) : rowOk (4, a, b) n := by unfold rowOk; simp; omega
