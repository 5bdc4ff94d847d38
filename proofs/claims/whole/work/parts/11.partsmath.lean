/-! What the methods of Parts answer, in numbers. -/
theorem m1_max0 {y : Nat} (hy : y < 1000000) : (if (-1 : Int32) < nI y - 1 then nI y - 1 else -1) = nI (max 0 y) - 1 := m1_max (x := 0) (by omega) hy
theorem m1_p1 {x : Nat} (h : x < 1000000) : (nI x - 1 + 1 : Int32) = nI (x + 1) - 1 := by rw [m1_add, nI_pred]
/-- every number 1 more -/
def ra (b : Nat → Nat) : Nat → Nat := fun i => if b i = 0 then 0 else b i + 1
theorem ra_byt {b : Nat → Nat} (h : byt b) (h1 : ∀ i, i < 6 → b i < 127) : byt (ra b) := fun i hi => by
  have := h1 i hi
  unfold ra
  split <;> omega
theorem m1_zero {x : Nat} (hx : x < 1000000) : (nI x - 1 : Int32) = 0 ↔ x = 1 := by
  rw [← Int32.toInt_inj, m1_toInt hx, show ((0 : Int32)).toInt = 0 from by decide]; omega
theorem nI_max {x y : Nat} (hx : x < 1000000) (hy : y < 1000000) : (if nI x < nI y then nI y else nI x) = nI (max x y) := by
  by_cases h : x < y
  · rw [if_pos ((nI_ltI (by omega) (by omega)).mpr h), Nat.max_eq_right (by omega)]
  · rw [if_neg (fun z => h ((nI_ltI (by omega) (by omega)).mp z)), Nat.max_eq_left (by omega)]
theorem m1_maxn {x y : Nat} (hx : x < 1000000) (hy : y < 999999) : (if (nI x - 1 : Int32) < nI y then nI y else nI x - 1) = nI (max (x - 1) y) := by
  have h1 := m1_max (x := x) (y := y + 1) (by omega) (by omega)
  rw [nI_pred] at h1
  rw [h1]
  rcases Nat.lt_or_ge x (y + 1) with h | h
  · rw [Nat.max_eq_right (by omega), Nat.max_eq_right (by omega), nI_pred]
  · rw [Nat.max_eq_left (by omega), Nat.max_eq_left (by omega)]
    obtain ⟨z, rfl⟩ : ∃ z, x = z + 1 := ⟨x - 1, by omega⟩
    rw [nI_pred, Nat.add_sub_cancel]
/-- the value where all parameters of the region are 1 -/
def vo (b : Nat → Nat) : Nat := max (max (max (max (max (b 5 - 1) (b 0)) (b 1)) (b 2)) (b 3)) (b 4)
