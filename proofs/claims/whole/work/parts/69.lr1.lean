def smP (PT : Nat → Int64) (x y : Nat) : Int32 := ff (fun g => !decide (PT (x * 32 + g) = PT (y * 32 + g))) 0 32
def lsP (PT : Nat → Int64) (x : Nat) : Int32 := if ff (fun q => decide (smP PT q x = -1)) 0 x = -1 then nI x else ff (fun q => decide (smP PT q x = -1)) 0 x
theorem if01 (c : Prop) [Decidable c] : (if c then (1 : Int32) else 0) = 0 ∨ (if c then (1 : Int32) else 0) = 1 := by
  split
  · exact Or.inr rfl
  · exact Or.inl rfl
theorem i32_31 {g : Int32} (h : 31 < g) (h2 : g < 32) : False := by
  rw [Int32.lt_iff_toInt_lt] at h h2
  have a : ((31 : Int32)).toInt = 31 := by decide
  have b : ((32 : Int32)).toInt = 32 := by decide
  omega
