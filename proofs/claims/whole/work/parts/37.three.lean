theorem three {y : Int32} (h1 : ¬ y < 0) (h2 : y ≤ 2) (h3 : ¬ y = 0) (h4 : ¬ y = 1) : y = 2 := by
  rcases sw3 y with h | h | h | h
  · exact absurd h h3
  · exact absurd h h4
  · exact h
  · rw [Int32.lt_iff_toInt_lt] at h1
    rw [Int32.le_iff_toInt_le] at h2
    have a : ((0 : Int32)).toInt = 0 := by decide
    have b : ((2 : Int32)).toInt = 2 := by decide
    omega
