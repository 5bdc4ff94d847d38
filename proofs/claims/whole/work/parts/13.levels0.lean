/-! Levels: its cells, searches. -/
abbrev tyI (cI cL cZ : ClassId) : List (ClassId × FieldType) := [(cI, .int), (cL, .long), (cZ, .boolean)]
abbrev wLv (cI cL : ClassId) (ad : Nat → Nat) (K F S D U V : Nat → Int32) (PT : Nat → Int64) (n : Nat) : va_W := [(ad 1, .inr (1, [.ref (ad 2), .ref (ad 3), .ref (ad 4), .ref (ad 5), .ref (ad 6), .ref (ad 7), .ref (ad 8), .int (nI n)])), (ad 2, .inl (cI, 120, .inl K)), (ad 3, .inl (cI, 120, .inl F)), (ad 4, .inl (cI, 120, .inl S)), (ad 5, .inl (cI, 120, .inl D)), (ad 6, .inl (cI, 120, .inl U)), (ad 7, .inl (cI, 120, .inl V)), (ad 8, .inl (cL, 3840, .inr (.inl PT)))]
/-- the first place from i on, of m -/
def ff (P : Nat → Bool) : Nat → Nat → Int32
  | _, 0 => -1
  | i, m + 1 => if P i = true then nI i else ff P (i + 1) m
theorem ff_t {P : Nat → Bool} {i m : Nat} (h : P i = true) : ff P i (m + 1) = nI i := by rw [ff, if_pos h]
theorem ff_f {P : Nat → Bool} {i m : Nat} (h : ¬ P i = true) : ff P i (m + 1) = ff P (i + 1) m := by rw [ff, if_neg h]
theorem ff_cases {P : Nat → Bool} : ∀ m i, (ff P i m = -1 ∧ ∀ j, i ≤ j → j < i + m → ¬ P j = true) ∨ ∃ j, i ≤ j ∧ j < i + m ∧ ff P i m = nI j ∧ P j = true ∧ ∀ q, i ≤ q → q < j → ¬ P q = true
  | 0, i => Or.inl ⟨rfl, fun j h1 h2 => by omega⟩
  | m + 1, i => by
    by_cases h : P i = true
    · exact Or.inr ⟨i, Nat.le_refl _, by omega, ff_t h, h, fun q h1 h2 => by omega⟩
    · rw [ff_f h]
      rcases ff_cases (P := P) m (i + 1) with ⟨h1, h2⟩ | ⟨j, h1, h2, h3, h4, h5⟩
      · refine Or.inl ⟨h1, fun j a b => ?_⟩
        rcases Nat.lt_or_ge i j with z | z
        · exact h2 j z (by omega)
        · rw [show j = i by omega]; exact h
      · refine Or.inr ⟨j, by omega, by omega, h3, h4, fun q a b => ?_⟩
        rcases Nat.lt_or_ge i q with z | z
        · exact h5 q z b
        · rw [show q = i by omega]; exact h
theorem nI_m1 {j : Nat} (h : j < 2 ^ 31) : ¬ nI j = -1 := fun z => by
  have h1 := nI_toInt h
  rw [z] at h1
  have : ((-1 : Int32)).toInt = -1 := by decide
  omega
/-- whether there is such a level -/
def hs (x : Int32) (n : Nat) : Int32 := if x < 0 then 0 else if nI n ≤ x then 0 else 1
theorem hs_cases (x : Int32) {n : Nat} (hn : n < 2 ^ 31) : (hs x n = 0 ∧ (x < 0 ∨ nI n ≤ x)) ∨ ∃ j, j < n ∧ x = nI j ∧ hs x n = 1 := by
  unfold hs
  by_cases h0 : x < 0
  · exact Or.inl ⟨by rw [if_pos h0], Or.inl h0⟩
  rw [if_neg h0]
  by_cases h1 : nI n ≤ x
  · exact Or.inl ⟨by rw [if_pos h1], Or.inr h1⟩
  rw [if_neg h1]
  rcases pk_ix x hn with h | h | ⟨j, h, e⟩
  · exact absurd h h0
  · exact absurd h h1
  · exact Or.inr ⟨j, h, e, rfl⟩
theorem sw3 (x : Int32) : x = 0 ∨ x = 1 ∨ x = 2 ∨ (x.toInt < 0 ∨ 2 < x.toInt) := by
  rcases pk_ix x (n := 3) (by decide) with h | h | ⟨j, h, e⟩
  · exact Or.inr (Or.inr (Or.inr (Or.inl (by rw [Int32.lt_iff_toInt_lt] at h; exact h))))
  · refine Or.inr (Or.inr (Or.inr (Or.inr ?_)))
    rw [Int32.le_iff_toInt_le, nI_toInt (by decide)] at h
    omega
  · rcases (show j = 0 ∨ j = 1 ∨ j = 2 by omega) with rfl | rfl | rfl
    · exact Or.inl e
    · exact Or.inr (Or.inl e)
    · exact Or.inr (Or.inr (Or.inl e))
/-- what a level is -/
def det (K F S : Nat → Int32) (j : Nat) (w : Int32) : Int32 := if w = 0 then K j else if w = 1 then F j else if w = 2 then S j else -1
theorem lg_cmp0 {x y : Int64} : lg_cmp x y = 0 ↔ x = y := by
  unfold lg_cmp
  constructor
  · intro h
    split at h
    · exact absurd h (by decide)
    · split at h
      · assumption
      · exact absurd h (by decide)
  · intro h
    subst h
    rw [if_neg (by rw [gt_iff_lt, Int64.lt_iff_toInt_lt]; omega), if_pos rfl]
