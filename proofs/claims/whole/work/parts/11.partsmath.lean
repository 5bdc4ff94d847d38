/-! What the methods of Parts answer, in numbers. -/
theorem m1_max0 {y : Nat} (hy : y < 1000000) : (if (-1 : Int32) < nI y - 1 then nI y - 1 else -1) = nI (max 0 y) - 1 := m1_max (x := 0) (by omega) hy
theorem m1_p1 {x : Nat} (h : x < 1000000) : (nI x - 1 + 1 : Int32) = nI (x + 1) - 1 := by rw [m1_add, nI_pred]
/-- every number 1 more -/
def ra (b : Nat → Nat) : Nat → Nat := fun i => if b i = 0 then 0 else b i + 1
theorem ra_byt {b : Nat → Nat} (h : byt b) (h1 : ∀ i, i < 6 → b i < 127) : byt (ra b) := fun i hi => by
  have := h1 i hi
  unfold ra
  split <;> omega
theorem m1_zero {x : Nat} (hx : x < 1000000) : (nI x - 1 : Int32) = 0 ↔ x = 1 := by
  rw [← Int32.toInt_inj, m1_toInt hx, show ((0 : Int32)).toInt = 0 from by decide]; omega
theorem nI_max {x y : Nat} (hx : x < 1000000) (hy : y < 1000000) : (if nI x < nI y then nI y else nI x) = nI (max x y) := by
  by_cases h : x < y
  · rw [if_pos ((nI_ltI (by omega) (by omega)).mpr h), Nat.max_eq_right (by omega)]
  · rw [if_neg (fun z => h ((nI_ltI (by omega) (by omega)).mp z)), Nat.max_eq_left (by omega)]
theorem m1_maxn {x y : Nat} (hx : x < 1000000) (hy : y < 999999) : (if (nI x - 1 : Int32) < nI y then nI y else nI x - 1) = nI (max (x - 1) y) := by
  have h1 := m1_max (x := x) (y := y + 1) (by omega) (by omega)
  rw [nI_pred] at h1
  rw [h1]
  rcases Nat.lt_or_ge x (y + 1) with h | h
  · rw [Nat.max_eq_right (by omega), Nat.max_eq_right (by omega), nI_pred]
  · rw [Nat.max_eq_left (by omega), Nat.max_eq_left (by omega)]
    obtain ⟨z, rfl⟩ : ∃ z, x = z + 1 := ⟨x - 1, by omega⟩
    rw [nI_pred, Nat.add_sub_cancel]
/-- the value where all parameters of the region are 1 -/
def vo (b : Nat → Nat) : Nat := max (max (max (max (max (b 5 - 1) (b 0)) (b 1)) (b 2)) (b 3)) (b 4)
theorem vo_lt {b : Nat → Nat} (h : byt b) : vo b < 128 := by
  obtain ⟨h0, h1, h2, h3, h4, h5⟩ := byt_all h
  unfold vo; omega
theorem vo_ge (b : Nat → Nat) {x : Nat} (h : x < 5) : b x ≤ vo b := by
  rcases (show x = 0 ∨ x = 1 ∨ x = 2 ∨ x = 3 ∨ x = 4 by omega) with rfl | rfl | rfl | rfl | rfl <;> (unfold vo; omega)
/-- the greatest byte of a parameter in either -/
def gr (b1 b2 : Nat → Nat) : Nat := max (max (max (max (max 0 (max (b1 0) (b2 0))) (max (b1 1) (b2 1))) (max (b1 2) (b2 2))) (max (b1 3) (b2 3))) (max (b1 4) (b2 4))
/-- the parts of the greater of two -/
def jn (b1 b2 : Nat → Nat) : Nat → Nat := fun i => if i < 5 then max (b1 i) (b2 i) else if i = 5 ∧ (gr b1 b2 = 0 ∨ gr b1 b2 + 1 < max (b1 5) (b2 5)) then max (b1 5) (b2 5) else 0
theorem jn_lt {b1 b2 : Nat → Nat} {i : Nat} (h : i < 5) : jn b1 b2 i = max (b1 i) (b2 i) := by rw [jn, if_pos h]
theorem jn_5 {b1 b2 : Nat → Nat} (h : gr b1 b2 = 0 ∨ gr b1 b2 + 1 < max (b1 5) (b2 5)) : jn b1 b2 5 = max (b1 5) (b2 5) := by rw [jn, if_neg (by decide), if_pos ⟨rfl, h⟩]
theorem jn_50 {b1 b2 : Nat → Nat} (h : ¬ (gr b1 b2 = 0 ∨ gr b1 b2 + 1 < max (b1 5) (b2 5))) : jn b1 b2 5 = 0 := by rw [jn, if_neg (by decide), if_neg (fun z => h z.2)]
theorem jn_byt {b1 b2 : Nat → Nat} (h1 : byt b1) (h2 : byt b2) : byt (jn b1 b2) := fun i hi => by
  have a1 := h1 i hi
  have a2 := h2 i hi
  have c1 := h1 5 (by decide)
  have c2 := h2 5 (by decide)
  unfold jn
  split
  · omega
  · split <;> omega
theorem or_jn {b1 b2 : Nat → Nat} (h1 : byt b1) (h2 : byt b2) {k : Nat} (hk : k < 5) : lN (es (jn b1 b2) k) ||| lN (max (b1 k) (b2 k) * 256 ^ k) = lN (es (jn b1 b2) (k + 1)) := by
  rw [← or_es (jn_byt h1 h2) (by omega), jn_lt hk]
theorem or_jn5 {b1 b2 : Nat → Nat} (h1 : byt b1) (h2 : byt b2) (h : gr b1 b2 = 0 ∨ gr b1 b2 + 1 < max (b1 5) (b2 5)) : lN (es (jn b1 b2) 5) ||| lN (max (b1 5) (b2 5) * 256 ^ 5) = en (jn b1 b2) := by
  have e := or_es (jn_byt h1 h2) (k := 5) (by decide)
  rw [jn_5 h] at e
  exact e
theorem en_jn0 {b1 b2 : Nat → Nat} (h : ¬ gr b1 b2 = 0) (h' : ¬ gr b1 b2 + 1 < max (b1 5) (b2 5)) : lN (es (jn b1 b2) 5) = en (jn b1 b2) := by
  rw [en, show es (jn b1 b2) 6 = es (jn b1 b2) 5 + jn b1 b2 5 * 256 ^ 5 from rfl, jn_50 (fun z => z.elim h h'), Nat.zero_mul, Nat.add_zero]
theorem m1_le {x y : Nat} (hx : x < 1000000) (hy : y < 1000000) : (nI x - 1 : Int32) ≤ nI y - 1 ↔ x ≤ y := by
  rw [Int32.le_iff_toInt_le, m1_toInt hx, m1_toInt hy]; omega
theorem n_toInt {x : Nat} (h : x < 1000000) : (nI x).toInt = (x : Int) := nI_toInt (by omega)
theorem m1_le_n {x y : Nat} (hx : x < 1000000) (hy : y < 1000000) : (nI x - 1 : Int32) ≤ nI y ↔ x ≤ y + 1 := by
  rw [Int32.le_iff_toInt_le, m1_toInt hx, n_toInt hy]; omega
theorem n_lt_m1 {x y : Nat} (hx : x < 1000000) (hy : y < 1000000) : nI x < (nI y - 1 : Int32) ↔ x + 1 < y := by
  rw [Int32.lt_iff_toInt_lt, m1_toInt hy, n_toInt hx]; omega
/-- the last parameter whose part is higher in the first -/
def lh (b1 b2 : Nat → Nat) : Int32 := if b2 4 < b1 4 then 4 else if b2 3 < b1 3 then 3 else if b2 2 < b1 2 then 2 else if b2 1 < b1 1 then 1 else if b2 0 < b1 0 then 0 else -1
theorem lh_cases (b1 b2 : Nat → Nat) : lh b1 b2 = -1 ∨ ∃ X, X < 5 ∧ lh b1 b2 = nI X ∧ b2 X < b1 X ∧ ∀ y, X < y → y < 5 → b1 y ≤ b2 y := by
  unfold lh
  by_cases h4 : b2 4 < b1 4
  · exact Or.inr ⟨4, by decide, by rw [if_pos h4]; rfl, h4, fun y h1 h2 => by omega⟩
  rw [if_neg h4]
  by_cases h3 : b2 3 < b1 3
  · exact Or.inr ⟨3, by decide, by rw [if_pos h3]; rfl, h3, fun y h1 h2 => by rcases (show y = 4 by omega) with rfl; omega⟩
  rw [if_neg h3]
  by_cases h2 : b2 2 < b1 2
  · exact Or.inr ⟨2, by decide, by rw [if_pos h2]; rfl, h2, fun y h1 h2 => by rcases (show y = 3 ∨ y = 4 by omega) with rfl | rfl <;> omega⟩
  rw [if_neg h2]
  by_cases h1 : b2 1 < b1 1
  · exact Or.inr ⟨1, by decide, by rw [if_pos h1]; rfl, h1, fun y h1 h2 => by rcases (show y = 2 ∨ y = 3 ∨ y = 4 by omega) with rfl | rfl | rfl <;> omega⟩
  rw [if_neg h1]
  by_cases h0 : b2 0 < b1 0
  · exact Or.inr ⟨0, by decide, by rw [if_pos h0]; rfl, h0, fun y h1 h2 => by rcases (show y = 1 ∨ y = 2 ∨ y = 3 ∨ y = 4 by omega) with rfl | rfl | rfl | rfl <;> omega⟩
  rw [if_neg h0]
  exact Or.inl rfl
/-- 1 at each parameter of a region -/
def on (g : Nat) : Nat := g % 2 + g / 2 % 2 * 4096 + g / 4 % 2 * 16777216 + g / 8 % 2 * 68719476736 + g / 16 % 2 * 281474976710656
theorem on_lt (g : Nat) : on g < 2 ^ 49 := by unfold on; omega
/-- the first point above, in a region -/
def pab (b1 b2 : Nat → Nat) (g : Nat) : Int64 := if lh b1 b2 = -1 ∨ vo b2 < vo b1 then lN (on g) else lN (on g + (vo b2 + 1 - b1 (lh b1 b2).toNatClampNeg) * 4096 ^ (lh b1 b2).toNatClampNeg)
theorem pab_else {b1 b2 : Nat → Nat} {g X : Nat} (hg : g < 32) (h1 : byt b1) (h2 : byt b2) (hX : X < 5) (eX : lh b1 b2 = nI X) (hX1 : b2 X < b1 X) (hn : ¬ lh b1 b2 = -1) (hvv : vo b1 ≤ vo b2) (hX5 : b1 X ≤ vo b1) :
    lN (on g) + (((((nI (vo b2) - (nI (b1 X) - 1)) + 1) - 1 : Int32).toInt64 <<< ((nI X * 12 : Int32).toInt64 &&& 63))) = pab b1 b2 g := by
  have hv := vo_lt h2
  rw [pab, if_neg (fun z => z.elim hn (by omega)), eX, nI_clamp (by omega)]
  have e1 : (((nI (vo b2) - (nI (b1 X) - 1)) + 1) - 1 : Int32) = nI (vo b2 + 1 - b1 X) := by
    rw [Int32.add_sub_cancel, ← Int32.toInt_inj, n_toInt (by omega)]
    obtain ⟨z, hz⟩ : ∃ z, b1 X = z + 1 := ⟨b1 X - 1, by omega⟩
    rw [hz, nI_pred, pk_sub_toInt (by omega) (by omega)]
    omega
  have e2 : (nI X * 12 : Int32) = nI (X * 12) := pk_mul X 12
  rw [e1, e2, nI_l (by omega), wb_shl _ (by omega), Nat.pow_mul', show (2 : Nat) ^ 12 = 4096 from rfl, lN_add]
theorem gr_lt {b1 b2 : Nat → Nat} (h1 : byt b1) (h2 : byt b2) : gr b1 b2 < 128 := by
  obtain ⟨q0, q1, q2, q3, q4, q5⟩ := byt_all h1
  obtain ⟨u0, u1, u2, u3, u4, u5⟩ := byt_all h2
  unfold gr; omega
