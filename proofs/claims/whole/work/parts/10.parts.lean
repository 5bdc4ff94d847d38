/-! The parts of a level in a region: six bytes in one long; a byte is 0 (NONE) or the number and 1. -/
def es (b : Nat → Nat) : Nat → Nat
  | 0 => 0
  | k + 1 => es b k + b k * 256 ^ k
def en (b : Nat → Nat) : Int64 := lN (es b 6)
def byt (b : Nat → Nat) : Prop := ∀ i, i < 6 → b i < 128
theorem es6 (b : Nat → Nat) : es b 6 = b 0 + b 1 * 256 + b 2 * 65536 + b 3 * 16777216 + b 4 * 4294967296 + b 5 * 1099511627776 := by simp [es]
theorem six_cases {i : Nat} (h : i < 6) : i = 0 ∨ i = 1 ∨ i = 2 ∨ i = 3 ∨ i = 4 ∨ i = 5 := by omega
theorem byt_all {b : Nat → Nat} (h : byt b) : b 0 < 128 ∧ b 1 < 128 ∧ b 2 < 128 ∧ b 3 < 128 ∧ b 4 < 128 ∧ b 5 < 128 := ⟨h 0 (by decide), h 1 (by decide), h 2 (by decide), h 3 (by decide), h 4 (by decide), h 5 (by decide)⟩
theorem es_lt {b : Nat → Nat} (h : byt b) : es b 6 < 2 ^ 47 := by
  obtain ⟨h0, h1, h2, h3, h4, h5⟩ := byt_all h
  rw [es6]; omega
theorem es_at {b : Nat → Nat} (h : byt b) {i : Nat} (hi : i < 6) : es b 6 / 2 ^ (i * 8) % 2 ^ 8 = b i := by
  obtain ⟨h0, h1, h2, h3, h4, h5⟩ := byt_all h
  rw [es6]
  rcases six_cases hi with rfl | rfl | rfl | rfl | rfl | rfl <;> (simp only [Nat.reduceMul, Nat.reducePow]; omega)
theorem en_inj {b c : Nat → Nat} (hb : byt b) (hc : byt c) (h : en b = en c) : ∀ i, i < 6 → b i = c i := by
  have h1 : es b 6 = es c 6 := (pk_lEQ (Nat.lt_trans (es_lt hb) (by decide)) (Nat.lt_trans (es_lt hc) (by decide))).mp h
  intro i hi
  rw [← es_at hb hi, ← es_at hc hi, h1]
theorem es_congr {b c : Nat → Nat} : ∀ k, (∀ i, i < k → b i = c i) → es b k = es c k
  | 0, _ => rfl
  | k + 1, h => by
    show es b k + b k * 256 ^ k = es c k + c k * 256 ^ k
    rw [es_congr k (fun i hi => h i (by omega)), h k (by omega)]
theorem en_congr {b c : Nat → Nat} (h : ∀ i, i < 6 → b i = c i) : en b = en c := by rw [en, en, es_congr 6 h]
theorem pa_en {b : Nat → Nat} (h : byt b) {i : Nat} (hi : i < 6) : (((en b).toUInt64 >>> ((nI i * 8 : Int32).toInt64.toUInt64 &&& Int64.toUInt64 63)).toInt64 &&& 255).toInt32 - 1 = nI (b i) - 1 := by
  have e1 : (nI i * 8 : Int32) = nI (i * 8) := pk_mul i 8
  have e2 : (255 : Int64) = lN (2 ^ 8 - 1) := by decide
  rw [e1, en, wb_shr (Nat.lt_trans (es_lt h) (by decide)) (by omega), e2, wb_mask (Nat.lt_of_le_of_lt (Nat.div_le_self _ _) (Nat.lt_trans (es_lt h) (by decide))) (by decide), lN_i, es_at h hi]
theorem ol_en {x i : Nat} (hx : x < 128) (hi : i < 6) : ((nI x - 1 + 1 : Int32).toInt64 <<< ((nI i * 8 : Int32).toInt64 &&& 63)) = lN (x * 256 ^ i) := by
  have e1 : (nI i * 8 : Int32) = nI (i * 8) := pk_mul i 8
  have e3 : (nI x - 1 + 1 : Int32) = nI x := by
    have h : ∀ x, x < 128 → (nI x - 1 + 1 : Int32) = nI x := by decide +kernel
    exact h x hx
  rw [e1, e3, nI_l (by omega), wb_shl x (by omega), Nat.pow_mul', show (2 : Nat) ^ 8 = 256 from rfl]
theorem or_es {b : Nat → Nat} (h : byt b) {k : Nat} (hk : k < 6) : lN (es b k) ||| lN (b k * 256 ^ k) = lN (es b (k + 1)) := by
  obtain ⟨h0, h1, h2, h3, h4, h5⟩ := byt_all h
  have e : (256 : Nat) ^ k = 2 ^ (8 * k) := by rw [Nat.pow_mul]
  refine g_or' (k := 8 * k) e.symm ?_ ?_ <;>
  rcases six_cases hk with rfl | rfl | rfl | rfl | rfl | rfl <;> (simp [es]; try omega)
/-- small numbers and 1 less, compared -/
theorem m1_toInt {x : Nat} (h : x < 1000000) : (nI x - 1).toInt = (x : Int) - 1 := by
  have := pk_sub_toInt (a := x) (b := 1) (by omega) (by decide)
  exact this
theorem m1_lt {x y : Nat} (hx : x < 1000000) (hy : y < 1000000) : (nI x - 1 : Int32) < nI y - 1 ↔ x < y := by
  rw [Int32.lt_iff_toInt_lt, m1_toInt hx, m1_toInt hy]; omega
theorem m1_eq {x y : Nat} (hx : x < 1000000) (hy : y < 1000000) : (nI x - 1 : Int32) = nI y - 1 ↔ x = y := by
  rw [← Int32.toInt_inj, m1_toInt hx, m1_toInt hy]; omega
theorem m1_none {x : Nat} (hx : x < 1000000) : (nI x - 1 : Int32) = -1 ↔ x = 0 := by
  rw [← Int32.toInt_inj, m1_toInt hx, show ((-1 : Int32)).toInt = -1 from by decide]; omega
theorem m1_max {x y : Nat} (hx : x < 1000000) (hy : y < 1000000) : (if (nI x - 1 : Int32) < nI y - 1 then nI y - 1 else nI x - 1) = nI (max x y) - 1 := by
  by_cases h : x < y
  · rw [if_pos ((m1_lt hx hy).mpr h), Nat.max_eq_right (by omega)]
  · rw [if_neg (fun z => h ((m1_lt hx hy).mp z)), Nat.max_eq_left (by omega)]
theorem m1_add (x : Nat) : (nI x - 1 + 1 : Int32) = nI x := by rw [Int32.sub_add_cancel]
