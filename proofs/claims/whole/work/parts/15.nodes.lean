/-! What a level is made of: kind k, first a (or parameter), second b; what follows from its parts. -/
def dA (k x y : Nat) : Nat := if k < 2 then 0 else if k = 2 then x + 1 else max x y
def uA (k a x y : Nat) : Nat := if k = 1 then 2 ^ a else if k = 2 then x else if 3 ≤ k then x ||| y else 0
def sg (i : Nat) : Nat → Nat := fun q => if q = i then 1 else 0
def pA (g k a : Nat) (X Y : Nat → Nat) : Nat → Nat := if k = 1 then (if g / 2 ^ a % 2 = 1 then sg a else sg 5) else if k = 2 then ra X else if k = 3 then jn X Y else if k = 4 then (if Y 5 = 1 then Y else jn X Y) else sg 5
def vA (k v x y : Nat) : Nat := if k = 1 then v else if k = 2 then x + 1 else if k = 3 then max x y else if k = 4 then (if y = 0 then 0 else max x y) else 0
/-- a parameter's number in a row of numbers -/
def pvN (v : Int64) (a : Nat) : Nat := v.toBitVec.toNat / 4096 ^ a % 4096
theorem pvN_lt (v : Int64) (a : Nat) : pvN v a < 4096 := Nat.mod_lt _ (by decide)
theorem pv_eq (v : Int64) {a : Nat} (ha : a < 5) : ((v.toUInt64 >>> ((nI a * 12 : Int32).toInt64.toUInt64 &&& Int64.toUInt64 63)).toInt64.toInt32 &&& 4095 : Int32) = nI (pvN v a) := by
  obtain ⟨n, hn, rfl⟩ := wb_of v
  rw [show (nI a * 12 : Int32) = nI (a * 12) from pk_mul a 12, wb_shr hn (by omega), lN_i]
  rw [pk_and _ 12 (by decide)]
  unfold pvN
  rw [wb_tn hn]
  congr 1
  show (BitVec.ofNat 32 (n / 2 ^ (a * 12))).toNat % 2 ^ 12 = _
  rw [BitVec.toNat_ofNat, Nat.mod_mod_of_dvd _ (by decide), Nat.pow_mul', show (2 : Nat) ^ 12 = 4096 from rfl]
theorem sg_byt {i : Nat} : byt (sg i) := fun q _ => by unfold sg; split <;> omega
theorem en_sg : ∀ i, i < 6 → lN (1 * 256 ^ i) = en (sg i) := fun i hi => by
  rcases six_cases hi with rfl | rfl | rfl | rfl | rfl | rfl <;> decide +kernel
theorem or32 : ∀ x, x < 32 → ∀ y, y < 32 → (nI x ||| nI y : Int32) = nI (x ||| y) := by decide +kernel
theorem shl5 : ∀ a, a < 5 → ((1 : Int32) <<< (nI a &&& 31)) = nI (2 ^ a) := by decide +kernel
theorem bit5 : ∀ g, g < 32 → ∀ a, a < 5 → ((((nI g) >>> (nI a &&& 31)) &&& 1) = (0 : Int32) ↔ ¬ g / 2 ^ a % 2 = 1) := by decide +kernel
