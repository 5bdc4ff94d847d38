/-- the numbers from fr on: 1 in the region, 200 at far -/
def rs (g fr : Nat) (far : Int32) (nu : Nat → Nat) : Nat → Nat := fun p => if p < fr then nu p else if g / 2 ^ p % 2 = 1 then (if nI p = far then 200 else 1) else 0
theorem rs_nus {g fr : Nat} {far : Int32} {nu : Nat → Nat} (h : ∀ a, a < fr → nu a < 100000) : nus (rs g fr far nu) := fun a _ => by
  unfold rs
  split
  · rename_i h1; exact h a h1
  · split
    · split <;> omega
    · omega
theorem pv_eq2 (v : Int64) {a : Nat} (ha : a < 5) : ((v.toUInt64 >>> ((12 * nI a : Int32).toInt64.toUInt64 &&& Int64.toUInt64 63)).toInt64 &&& 4095 : Int64).toInt32 = nI (pvN v a) := by
  obtain ⟨n, hn, rfl⟩ := wb_of v
  have e1 : (12 * nI a : Int32) = nI (12 * a) := pk_mul 12 a
  have e2 : (4095 : Int64) = lN (2 ^ 12 - 1) := by decide
  rw [e1, wb_shr hn (by omega), e2, wb_mask (Nat.lt_of_le_of_lt (Nat.div_le_self _ _) hn) (by decide), lN_i]
  unfold pvN
  rw [wb_tn hn, Nat.pow_mul, show (2 : Nat) ^ 12 = 4096 from rfl]
theorem pv_nus (v : Int64) : nus (pvN v) := fun a _ => by have := pvN_lt v a; omega
/-- the reference's part of a parameter -/
def grw (nd : Nat → Nat × Nat × Nat) (a g x : Nat) : Int32 := if g / 2 ^ x % 2 = 1 then (if 200 ≤ vl (rs g 0 (nI x) (fun _ => 0)) nd a then nI (vl (rs g 0 (nI x) (fun _ => 0)) nd a - 200) else -1) else -1
