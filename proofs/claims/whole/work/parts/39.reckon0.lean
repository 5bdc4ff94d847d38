theorem vl_k0 {ro : Nat → Nat} {nd : Nat → Nat × Nat × Nat} {i : Nat} (h : rowOk (nd i) i) (k : (nd i).1 = 0) : vl ro nd i = 0 := by rw [vl_eq ro h]; simp [vA, k]
theorem vl_k1 {ro : Nat → Nat} {nd : Nat → Nat × Nat × Nat} {i : Nat} (h : rowOk (nd i) i) (k : (nd i).1 = 1) : vl ro nd i = ro (nd i).2.1 := by rw [vl_eq ro h]; simp [vA, k]
theorem vl_k2 {ro : Nat → Nat} {nd : Nat → Nat × Nat × Nat} {i : Nat} (h : rowOk (nd i) i) (k : (nd i).1 = 2) : vl ro nd i = vl ro nd (nd i).2.1 + 1 := by rw [vl_eq ro h]; simp [vA, k]
theorem vl_k3 {ro : Nat → Nat} {nd : Nat → Nat × Nat × Nat} {i : Nat} (h : rowOk (nd i) i) (k : (nd i).1 = 3) : vl ro nd i = max (vl ro nd (nd i).2.1) (vl ro nd (nd i).2.2) := by rw [vl_eq ro h]; simp [vA, k]
theorem vl_k4 {ro : Nat → Nat} {nd : Nat → Nat × Nat × Nat} {i : Nat} (h : rowOk (nd i) i) (k : (nd i).1 = 4) : vl ro nd i = if vl ro nd (nd i).2.2 = 0 then 0 else max (vl ro nd (nd i).2.1) (vl ro nd (nd i).2.2) := by rw [vl_eq ro h]; simp [vA, k]
/-- numbers that are small -/
def nus (nu : Nat → Nat) : Prop := ∀ a, a < 5 → nu a < 100000
theorem vl_nus {nu : Nat → Nat} (h : nus nu) {nd : Nat → Nat × Nat × Nat} {n : Nat} (hW : Wn nd n) {j : Nat} (hj : j < n) : vl nu nd j < 200000 := by
  have h1 := vl_le (ro := nu) (B := 99999) (fun a ha => by have := h a ha; omega) hW.2.1 (j + 1) j (by omega) hj
  have h2 := hW.2.2.1 j hj
  omega
