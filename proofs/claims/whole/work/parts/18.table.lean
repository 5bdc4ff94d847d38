/-! The table of levels: nd j = (kind, first or parameter, second); what follows from it, by folds. -/
def fo {α : Type} (Al : Nat → Nat → α → α → α) (d : α) (nd : Nat → Nat × Nat × Nat) (j : Nat) : α :=
  Al (nd j).1 (nd j).2.1 (if (nd j).2.1 < j then fo Al d nd (nd j).2.1 else d) (if (nd j).2.2 < j then fo Al d nd (nd j).2.2 else d)
termination_by j
theorem fo_eq {α : Type} (Al : Nat → Nat → α → α → α) (d : α) (nd : Nat → Nat × Nat × Nat) (j : Nat) : fo Al d nd j = Al (nd j).1 (nd j).2.1 (if (nd j).2.1 < j then fo Al d nd (nd j).2.1 else d) (if (nd j).2.2 < j then fo Al d nd (nd j).2.2 else d) := by rw [fo]
theorem fo_congr {α : Type} {Al : Nat → Nat → α → α → α} {d : α} {nd nd' : Nat → Nat × Nat × Nat} : ∀ (m j : Nat), j < m → (∀ i, i ≤ j → nd i = nd' i) → fo Al d nd j = fo Al d nd' j := by
  intro m
  induction m with
  | zero => intro j h; omega
  | succ m ih =>
    intro j hj h
    rw [fo_eq, fo_eq Al d nd' j, ← h j (Nat.le_refl j)]
    congr 1
    · by_cases h1 : (nd j).2.1 < j
      · rw [if_pos h1, if_pos h1, ih _ (by omega) (fun i hi => h i (by omega))]
      · rw [if_neg h1, if_neg h1]
    · by_cases h1 : (nd j).2.2 < j
      · rw [if_pos h1, if_pos h1, ih _ (by omega) (fun i hi => h i (by omega))]
      · rw [if_neg h1, if_neg h1]
/-- NEXTs in one another -/
def dp (nd : Nat → Nat × Nat × Nat) (j : Nat) : Nat := fo (fun k _ x y => dA k x y) 0 nd j
/-- the parameters that stand in a level -/
def us (nd : Nat → Nat × Nat × Nat) (j : Nat) : Nat := fo uA 0 nd j
/-- its parts in a region -/
def pb (g : Nat) (nd : Nat → Nat × Nat × Nat) (j : Nat) : Nat → Nat := fo (pA g) (sg 5) nd j
/-- its value -/
def vl (ro : Nat → Nat) (nd : Nat → Nat × Nat × Nat) (j : Nat) : Nat := fo (fun k a x y => vA k (ro a) x y) 0 nd j
/-- one row of the table -/
def rowOk (q : Nat × Nat × Nat) (j : Nat) : Prop := q.1 ≤ 4 ∧ (q.1 = 1 → q.2.1 < 5) ∧ (2 ≤ q.1 → q.2.1 < j) ∧ (3 ≤ q.1 → q.2.2 < j) ∧ (q.1 = 0 → q.2.1 = 0) ∧ (q.1 < 3 → q.2.2 = 0)
def Wn (nd : Nat → Nat × Nat × Nat) (n : Nat) : Prop := n ≤ 120 ∧ (∀ j, j < n → rowOk (nd j) j) ∧ (∀ j, j < n → dp nd j ≤ 60) ∧ ∀ i j, i < n → j < n → nd i = nd j → i = j
def fF (q : Nat × Nat × Nat) : Int32 := if q.1 = 0 then -1 else nI q.2.1
def fS (q : Nat × Nat × Nat) : Int32 := if q.1 < 3 then -1 else nI q.2.2
/-- the rows as the arrays hold them -/
def Rw (nd : Nat → Nat × Nat × Nat) (n : Nat) (K F S : Nat → Int32) : Prop := ∀ j, j < n → K j = nI (nd j).1 ∧ F j = fF (nd j) ∧ S j = fS (nd j)
theorem fF_n {q : Nat × Nat × Nat} (h : 1 ≤ q.1) : fF q = nI q.2.1 := by rw [fF, if_neg (by omega)]
theorem fS_n {q : Nat × Nat × Nat} (h : 3 ≤ q.1) : fS q = nI q.2.2 := by rw [fS, if_neg (by omega)]
theorem dp_eq {nd : Nat → Nat × Nat × Nat} {j : Nat} (h : rowOk (nd j) j) : dp nd j = dA (nd j).1 (if 2 ≤ (nd j).1 then dp nd (nd j).2.1 else 0) (if 3 ≤ (nd j).1 then dp nd (nd j).2.2 else 0) := by
  unfold dp
  rw [fo_eq]
  obtain ⟨h1, h2, h3, h4, h5, h6⟩ := h
  rcases Nat.lt_or_ge (nd j).1 2 with k | k
  · unfold dA; rw [if_pos k, if_pos k]
  rw [if_pos k, if_pos (h3 k)]
  rcases Nat.lt_or_ge (nd j).1 3 with k' | k'
  · unfold dA; rw [if_neg (by omega), if_pos (by omega), if_neg (by omega), if_pos (by omega)]
  · rw [if_pos k', if_pos (h4 k')]
theorem us_eq {nd : Nat → Nat × Nat × Nat} {j : Nat} (h : rowOk (nd j) j) : us nd j = uA (nd j).1 (nd j).2.1 (if 2 ≤ (nd j).1 then us nd (nd j).2.1 else 0) (if 3 ≤ (nd j).1 then us nd (nd j).2.2 else 0) := by
  unfold us
  rw [fo_eq]
  obtain ⟨h1, h2, h3, h4, h5, h6⟩ := h
  rcases (show (nd j).1 = 0 ∨ (nd j).1 = 1 ∨ (nd j).1 = 2 ∨ 3 ≤ (nd j).1 by omega) with k | k | k | k
  · unfold uA; simp [k]
  · unfold uA; simp [k]
  · unfold uA; simp [k, h3]
  · rw [if_pos (h3 (by omega)), if_pos (h4 k), if_pos (by omega), if_pos k]
theorem pb_eq (g : Nat) {nd : Nat → Nat × Nat × Nat} {j : Nat} (h : rowOk (nd j) j) : pb g nd j = pA g (nd j).1 (nd j).2.1 (if 2 ≤ (nd j).1 then pb g nd (nd j).2.1 else sg 5) (if 3 ≤ (nd j).1 then pb g nd (nd j).2.2 else sg 5) := by
  unfold pb
  rw [fo_eq]
  obtain ⟨h1, h2, h3, h4, h5, h6⟩ := h
  rcases (show (nd j).1 = 0 ∨ (nd j).1 = 1 ∨ (nd j).1 = 2 ∨ 3 ≤ (nd j).1 by omega) with k | k | k | k
  · unfold pA; simp [k]
  · unfold pA; simp [k]
  · unfold pA; simp [k, h3]
  · rw [if_pos (h3 (by omega)), if_pos (h4 k), if_pos (by omega), if_pos k]
theorem vl_eq (ro : Nat → Nat) {nd : Nat → Nat × Nat × Nat} {j : Nat} (h : rowOk (nd j) j) : vl ro nd j = vA (nd j).1 (ro (nd j).2.1) (if 2 ≤ (nd j).1 then vl ro nd (nd j).2.1 else 0) (if 3 ≤ (nd j).1 then vl ro nd (nd j).2.2 else 0) := by
  unfold vl
  rw [fo_eq]
  obtain ⟨h1, h2, h3, h4, h5, h6⟩ := h
  rcases (show (nd j).1 = 0 ∨ (nd j).1 = 1 ∨ (nd j).1 = 2 ∨ 3 ≤ (nd j).1 by omega) with k | k | k | k
  · unfold vA; simp [k]
  · unfold vA; simp [k]
  · unfold vA; simp [k, h3]
  · rw [if_pos (h3 (by omega)), if_pos (h4 k), if_pos (by omega), if_pos k]
/-- a level's value is no more than the greatest parameter and its NEXTs -/
theorem vl_le {ro : Nat → Nat} {B : Nat} (hB : ∀ a, a < 5 → ro a ≤ B) {nd : Nat → Nat × Nat × Nat} {n : Nat} (hW : ∀ j, j < n → rowOk (nd j) j) : ∀ (m j : Nat), j < m → j < n → vl ro nd j ≤ B + dp nd j := by
  intro m
  induction m with
  | zero => intro j h; omega
  | succ m ih =>
    intro j hj hn
    have hr := hW j hn
    rw [vl_eq ro hr, dp_eq hr]
    obtain ⟨h1, h2, h3, h4, h5, h6⟩ := hr
    rcases (show (nd j).1 = 0 ∨ (nd j).1 = 1 ∨ (nd j).1 = 2 ∨ (nd j).1 = 3 ∨ (nd j).1 = 4 by omega) with k | k | k | k | k
    · simp [vA, dA, k]
    · have := hB _ (h2 k); simp [vA, dA, k]; omega
    · have := ih (nd j).2.1 (by have := h3 (by omega); omega) (by have := h3 (by omega); omega); simp [vA, dA, k]; omega
    · have a1 := ih (nd j).2.1 (by have := h3 (by omega); omega) (by have := h3 (by omega); omega)
      have a2 := ih (nd j).2.2 (by have := h4 (by omega); omega) (by have := h4 (by omega); omega)
      simp [vA, dA, k]; omega
    · have a1 := ih (nd j).2.1 (by have := h3 (by omega); omega) (by have := h3 (by omega); omega)
      have a2 := ih (nd j).2.2 (by have := h4 (by omega); omega) (by have := h4 (by omega); omega)
      simp [vA, dA, k]
      split <;> omega
theorem up_lt {V : Nat → Int32} {f : Nat → Int32} {i : Nat} (h : ∀ z, z < i → V z = f z) : ∀ z, z < i + 1 → upd V i (f i) z = f z := fun z hz => by
  rcases Nat.lt_or_ge z i with h1 | h1
  · rw [pk_un (by omega)]; exact h z h1
  · rw [show z = i by omega, pk_us]
theorem vl_b {nd : Nat → Nat × Nat × Nat} {n : Nat} (hW : Wn nd n) (v : Int64) {j : Nat} (h : j < n) : vl (pvN v) nd j < 5000 := by
  have h1 := vl_le (ro := pvN v) (B := 4095) (fun a _ => by have := pvN_lt v a; omega) hW.2.1 (j + 1) j (by omega) h
  have h2 := hW.2.2.1 j h
  omega
theorem vl_small {nd : Nat → Nat × Nat × Nat} {n j k a : Nat} {v : Int64} (hW : Wn nd n) (hj : j < n) (h : 2 ≤ k → a < j) : (if 2 ≤ k then vl (pvN v) nd a else 0) < 900000 := by
  split
  · rename_i h2
    have := vl_b hW v (Nat.lt_trans (h h2) hj)
    omega
  · omega
theorem vl_small2 {nd : Nat → Nat × Nat × Nat} {n j k a : Nat} {v : Int64} (hW : Wn nd n) (hj : j < n) (h : 3 ≤ k → a < j) : (if 3 ≤ k then vl (pvN v) nd a else 0) < 900000 := by
  split
  · rename_i h2
    have := vl_b hW v (Nat.lt_trans (h h2) hj)
    omega
  · omega
