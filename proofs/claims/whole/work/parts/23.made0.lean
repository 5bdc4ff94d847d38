/-! A new level: the table grows by one row. -/
abbrev LvS : Type := (Nat → Int32) × (Nat → Int32) × (Nat → Int32) × (Nat → Int32) × (Nat → Int32) × (Nat → Int64) × Nat
abbrev wLvS (cI cL : ClassId) (ad : Nat → Nat) (V : Nat → Int32) (u : LvS) : va_W := wLv cI cL ad u.1 u.2.1 u.2.2.1 u.2.2.2.1 u.2.2.2.2.1 V u.2.2.2.2.2.1 u.2.2.2.2.2.2
def LvOk (nd : Nat → Nat × Nat × Nat) (n : Nat) (K F S D U : Nat → Int32) (PT : Nat → Int64) : Prop := Wn nd n ∧ Rw nd n K F S ∧ (∀ j, j < n → D j = nI (dp nd j)) ∧ (∀ j, j < n → U j = nI (us nd j)) ∧ ∀ j, j < n → ∀ g, g < 32 → PT (j * 32 + g) = en (pb g nd j)
def LvU (nd : Nat → Nat × Nat × Nat) (u : LvS) : Prop := LvOk nd u.2.2.2.2.2.2 u.1 u.2.1 u.2.2.1 u.2.2.2.1 u.2.2.2.2.1 u.2.2.2.2.2.1
def ext (nd : Nat → Nat × Nat × Nat) (n : Nat) (q : Nat × Nat × Nat) : Nat → Nat × Nat × Nat := fun j => if j = n then q else nd j
theorem ext_n {nd : Nat → Nat × Nat × Nat} {n : Nat} {q : Nat × Nat × Nat} : ext nd n q n = q := by rw [ext, if_pos rfl]
theorem ext_lt {nd : Nat → Nat × Nat × Nat} {n : Nat} {q : Nat × Nat × Nat} {j : Nat} (h : j < n) : ext nd n q j = nd j := by rw [ext, if_neg (by omega)]
theorem ext_fo {α : Type} {Al : Nat → Nat → α → α → α} {d : α} {nd : Nat → Nat × Nat × Nat} {n : Nat} {q : Nat × Nat × Nat} {j : Nat} (h : j < n) : fo Al d (ext nd n q) j = fo Al d nd j := fo_congr (j + 1) j (by omega) (fun i hi => ext_lt (by omega))
theorem ext_row {nd : Nat → Nat × Nat × Nat} {n : Nat} {q : Nat × Nat × Nat} (h : rowOk q n) : rowOk (ext nd n q n) n := by rw [ext_n]; exact h
/-- what came of a call of 'made' that returned -/
def mkd (nd : Nat → Nat × Nat × Nat) (n : Nat) (q : Nat × Nat × Nat) (r : Int32) (nd' : Nat → Nat × Nat × Nat) (n' : Nat) : Prop :=
  (∃ j, j < n ∧ nd j = q ∧ r = nI j ∧ nd' = nd ∧ n' = n) ∨ ((∀ j, j < n → nd j ≠ q) ∧ n < 120 ∧ ¬ (q.1 = 2 ∧ 60 ≤ dp nd q.2.1) ∧ r = nI n ∧ nd' = ext nd n q ∧ n' = n + 1)
/-- what came of one that threw -/
def mkx (nd : Nat → Nat × Nat × Nat) (n : Nat) (q : Nat × Nat × Nat) (X : String) : Prop :=
  (∀ j, j < n → nd j ≠ q) ∧ ((X = "java/lang/IllegalArgumentException" ∧ q.1 = 2 ∧ 60 ≤ dp nd q.2.1) ∨ (X = "java/lang/IllegalStateException" ∧ ¬ (q.1 = 2 ∧ 60 ≤ dp nd q.2.1) ∧ n = 120))
theorem row_inj {p q : Nat × Nat × Nat} {i j : Nat} (hp : rowOk p i) (hq : rowOk q j) (hi : i ≤ 120) (hj : j ≤ 120) (h1 : nI p.1 = nI q.1) (h2 : fF p = fF q) (h3 : fS p = fS q) : p = q := by
  obtain ⟨p1, p2, p3⟩ := p
  obtain ⟨q1, q2, q3⟩ := q
  obtain ⟨a1, a2, a3, a4, a5, a6⟩ := hp
  obtain ⟨b1, b2, b3, b4, b5, b6⟩ := hq
  simp only at *
  have e1 : p1 = q1 := (nI_eq (by omega) (by omega)).mp h1
  subst e1
  have e2 : p2 = q2 := by
    rcases Nat.eq_zero_or_pos p1 with z | z
    · rw [a5 z, b5 z]
    · rw [fF_n (q := (p1, p2, p3)) z, fF_n (q := (p1, q2, q3)) z] at h2
      have c1 : p2 < 120 := by
        rcases Nat.lt_or_ge p1 2 with y | y
        · have := a2 (by omega); omega
        · have := a3 y; omega
      have c2 : q2 < 120 := by
        rcases Nat.lt_or_ge p1 2 with y | y
        · have := b2 (by omega); omega
        · have := b3 y; omega
      exact (nI_eq (by omega) (by omega)).mp h2
  have e3 : p3 = q3 := by
    rcases Nat.lt_or_ge p1 3 with z | z
    · rw [a6 z, b6 z]
    · rw [fS_n (q := (p1, p2, p3)) z, fS_n (q := (p1, q2, q3)) z] at h3
      have c1 := a4 z
      have c2 := b4 z
      exact (nI_eq (by omega) (by omega)).mp h3
  subst e2; subst e3; rfl
def fnd (K F S : Nat → Int32) (n : Nat) (q : Nat × Nat × Nat) : Int32 := ff (fun j => decide (K j = nI q.1) && decide (F j = fF q) && decide (S j = fS q)) 0 n
theorem fnd_cases {nd : Nat → Nat × Nat × Nat} {n : Nat} {K F S : Nat → Int32} {q : Nat × Nat × Nat} (hW : Wn nd n) (hR : Rw nd n K F S) (hq : rowOk q n) : (fnd K F S n q = -1 ∧ ∀ j, j < n → nd j ≠ q) ∨ ∃ j, j < n ∧ nd j = q ∧ fnd K F S n q = nI j := by
  unfold fnd
  rcases ff_cases (P := fun j => decide (K j = nI q.1) && decide (F j = fF q) && decide (S j = fS q)) n 0 with ⟨h1, h2⟩ | ⟨j, h1, h2, h3, h4, h5⟩
  · refine Or.inl ⟨h1, fun j hj e => h2 j (Nat.zero_le _) (by omega) ?_⟩
    obtain ⟨a, b, c⟩ := hR j hj
    simp [a, b, c, e]
  · refine Or.inr ⟨j, by omega, ?_, h3⟩
    obtain ⟨a, b, c⟩ := hR j (by omega)
    simp only [Bool.and_eq_true, decide_eq_true_eq] at h4
    exact row_inj (hW.2.1 j (by omega)) hq (by have := hW.1; omega) hW.1 (by rw [← a]; exact h4.1.1) (by rw [← b]; exact h4.1.2) (by rw [← c]; exact h4.2)
theorem us_lt {nd : Nat → Nat × Nat × Nat} {n : Nat} (hW : ∀ j, j < n → rowOk (nd j) j) : ∀ (m j : Nat), j < m → j < n → us nd j < 32 := by
  intro m
  induction m with
  | zero => intro j h; omega
  | succ m ih =>
    intro j hj hn
    have hr := hW j hn
    rw [us_eq hr]
    obtain ⟨h1, h2, h3, h4, h5, h6⟩ := hr
    have p5 : ∀ a, a < 5 → 2 ^ a < 32 := by decide
    have o5 : ∀ x, x < 32 → ∀ y, y < 32 → x ||| y < 32 := by decide +kernel
    rcases (show (nd j).1 = 0 ∨ (nd j).1 = 1 ∨ (nd j).1 = 2 ∨ 3 ≤ (nd j).1 by omega) with k | k | k | k
    · simp [uA, k]
    · simp [uA, k]; exact p5 _ (h2 k)
    · have := ih (nd j).2.1 (by have := h3 (by omega); omega) (by have := h3 (by omega); omega); simp [uA, k]; omega
    · have a1 := ih (nd j).2.1 (by have := h3 (by omega); omega) (by have := h3 (by omega); omega)
      have a2 := ih (nd j).2.2 (by have := h4 (by omega); omega) (by have := h4 (by omega); omega)
      unfold uA
      rw [if_neg (by omega), if_neg (by omega), if_pos k, if_pos (by omega), if_pos k]
      exact o5 _ a1 _ a2
theorem jn_le {X Y : Nat → Nat} {B : Nat} (hX : ∀ i, i < 6 → X i ≤ B) (hY : ∀ i, i < 6 → Y i ≤ B) : ∀ i, i < 6 → jn X Y i ≤ B := fun i hi => by
  have a1 := hX i hi
  have a2 := hY i hi
  have c1 := hX 5 (by decide)
  have c2 := hY 5 (by decide)
  unfold jn
  split
  · omega
  · split <;> omega
theorem pb_le {nd : Nat → Nat × Nat × Nat} {n : Nat} (hW : ∀ j, j < n → rowOk (nd j) j) (g : Nat) : ∀ (m j : Nat), j < m → j < n → ∀ i, i < 6 → pb g nd j i ≤ dp nd j + 1 := by
  intro m
  induction m with
  | zero => intro j h; omega
  | succ m ih =>
    intro j hj hn i hi
    have hr := hW j hn
    rw [pb_eq g hr, dp_eq hr]
    obtain ⟨h1, h2, h3, h4, h5, h6⟩ := hr
    have s1 : ∀ a b : Nat, sg a b ≤ 1 := fun a b => by unfold sg; split <;> omega
    rcases (show (nd j).1 = 0 ∨ (nd j).1 = 1 ∨ (nd j).1 = 2 ∨ (nd j).1 = 3 ∨ (nd j).1 = 4 by omega) with k | k | k | k | k
    · have := s1 5 i; simp [pA, dA, k]; omega
    · simp only [pA, dA, k, if_true]
      split
      · have := s1 (nd j).2.1 i; omega
      · have := s1 5 i; omega
    · have a1 := ih (nd j).2.1 (by have := h3 (by omega); omega) (by have := h3 (by omega); omega) i hi
      simp [pA, dA, k, ra]
      split <;> omega
    · have a1 := ih (nd j).2.1 (by have := h3 (by omega); omega) (by have := h3 (by omega); omega)
      have a2 := ih (nd j).2.2 (by have := h4 (by omega); omega) (by have := h4 (by omega); omega)
      simp only [pA, dA, k]
      simp
      exact jn_le (B := max (dp nd (nd j).2.1) (dp nd (nd j).2.2) + 1) (fun i hi => by have := a1 i hi; omega) (fun i hi => by have := a2 i hi; omega) i hi
    · have a1 := ih (nd j).2.1 (by have := h3 (by omega); omega) (by have := h3 (by omega); omega)
      have a2 := ih (nd j).2.2 (by have := h4 (by omega); omega) (by have := h4 (by omega); omega)
      simp only [pA, dA, k]
      simp
      split
      · have := a2 i hi; omega
      · exact jn_le (B := max (dp nd (nd j).2.1) (dp nd (nd j).2.2) + 1) (fun i hi => by have := a1 i hi; omega) (fun i hi => by have := a2 i hi; omega) i hi
theorem pb_b {nd : Nat → Nat × Nat × Nat} {n : Nat} (hW : Wn nd n) (g : Nat) {j : Nat} (h : j < n) : (∀ i, i < 6 → pb g nd j i < 62) ∧ byt (pb g nd j) := by
  have h1 : ∀ i, i < 6 → pb g nd j i < 62 := fun i hi => by
    have a := pb_le hW.2.1 g (j + 1) j (by omega) h i hi
    have b := hW.2.2.1 j h
    omega
  exact ⟨h1, fun i hi => by have := h1 i hi; omega⟩
/-- the table with its new row is in order, and so are the arrays -/
theorem ext_Wn {nd : Nat → Nat × Nat × Nat} {n : Nat} {q : Nat × Nat × Nat} (hW : Wn nd n) (hq : rowOk q n) (hn : n < 120) (hnew : ∀ j, j < n → nd j ≠ q) (hd : ¬ (q.1 = 2 ∧ 60 ≤ dp nd q.2.1)) : Wn (ext nd n q) (n + 1) := by
  refine ⟨by omega, fun j hj => ?_, fun j hj => ?_, fun i j hi hj e => ?_⟩
  · rcases Nat.lt_or_ge j n with h | h
    · rw [ext_lt h]; exact hW.2.1 j h
    · rw [show j = n by omega]; exact ext_row hq
  · rcases Nat.lt_or_ge j n with h | h
    · unfold dp; rw [ext_fo h]; exact hW.2.2.1 j h
    · rw [show j = n by omega, dp_eq (ext_row hq), ext_n]
      obtain ⟨h1, h2, h3, h4, h5, h6⟩ := hq
      rcases (show q.1 < 2 ∨ q.1 = 2 ∨ 3 ≤ q.1 by omega) with k | k | k
      · unfold dA; rw [if_pos k]; omega
      · have a := h3 (by omega)
        have : dp (ext nd n q) q.2.1 = dp nd q.2.1 := ext_fo a
        unfold dA
        rw [if_neg (by omega), if_pos k, if_pos (by omega), this]
        have : ¬ 60 ≤ dp nd q.2.1 := fun z => hd ⟨k, z⟩
        omega
      · have a := h3 (by omega)
        have b := h4 k
        have e1 : dp (ext nd n q) q.2.1 = dp nd q.2.1 := ext_fo a
        have e2 : dp (ext nd n q) q.2.2 = dp nd q.2.2 := ext_fo b
        unfold dA
        rw [if_neg (by omega), if_neg (by omega), if_pos (by omega), if_pos k, e1, e2]
        have := hW.2.2.1 _ a
        have := hW.2.2.1 _ b
        omega
  · rcases Nat.lt_or_ge i n with h | h <;> rcases Nat.lt_or_ge j n with h' | h'
    · rw [ext_lt h, ext_lt h'] at e; exact hW.2.2.2 i j h h' e
    · rw [ext_lt h, show j = n by omega, ext_n] at e; exact absurd e (hnew i h)
    · rw [ext_lt h', show i = n by omega, ext_n] at e; exact absurd e.symm (hnew j h')
    · omega
theorem ext_dp {nd : Nat → Nat × Nat × Nat} {n : Nat} {q : Nat × Nat × Nat} (hq : rowOk q n) : dp (ext nd n q) n = dA q.1 (if 2 ≤ q.1 then dp nd q.2.1 else 0) (if 3 ≤ q.1 then dp nd q.2.2 else 0) := by
  rw [dp_eq (ext_row hq), ext_n]
  congr 1
  · split
    · rename_i h; exact ext_fo (hq.2.2.1 h)
    · rfl
  · split
    · rename_i h; exact ext_fo (hq.2.2.2.1 h)
    · rfl
theorem ext_us {nd : Nat → Nat × Nat × Nat} {n : Nat} {q : Nat × Nat × Nat} (hq : rowOk q n) : us (ext nd n q) n = uA q.1 q.2.1 (if 2 ≤ q.1 then us nd q.2.1 else 0) (if 3 ≤ q.1 then us nd q.2.2 else 0) := by
  rw [us_eq (ext_row hq), ext_n]
  congr 1
  · split
    · rename_i h; exact ext_fo (hq.2.2.1 h)
    · rfl
  · split
    · rename_i h; exact ext_fo (hq.2.2.2.1 h)
    · rfl
theorem ext_pb (g : Nat) {nd : Nat → Nat × Nat × Nat} {n : Nat} {q : Nat × Nat × Nat} (hq : rowOk q n) : pb g (ext nd n q) n = pA g q.1 q.2.1 (if 2 ≤ q.1 then pb g nd q.2.1 else sg 5) (if 3 ≤ q.1 then pb g nd q.2.2 else sg 5) := by
  rw [pb_eq g (ext_row hq), ext_n]
  congr 1
  · split
    · rename_i h; exact ext_fo (hq.2.2.1 h)
    · rfl
  · split
    · rename_i h; exact ext_fo (hq.2.2.2.1 h)
    · rfl
theorem if_lt {k B : Nat} {c : Prop} (hc : Decidable c) (h : c → k < B) (hB : 0 < B) : (if c then k else 0) < B := by
  by_cases h1 : c
  · rw [if_pos h1]; exact h h1
  · rw [if_neg h1]; exact hB
theorem if_pb {nd : Nat → Nat × Nat × Nat} {n a : Nat} {c : Prop} (hc : Decidable c) (hW : Wn nd n) (g : Nat) (h : c → a < n) : byt (if c then pb g nd a else sg 5) ∧ ∀ i, i < 6 → (if c then pb g nd a else sg 5) i < 127 := by
  by_cases h1 : c
  · rw [if_pos h1]; exact ⟨(pb_b hW g (h h1)).2, fun i hi => by have := (pb_b hW g (h h1)).1 i hi; omega⟩
  · rw [if_neg h1]; exact ⟨sg_byt, fun i hi => by unfold sg; split <;> omega⟩
theorem ext_ok {nd : Nat → Nat × Nat × Nat} {n : Nat} {K F S D U : Nat → Int32} {PT PT' : Nat → Int64} {q : Nat × Nat × Nat} (h : LvOk nd n K F S D U PT) (hq : rowOk q n) (hn : n < 120) (hnew : ∀ j, j < n → nd j ≠ q) (hd : ¬ (q.1 = 2 ∧ 60 ≤ dp nd q.2.1)) (h1 : ∀ g, g < 32 → PT' (n * 32 + g) = en (pb g (ext nd n q) n)) (h2 : ∀ z, z < n * 32 → PT' z = PT z) :
    LvOk (ext nd n q) (n + 1) (upd K n (nI q.1)) (upd F n (fF q)) (upd S n (fS q)) (upd D n (nI (dp (ext nd n q) n))) (upd U n (nI (us (ext nd n q) n))) PT' := by
  obtain ⟨hW, hR, hD, hU, hT⟩ := h
  refine ⟨ext_Wn hW hq hn hnew hd, fun j hj => ?_, fun j hj => ?_, fun j hj => ?_, fun j hj g hg => ?_⟩
  · rcases Nat.lt_or_ge j n with a | a
    · rw [pk_un (by omega), pk_un (by omega), pk_un (by omega), ext_lt a]; exact hR j a
    · rw [show j = n by omega, pk_us, pk_us, pk_us, ext_n]; exact ⟨rfl, rfl, rfl⟩
  · rcases Nat.lt_or_ge j n with a | a
    · rw [pk_un (by omega), hD j a]; unfold dp; rw [ext_fo a]
    · rw [show j = n by omega, pk_us]
  · rcases Nat.lt_or_ge j n with a | a
    · rw [pk_un (by omega), hU j a]; unfold us; rw [ext_fo a]
    · rw [show j = n by omega, pk_us]
  · rcases Nat.lt_or_ge j n with a | a
    · rw [h2 _ (by omega), hT j a g hg]; unfold pb; rw [ext_fo a]
    · rw [show j = n by omega]; exact h1 g hg
theorem pt_up {PT : Nat → Int64} {n i : Nat} {f : Nat → Int64} (h : ∀ g, g < i → PT (n * 32 + g) = f g) : ∀ g, g < i + 1 → vp_updL PT (n * 32 + i) (f i) (n * 32 + g) = f g := fun g hg => by
  rcases Nat.lt_or_ge g i with a | a
  · rw [pk_uLn (by omega)]; exact h g a
  · rw [show g = i by omega, pk_uLs]
