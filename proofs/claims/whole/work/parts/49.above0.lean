/-! The reference's 'above': the first point, number by number. -/
theorem vl_congr {ro ro' : Nat → Nat} (h : ∀ a, a < 5 → ro a = ro' a) {nd : Nat → Nat × Nat × Nat} {n : Nat} (hW : ∀ j, j < n → rowOk (nd j) j) : ∀ (m j : Nat), j < m → j < n → vl ro nd j = vl ro' nd j := by
  intro m
  induction m with
  | zero => intro j h; omega
  | succ m ih =>
    intro j hj hn
    have hr := hW j hn
    have hr0 := hr
    obtain ⟨h1, h2, h3, h4, h5, h6⟩ := hr
    rcases (show (nd j).1 = 0 ∨ (nd j).1 = 1 ∨ (nd j).1 = 2 ∨ (nd j).1 = 3 ∨ (nd j).1 = 4 by omega) with k | k | k | k | k
    · rw [vl_k0 hr0 k, vl_k0 hr0 k]
    · rw [vl_k1 hr0 k, vl_k1 hr0 k]; exact h _ (h2 k)
    · have a1 := h3 (by omega)
      rw [vl_k2 hr0 k, vl_k2 hr0 k, ih (nd j).2.1 (by omega) (by omega)]
    · have a1 := h3 (by omega)
      have a2 := h4 (by omega)
      rw [vl_k3 hr0 k, vl_k3 hr0 k, ih (nd j).2.1 (by omega) (by omega), ih (nd j).2.2 (by omega) (by omega)]
    · have a1 := h3 (by omega)
      have a2 := h4 (by omega)
      rw [vl_k4 hr0 k, vl_k4 hr0 k, ih (nd j).2.1 (by omega) (by omega), ih (nd j).2.2 (by omega) (by omega)]
theorem rs_lt {g fr : Nat} {far : Int32} {nu : Nat → Nat} {a : Nat} (h : a < fr) : rs g fr far nu a = nu a := by rw [rs, if_pos h]
theorem rs_200 {g fr : Nat} {far : Int32} {nu : Nat → Nat} {a : Nat} (h : fr ≤ a) (hb : g / 2 ^ a % 2 = 1) (hf : nI a = far) : rs g fr far nu a = 200 := by rw [rs, if_neg (Nat.not_lt.mpr h), if_pos hb, if_pos hf]
theorem rs_1 {g fr : Nat} {far : Int32} {nu : Nat → Nat} {a : Nat} (h : fr ≤ a) (hb : g / 2 ^ a % 2 = 1) (hf : ¬ nI a = far) : rs g fr far nu a = 1 := by rw [rs, if_neg (Nat.not_lt.mpr h), if_pos hb, if_neg hf]
theorem rs_0 {g fr : Nat} {far : Int32} {nu : Nat → Nat} {a : Nat} (h : fr ≤ a) (hb : ¬ g / 2 ^ a % 2 = 1) : rs g fr far nu a = 0 := by rw [rs, if_neg (Nat.not_lt.mpr h), if_neg hb]
theorem rs_b {g fr : Nat} {far : Int32} {nu : Nat → Nat} {a : Nat} (h : fr ≤ a) (hf : ¬ nI a = far) : rs g fr far nu a = g / 2 ^ a % 2 := by
  by_cases hb : g / 2 ^ a % 2 = 1
  · rw [rs_1 h hb hf, hb]
  · rw [rs_0 h hb]; omega
def nup (nu : Nat → Nat) (p n : Nat) : Nat → Nat := fun q => if q = p then n else nu q
theorem nup_s (nu : Nat → Nat) (p n : Nat) : nup nu p n p = n := by rw [nup, if_pos rfl]
theorem nup_n {nu : Nat → Nat} {p n q : Nat} (h : q ≠ p) : nup nu p n q = nu q := by rw [nup, if_neg h]
/-- with n at p, a can still come above b -/
def abP (nd : Nat → Nat × Nat × Nat) (x y g p : Nat) (nu : Nat → Nat) (n : Nat) : Bool := !decide (gor nd x y g (p + 1) (nup nu p n) = -1)
theorem gor_ne {nd : Nat → Nat × Nat × Nat} {x y g fr : Nat} {nu : Nat → Nat} {i : Nat} (h1 : fr ≤ i) (h2 : i < 6) (h : gob nd x y g fr nu i = true) : ¬ gor nd x y g fr nu = -1 := by
  unfold gor
  rcases ff_cases (P := gob nd x y g fr nu) (6 - fr) fr with z | ⟨j, a1, a2, a3, -, -⟩
  · exact absurd h (z.2 i h1 (by omega))
  · rw [a3]; exact nI_m1 (by omega)
theorem gor_ex {nd : Nat → Nat × Nat × Nat} {x y g fr : Nat} {nu : Nat → Nat} (hf : fr ≤ 6) (h : ¬ gor nd x y g fr nu = -1) : ∃ i, fr ≤ i ∧ i < 6 ∧ gob nd x y g fr nu i = true := by
  unfold gor at h
  rcases ff_cases (P := gob nd x y g fr nu) (6 - fr) fr with z | ⟨j, a1, a2, a3, a4, -⟩
  · exact absurd z.1 h
  · exact ⟨j, a1, by omega, a4⟩
theorem abP_t {nd : Nat → Nat × Nat × Nat} {x y g p n : Nat} {nu : Nat → Nat} : abP nd x y g p nu n = true ↔ ¬ gor nd x y g (p + 1) (nup nu p n) = -1 := by
  unfold abP; rw [Bool.not_eq_true', decide_eq_false_iff_not]
theorem ab_ex {nd : Nat → Nat × Nat × Nat} {n x y g p : Nat} {nu : Nat → Nat} (hW : Wn nd n) (hx : x < n) (hy : y < n) (hp : p < 5) (h : ¬ gor nd x y g p nu = -1) : abP nd x y g p nu (g / 2 ^ p % 2) = true ∨ abP nd x y g p nu 200 = true := by
  obtain ⟨i, h1, h2, h3⟩ := gor_ex (by omega) h
  rw [gob, decide_eq_true_iff] at h3
  obtain ⟨ho, hl⟩ := h3
  have nn : ∀ a, a < 6 → ¬ nI a = -1 := fun a ha => nI_m1 (by omega)
  have ne : ∀ a b, a < 6 → b < 6 → (nI a = nI b ↔ a = b) := fun a b ha hb => nI_eq (by omega) (by omega)
  have key : ∀ (i' v : Nat), p + 1 ≤ i' → i' < 6 → (i' = p + 1 ∨ g / 2 ^ (i' - 1) % 2 = 1) → (∀ a, a < 5 → rs g p (gof p i) nu a = rs g (p + 1) (gof (p + 1) i') (nup nu p v) a) → abP nd x y g p nu v = true := by
    intro i' v a1 a2 a3 a4
    rw [abP_t]
    refine gor_ne a1 a2 ?_
    rw [gob, decide_eq_true_iff]
    refine ⟨a3, ?_⟩
    rw [← vl_congr a4 hW.2.1 (y + 1) y (by omega) hy, ← vl_congr a4 hW.2.1 (x + 1) x (by omega) hx]
    exact hl
  have g0 : ∀ f, gof f f = -1 := fun f => by rw [gof, if_pos rfl]
  have g1 : ∀ f i, f < i → gof f i = nI (i - 1) := fun f i h => by rw [gof, if_neg (by omega)]
  rcases (show i = p ∨ i = p + 1 ∨ p + 1 < i by omega) with e | e | e
  · subst e
    refine Or.inl (key (i + 1) _ (Nat.le_refl _) (by omega) (Or.inl rfl) (fun a ha => ?_))
    rw [g0, g0]
    rcases Nat.lt_trichotomy a i with z | z | z
    · rw [rs_lt z, rs_lt (by omega), nup_n (by omega)]
    · subst z
      rw [rs_b (Nat.le_refl _) (nn a (by omega)), rs_lt (by omega), nup_s]
    · rw [rs_b (by omega) (nn a (by omega)), rs_b (by omega) (nn a (by omega))]
  · subst e
    have hb : g / 2 ^ p % 2 = 1 := by
      rcases ho with z | z
      · omega
      · exact z
    refine Or.inr (key (p + 1) _ (Nat.le_refl _) (by omega) (Or.inl rfl) (fun a ha => ?_))
    rw [g0, g1 p (p + 1) (by omega), Nat.add_sub_cancel]
    rcases Nat.lt_trichotomy a p with z | z | z
    · rw [rs_lt z, rs_lt (by omega), nup_n (by omega)]
    · subst z
      rw [rs_200 (Nat.le_refl _) hb rfl, rs_lt (by omega), nup_s]
    · rw [rs_b (by omega) (fun q => by have := (ne a p (by omega) (by omega)).mp q; omega), rs_b (by omega) (nn a (by omega))]
  · refine Or.inl (key i _ (by omega) h2 (Or.inr (ho.resolve_left (by omega))) (fun a ha => ?_))
    rw [g1 p i (by omega), g1 (p + 1) i (by omega)]
    rcases Nat.lt_trichotomy a p with z | z | z
    · rw [rs_lt z, rs_lt (by omega), nup_n (by omega)]
    · subst z
      rw [rs_b (Nat.le_refl _) (fun q => by have := (ne a (i - 1) (by omega) (by omega)).mp q; omega), rs_lt (by omega), nup_s]
    · unfold rs
      rw [if_neg (show ¬ a < p by omega), if_neg (show ¬ a < p + 1 by omega)]
def fi (P : Nat → Bool) : Nat → Nat → Nat
  | i, 0 => i
  | i, m + 1 => if P i = true then i else fi P (i + 1) m
theorem fi_spec {P : Nat → Bool} : ∀ m i, (∃ j, i ≤ j ∧ j < i + m ∧ P j = true) → P (fi P i m) = true ∧ i ≤ fi P i m ∧ fi P i m < i + m ∧ ∀ k, i ≤ k → k < fi P i m → ¬ P k = true
  | 0, i, ⟨j, h1, h2, _⟩ => by omega
  | m + 1, i, ⟨j, h1, h2, h3⟩ => by
    by_cases h : P i = true
    · rw [fi, if_pos h]; exact ⟨h, Nat.le_refl _, by omega, fun k a b => by omega⟩
    · have hj : i + 1 ≤ j := by
        rcases Nat.lt_or_ge i j with z | z
        · exact z
        · exact absurd (by rw [show i = j by omega]; exact h3) h
      obtain ⟨a, b, c, d⟩ := fi_spec (P := P) m (i + 1) ⟨j, hj, by omega, h3⟩
      rw [fi, if_neg h]
      refine ⟨a, by omega, by omega, fun k z1 z2 => ?_⟩
      rcases Nat.lt_or_ge i k with z | z
      · exact d k z z2
      · rw [show k = i by omega]; exact h
def abn (nd : Nat → Nat × Nat × Nat) (x y g p : Nat) (nu : Nat → Nat) : Nat := fi (abP nd x y g p nu) (g / 2 ^ p % 2) 201
def abu (nd : Nat → Nat × Nat × Nat) (x y g : Nat) : Nat → Nat → Nat
  | 0 => fun _ => 0
  | p + 1 => nup (abu nd x y g p) p (abn nd x y g p (abu nd x y g p))
def abv (nd : Nat → Nat × Nat × Nat) (x y g : Nat) : Nat → Nat
  | 0 => 0
  | p + 1 => abv nd x y g p + abn nd x y g p (abu nd x y g p) * 4096 ^ p
theorem abn_spec {nd : Nat → Nat × Nat × Nat} {n x y g p : Nat} {nu : Nat → Nat} (hW : Wn nd n) (hx : x < n) (hy : y < n) (hp : p < 5) (h : ¬ gor nd x y g p nu = -1) : ¬ gor nd x y g (p + 1) (nup nu p (abn nd x y g p nu)) = -1 ∧ g / 2 ^ p % 2 ≤ abn nd x y g p nu ∧ abn nd x y g p nu < 300 ∧ ∀ k, g / 2 ^ p % 2 ≤ k → k < abn nd x y g p nu → gor nd x y g (p + 1) (nup nu p k) = -1 := by
  have hb : g / 2 ^ p % 2 < 2 := Nat.mod_lt _ (by decide)
  obtain ⟨a, b, c, d⟩ := fi_spec (P := abP nd x y g p nu) 201 (g / 2 ^ p % 2) (by
    rcases ab_ex hW hx hy hp h with z | z
    · exact ⟨_, Nat.le_refl _, by omega, z⟩
    · exact ⟨200, by omega, by omega, z⟩)
  exact ⟨abP_t.mp a, b, by unfold abn; omega, fun k h1 h2 => Decidable.byContradiction fun z => d k h1 h2 (abP_t.mpr z)⟩
theorem abu_ok {nd : Nat → Nat × Nat × Nat} {n x y g : Nat} (hW : Wn nd n) (hx : x < n) (hy : y < n) (h : ¬ gor nd x y g 0 (fun _ => 0) = -1) : ∀ p, p ≤ 5 → ¬ gor nd x y g p (abu nd x y g p) = -1 ∧ (∀ a, a < p → abu nd x y g p a < 300) ∧ abv nd x y g p < 4096 ^ p
  | 0, _ => ⟨h, fun a ha => by omega, by show 0 < _; omega⟩
  | p + 1, hp => by
    obtain ⟨a, b, c⟩ := abu_ok hW hx hy h p (by omega)
    obtain ⟨d, -, e, -⟩ := abn_spec hW hx hy (by omega) a
    refine ⟨d, fun q hq => ?_, ?_⟩
    · unfold abu
      rcases Nat.lt_or_ge q p with z | z
      · rw [nup_n (by omega)]; exact b q z
      · rw [show q = p by omega, nup_s]; exact e
    · unfold abv
      rw [Nat.pow_succ]
      have : abn nd x y g p (abu nd x y g p) * 4096 ^ p ≤ 4095 * 4096 ^ p := Nat.mul_le_mul_right _ (by omega)
      omega
theorem ab_or {v N p : Nat} (hp : p < 5) (hv : v < 4096 ^ p) (hN : N < 300) : (lN v ||| ((nI N : Int32).toInt64 <<< ((12 * nI p : Int32).toInt64 &&& 63)) : Int64) = lN (v + N * 4096 ^ p) := by
  have e1 : (12 * nI p : Int32) = nI (12 * p) := pk_mul 12 p
  have e2 : (2 : Nat) ^ (12 * p) = 4096 ^ p := by rw [Nat.pow_mul]
  have e3 : (4096 : Nat) ^ p ≤ 4096 ^ 4 := Nat.pow_le_pow_right (by decide) (by omega)
  have e4 : N * 4096 ^ p ≤ 299 * 4096 ^ 4 := Nat.mul_le_mul (by omega) e3
  have e5 : (4096 : Nat) ^ 4 = 281474976710656 := by decide
  rw [e1, nI_l (by omega), wb_shl _ (by omega), g_or' (k := 12 * p) (p := 2 ^ (12 * p)) rfl (by rw [e2]; exact hv) (by rw [e2]; omega), e2]
theorem bit51 : ∀ g, g < 32 → ∀ a, a < 5 → ((((nI g) >>> (nI a &&& 31)) &&& 1) = (1 : Int32) ↔ g / 2 ^ a % 2 = 1) := by decide +kernel
theorem nup_up {NU : Nat → Int32} {nu : Nat → Nat} {i k : Nat} (h : ∀ a, a < i → NU a = nI (nu a)) : ∀ a, a < i + 1 → upd NU i (nI k) a = nI (nup nu i k a) := fun a ha => by
  rcases Nat.lt_or_ge a i with z | z
  · rw [pk_un (by omega), nup_n (by omega)]; exact h a z
  · rw [show a = i by omega, pk_us, nup_s]
theorem nup_lt {nu : Nat → Nat} {i k : Nat} (h : ∀ a, a < i → nu a < 300) (hk : k < 300) : ∀ a, a < i + 1 → nup nu i k a < 100000 := fun a ha => by
  rcases Nat.lt_or_ge a i with z | z
  · rw [nup_n (by omega)]; have := h a z; omega
  · rw [show a = i by omega, nup_s]; omega
