section LVL2
variable {nd : Nat → Nat × Nat × Nat} {n : Nat}
theorem ff_no {P : Nat → Bool} {m : Nat} (hm : m < 2 ^ 31) : ff P 0 m = -1 ↔ ∀ j, j < m → ¬ P j = true := by
  rcases ff_cases (P := P) m 0 with z | ⟨j, -, h2, h3, h4, -⟩
  · exact ⟨fun _ j hj => z.2 j (Nat.zero_le _) (by omega), fun _ => z.1⟩
  · exact ⟨fun h => absurd (h3.symm.trans h) (nI_m1 (by omega)), fun h => absurd h4 (h j (by omega))⟩
theorem rgo_no (hW : Wn nd n) {x y : Nat} (hx : x < n) (hy : y < n) : rgo nd x y = -1 ↔ ∀ g, g < 32 → ¬ abv0 (pb g nd x) (pb g nd y) := by
  unfold rgo
  rw [ff_no (by decide)]
  refine ⟨fun h g hg z => h g hg ?_, fun h g hg z => h g hg ?_⟩
  · rw [Bool.not_eq_true', decide_eq_false_iff_not]; exact (gor_0 hW hx hy).mpr z
  · rw [Bool.not_eq_true', decide_eq_false_iff_not] at z; exact (gor_0 hW hx hy).mp z
theorem CF_eq {g : Nat} {b1 b2 : Nat → Nat} (h1 : CF g b1) (h2 : CF g b2) (ha : ¬ abv0 b1 b2) (hb : ¬ abv0 b2 b1) : ∀ i, i < 6 → b1 i = b2 i := by
  have e : ∀ p, p < 5 → b1 p = b2 p := fun p hp => by
    have a : ¬ b2 p < b1 p := fun z => ha (Or.inr ⟨p, hp, z⟩)
    have b : ¬ b1 p < b2 p := fun z => hb (Or.inr ⟨p, hp, z⟩)
    omega
  have v : vo b1 = vo b2 := by
    have a : ¬ vo b2 < vo b1 := fun z => ha (Or.inl z)
    have b : ¬ vo b1 < vo b2 := fun z => hb (Or.inl z)
    omega
  have k : ∀ c : Nat → Nat, CF g c → ¬ c 5 = 0 → vo c = c 5 - 1 ∧ ∀ p, p < 5 → c p = 0 ∨ c p < vo c := fun c hc h5 => by
    have w := vo_le.mp (Nat.le_refl (vo c))
    have : vo c ≤ c 5 - 1 := vo_le.mpr ⟨Nat.le_refl _, fun p hp => by
      rcases hc.2.1 h5 with z | z
      · rw [z p hp]; omega
      · have := z p hp; omega⟩
    refine ⟨by omega, fun p hp => ?_⟩
    rcases hc.2.1 h5 with z | z
    · exact Or.inl (z p hp)
    · have := z p hp; right; omega
  have k0 : ∀ c : Nat → Nat, c 5 = 0 → (∃ p, p < 5 ∧ ¬ c p = 0) → ∃ p, p < 5 ∧ ¬ c p = 0 ∧ c p = vo c := fun c h5 hex => by
    rcases Classical.em (∃ p, p < 5 ∧ ¬ c p = 0 ∧ c p = vo c) with z | z
    · exact z
    · exfalso
      obtain ⟨p, hp, q⟩ := hex
      have w := vo_le.mp (Nat.le_refl (vo c))
      have : vo c ≤ vo c - 1 := vo_le.mpr ⟨by omega, fun p hp => by
        have a := w.2 p hp
        by_cases y : c p = 0
        · omega
        · have : ¬ c p = vo c := fun r => z ⟨p, hp, y, r⟩
          omega⟩
      have := w.2 p hp; omega
  intro i hi
  rcases Nat.lt_or_ge i 5 with z | z
  · exact e i z
  · rw [show i = 5 by omega]
    by_cases y1 : b1 5 = 0
    · by_cases y2 : b2 5 = 0
      · rw [y1, y2]
      · exfalso
        obtain ⟨p, hp, q, r⟩ := k0 b1 y1 (h1.2.2 y1)
        have := (k b2 h2 y2).2 p hp; have := e p hp; omega
    · by_cases y2 : b2 5 = 0
      · exfalso
        obtain ⟨p, hp, q, r⟩ := k0 b2 y2 (h2.2.2 y2)
        have := (k b1 h1 y1).2 p hp; have := e p hp; omega
      · have := (k b1 h1 y1).1; have := (k b2 h2 y2).1; omega
theorem abv0_self (b1 b2 : Nat → Nat) (h : ∀ i, i < 6 → b1 i = b2 i) : ¬ abv0 b1 b2 := by
  have v : vo b1 = vo b2 := by
    unfold vo; rw [h 0 (by decide), h 1 (by decide), h 2 (by decide), h 3 (by decide), h 4 (by decide), h 5 (by decide)]
  rintro (z | ⟨p, hp, z⟩)
  · omega
  · have := h p (by omega); omega
theorem smP_sml {PT : Nat → Int64} (hW : Wn nd n) (hP : ∀ x, x < n → ∀ g, g < 32 → PT (x * 32 + g) = en (pb g nd x)) {x y : Nat} (hx : x < n) (hy : y < n) : smP PT x y = -1 ↔ sml nd x y = 1 := by
  have a : smP PT x y = -1 ↔ ∀ g, g < 32 → PT (x * 32 + g) = PT (y * 32 + g) := by
    unfold smP
    rw [ff_no (by decide)]
    refine ⟨fun h g hg => Classical.byContradiction fun z => h g hg ?_, fun h g hg z => ?_⟩
    · rw [Bool.not_eq_true', decide_eq_false_iff_not]; exact z
    · rw [Bool.not_eq_true', decide_eq_false_iff_not] at z; exact z (h g hg)
  have b : sml nd x y = 1 ↔ rgo nd x y = -1 ∧ rgo nd y x = -1 := by
    unfold sml
    split
    · next z => exact ⟨fun _ => z, fun _ => rfl⟩
    · next z => exact ⟨fun h => absurd h (by decide), fun h => absurd h z⟩
  rw [a, b, rgo_no hW hx hy, rgo_no hW hy hx]
  constructor
  · intro h
    have e : ∀ g, g < 32 → ∀ i, i < 6 → pb g nd x i = pb g nd y i := fun g hg => by
      have := h g hg
      rw [hP x hx g hg, hP y hy g hg] at this
      exact en_inj (pb_b hW g hx).2 (pb_b hW g hy).2 this
    exact ⟨fun g hg => abv0_self _ _ (e g hg), fun g hg => abv0_self _ _ (fun i hi => (e g hg i hi).symm)⟩
  · intro h g hg
    rw [hP x hx g hg, hP y hy g hg]
    exact en_congr (CF_eq (pb_CF hW g hx) (pb_CF hW g hy) (h.1 g hg) (h.2 g hg))
theorem ff_last {P : Nat → Bool} : ∀ m i, i + m < 2 ^ 31 → P (i + m) = true → ff P i (m + 1) = if ff P i m = -1 then nI (i + m) else ff P i m
  | 0, i, _, h => by rw [ff_t (i := i) h]; rfl
  | m + 1, i, hm, h => by
    by_cases z : P i = true
    · rw [ff_t z, ff_t z, if_neg (nI_m1 (by omega))]
    · rw [ff_f z, ff_f z, ff_last m (i + 1) (by omega) (by rw [show i + 1 + m = i + (m + 1) by omega]; exact h), show i + 1 + m = i + (m + 1) by omega]
theorem lsP_lsm {PT : Nat → Int64} (hW : Wn nd n) (hP : ∀ x, x < n → ∀ g, g < 32 → PT (x * 32 + g) = en (pb g nd x)) {x : Nat} (hx : x < n) : lsP PT x = lsm nd x := by
  have hn := hW.1
  have e : ff (fun q => decide (smP PT q x = -1)) 0 x = ff (fun k => decide (sml nd k x = 1)) 0 x := ff_congr x 0 (fun j _ hj => by
    have := smP_sml hW hP (x := j) (y := x) (by omega) hx
    simp only [this])
  have hl := ff_last (P := fun k => decide (sml nd k x = 1)) x 0 (by omega) (by rw [Nat.zero_add]; simp only [sml_self, decide_true])
  unfold lsm lsP
  rw [hl, e, Nat.zero_add]
/-- the first numbers count only -/
theorem rs_cg {g fr : Nat} {far : Int32} {nu nu' : Nat → Nat} (h : ∀ a, a < fr → nu a = nu' a) : rs g fr far nu = rs g fr far nu' := by
  funext a
  unfold rs
  split
  · next z => exact h a z
  · rfl
theorem gor_cg {x y g fr : Nat} {nu nu' : Nat → Nat} (h : ∀ a, a < fr → nu a = nu' a) : gor nd x y g fr nu = gor nd x y g fr nu' := by
  unfold gor
  congr 1
  funext i
  unfold gob
  rw [rs_cg h]
theorem far_n (hW : Wn nd n) {g j x fr : Nat} {nu : Nat → Nat} (h : j < n) (hx : x < 5) (hf : fr ≤ x) (hb : g / 2 ^ x % 2 = 1) (hnu : ∀ p, p < fr → (g / 2 ^ p % 2 = 1 → 1 ≤ nu p) ∧ (¬ g / 2 ^ p % 2 = 1 → nu p = 0)) (h100 : ∀ p, p < fr → nu p ≤ 100) :
    ev (pb g nd j) (rs g fr (nI x) nu) = (if pb g nd j x = 0 then ev (pb g nd j) (rs g fr (-1) nu) else 199 + pb g nd j x) ∧ ev (pb g nd j) (rs g fr (-1) nu) ≤ 161 := by
  have hc := pb_CF hW g h
  have h62 := pb_62 hW g h
  have e : ∀ p, p < 5 → ¬ p = x → ptv (pb g nd j) (rs g fr (nI x) nu) p = ptv (pb g nd j) (rs g fr (-1) nu) p := fun p hp hne => by
    have : rs g fr (nI x) nu p = rs g fr (-1) nu p := by
      rcases Nat.lt_or_ge p fr with z | z
      · rw [rs_lt z, rs_lt z]
      · rw [rs_b z (fun q => hne ((nI_eq (by omega) (by omega)).mp q)), rs_b z (nI_m1 (by omega))]
    unfold ptv; rw [this]
  have hle : ev (pb g nd j) (rs g fr (-1) nu) ≤ 161 := ev_le.mpr ⟨by have := h62 5 (by decide); omega, fun p hp => by
    have := h62 p (by omega)
    have r : rs g fr (-1) nu p ≤ 100 := by
      rcases Nat.lt_or_ge p fr with z | z
      · rw [rs_lt z]; exact h100 p z
      · rw [rs_b z (nI_m1 (by omega))]; omega
    unfold ptv; split <;> omega⟩
  refine ⟨?_, hle⟩
  have r2 : rs g fr (nI x) nu x = 200 := rs_200 hf hb rfl
  by_cases y : pb g nd j x = 0
  · rw [if_pos y]
    have e2 : ∀ p, p < 5 → ptv (pb g nd j) (rs g fr (nI x) nu) p = ptv (pb g nd j) (rs g fr (-1) nu) p := fun p hp => by
      by_cases q : p = x
      · rw [q, pv_0 y, pv_0 y]
      · exact e p hp q
    unfold ev
    rw [e2 0 (by decide), e2 1 (by decide), e2 2 (by decide), e2 3 (by decide), e2 4 (by decide)]
  · rw [if_neg y]
    apply Nat.le_antisymm
    · refine ev_le.mpr ⟨by have := h62 5 (by decide); omega, fun p hp => ?_⟩
      by_cases q : p = x
      · rw [q, pv_n y, r2]; omega
      · rw [e p hp q]; have := ev_p (pb g nd j) (rs g fr (-1) nu) hp; omega
    · have := ev_p (pb g nd j) (rs g fr (nI x) nu) hx
      rw [pv_n y, r2] at this; omega
theorem gor_nu (hW : Wn nd n) {x y g fr : Nat} {nu : Nat → Nat} (hx : x < n) (hy : y < n) (hf : fr ≤ 5) (hnu : ∀ p, p < fr → (g / 2 ^ p % 2 = 1 → 1 ≤ nu p) ∧ (¬ g / 2 ^ p % 2 = 1 → nu p = 0)) (h100 : ∀ p, p < fr → nu p ≤ 100) :
    ¬ gor nd x y g fr nu = -1 ↔ (ev (pb g nd y) (rs g fr (-1) nu) < ev (pb g nd x) (rs g fr (-1) nu) ∨ ∃ p, fr ≤ p ∧ p < 5 ∧ pb g nd y p < pb g nd x p) := by
  have g0 : gof fr fr = -1 := by rw [gof, if_pos rfl]
  have g1 : ∀ p, fr ≤ p → gof fr (p + 1) = nI p := fun p hp => by rw [gof, if_neg (by omega), Nat.add_sub_cancel]
  have vx : ∀ far, vl (rs g fr far nu) nd x = ev (pb g nd x) (rs g fr far nu) := fun far => pb_v hW hx (rs_reg hnu)
  have vy : ∀ far, vl (rs g fr far nu) nd y = ev (pb g nd y) (rs g fr far nu) := fun far => pb_v hW hy (rs_reg hnu)
  constructor
  · intro h
    obtain ⟨i, h1, h2, h3⟩ := gor_ex (by omega) h
    rw [gob, decide_eq_true_iff, vx, vy] at h3
    rcases Nat.lt_or_ge fr i with z | z
    · obtain ⟨p, rfl⟩ : ∃ p, i = p + 1 := ⟨i - 1, by omega⟩
      have hb := h3.1.resolve_left (by omega)
      rw [Nat.add_sub_cancel] at hb
      have hl := h3.2
      rw [g1 p (by omega)] at hl
      obtain ⟨ax, bx⟩ := far_n hW hx (show p < 5 by omega) (by omega) hb hnu h100
      obtain ⟨ay, by_⟩ := far_n hW hy (show p < 5 by omega) (by omega) hb hnu h100
      rw [ax, ay] at hl
      rcases Nat.lt_or_ge (pb g nd y p) (pb g nd x p) with q | q
      · exact Or.inr ⟨p, by omega, by omega, q⟩
      · left
        by_cases e1 : pb g nd x p = 0
        · rw [if_pos e1] at hl
          by_cases e2 : pb g nd y p = 0
          · rw [if_pos e2] at hl; exact hl
          · rw [if_neg e2] at hl; omega
        · rw [if_neg e1, if_neg (by omega)] at hl; omega
    · have e : i = fr := by omega
      rw [e, g0] at h3
      exact Or.inl h3.2
  · intro h
    rcases h with z | ⟨p, hp0, hp, z⟩
    · refine gor_ne (i := fr) (Nat.le_refl _) (by omega) ?_
      rw [gob, decide_eq_true_iff, vx, vy]
      exact ⟨Or.inl rfl, by rw [g0]; exact z⟩
    · have hb := (pb_CF hW g hx).1 p hp (by omega)
      refine gor_ne (i := p + 1) (by omega) (by omega) ?_
      rw [gob, decide_eq_true_iff, vx, vy]
      refine ⟨Or.inr (by rw [Nat.add_sub_cancel]; exact hb), ?_⟩
      obtain ⟨ax, bx⟩ := far_n hW hx hp hp0 hb hnu h100
      obtain ⟨ay, by_⟩ := far_n hW hy hp hp0 hb hnu h100
      rw [g1 p hp0, ax, ay, if_neg (show ¬ pb g nd x p = 0 by omega)]
      split <;> omega
theorem abn_is (hW : Wn nd n) {x y g p K : Nat} {nu : Nat → Nat} (hx : x < n) (hy : y < n) (hp : p < 5) (h : ¬ gor nd x y g p nu = -1) (hK : g / 2 ^ p % 2 ≤ K) (h1 : ¬ gor nd x y g (p + 1) (nup nu p K) = -1) (h2 : ∀ k, g / 2 ^ p % 2 ≤ k → k < K → gor nd x y g (p + 1) (nup nu p k) = -1) : abn nd x y g p nu = K := by
  obtain ⟨a, b, c, d⟩ := abn_spec hW hx hy hp h
  rcases Nat.lt_trichotomy (abn nd x y g p nu) K with z | z | z
  · exact absurd (h2 _ b z) a
  · exact z
  · exact absurd (d K hK z) h1
def sT (T : Nat → Nat) : Nat → Nat
  | 0 => 0
  | p + 1 => sT T p + T p * 4096 ^ p
/-- the numbers one by one -/
theorem abv_is (hW : Wn nd n) {x y g : Nat} {T : Nat → Nat} (hx : x < n) (hy : y < n) (h : ¬ gor nd x y g 0 (fun _ => 0) = -1) (hT : ∀ p, p < 5 → g / 2 ^ p % 2 ≤ T p) (h1 : ∀ p, p < 5 → ¬ gor nd x y g (p + 1) T = -1) (h2 : ∀ p, p < 5 → ∀ k, g / 2 ^ p % 2 ≤ k → k < T p → gor nd x y g (p + 1) (nup T p k) = -1) : ∀ p, p ≤ 5 → (∀ a, a < p → abu nd x y g p a = T a) ∧ abv nd x y g p = sT T p
  | 0, _ => ⟨fun a ha => by omega, rfl⟩
  | p + 1, hp => by
    obtain ⟨a, b⟩ := abv_is hW hx hy h hT h1 h2 p (by omega)
    have c := (abu_ok hW hx hy h p (by omega)).1
    have cg : ∀ k, ∀ q, q < p + 1 → nup (abu nd x y g p) p k q = nup T p k q := fun k q hq => by
      by_cases z : q = p
      · rw [z, nup_s, nup_s]
      · rw [nup_n z, nup_n z]; exact a q (by omega)
    have cg2 : ∀ q, q < p + 1 → nup T p (T p) q = T q := fun q _ => by
      by_cases z : q = p
      · rw [z, nup_s]
      · rw [nup_n z]
    have e : abn nd x y g p (abu nd x y g p) = T p := abn_is hW hx hy (by omega) c (hT p (by omega)) (by rw [gor_cg (cg (T p)), gor_cg cg2]; exact h1 p (by omega)) (fun k k1 k2 => by rw [gor_cg (cg k)]; exact h2 p (by omega) k k1 k2)
    refine ⟨fun q hq => ?_, ?_⟩
    · unfold abu
      rw [e, cg (T p) q hq, cg2 q hq]
    · unfold abv sT
      rw [b, e]
end LVL2
