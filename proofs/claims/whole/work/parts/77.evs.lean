/-! A level in a region: the greatest of a number and of parameters with numbers. -/
def ptv (b ro : Nat → Nat) (p : Nat) : Nat := if b p = 0 then 0 else ro p + b p - 1
def ev (b ro : Nat → Nat) : Nat := max (max (max (max (max (b 5 - 1) (ptv b ro 0)) (ptv b ro 1)) (ptv b ro 2)) (ptv b ro 3)) (ptv b ro 4)
theorem five_all {P : Nat → Prop} : (∀ p, p < 5 → P p) ↔ P 0 ∧ P 1 ∧ P 2 ∧ P 3 ∧ P 4 := by
  refine ⟨fun h => ⟨h 0 (by decide), h 1 (by decide), h 2 (by decide), h 3 (by decide), h 4 (by decide)⟩, fun ⟨h0, h1, h2, h3, h4⟩ p hp => ?_⟩
  rcases (show p = 0 ∨ p = 1 ∨ p = 2 ∨ p = 3 ∨ p = 4 by omega) with rfl | rfl | rfl | rfl | rfl <;> assumption
theorem ev_le {b ro : Nat → Nat} {B : Nat} : ev b ro ≤ B ↔ b 5 - 1 ≤ B ∧ ∀ p, p < 5 → ptv b ro p ≤ B := by
  rw [five_all]; unfold ev; omega
theorem ev_5 (b ro : Nat → Nat) : b 5 - 1 ≤ ev b ro := (ev_le.mp (Nat.le_refl _)).1
theorem ev_p (b ro : Nat → Nat) {p : Nat} (hp : p < 5) : ptv b ro p ≤ ev b ro := (ev_le.mp (Nat.le_refl _)).2 p hp
theorem pv_0 {b ro : Nat → Nat} {p : Nat} (h : b p = 0) : ptv b ro p = 0 := by rw [ptv, if_pos h]
theorem pv_n {b ro : Nat → Nat} {p : Nat} (h : ¬ b p = 0) : ptv b ro p = ro p + b p - 1 := by rw [ptv, if_neg h]
/-- a point of a region -/
def reg (g : Nat) (ro : Nat → Nat) : Prop := ∀ p, p < 5 → (g / 2 ^ p % 2 = 1 → 1 ≤ ro p) ∧ (¬ g / 2 ^ p % 2 = 1 → ro p = 0)
/-- the form that the parts have -/
def CF (g : Nat) (b : Nat → Nat) : Prop := (∀ p, p < 5 → ¬ b p = 0 → g / 2 ^ p % 2 = 1) ∧ (¬ b 5 = 0 → (∀ p, p < 5 → b p = 0) ∨ ∀ p, p < 5 → b p + 1 < b 5) ∧ (b 5 = 0 → ∃ p, p < 5 ∧ ¬ b p = 0)
theorem gr_le {b1 b2 : Nat → Nat} {B : Nat} : gr b1 b2 ≤ B ↔ ∀ p, p < 5 → b1 p ≤ B ∧ b2 p ≤ B := by
  rw [five_all]; unfold gr; omega
theorem gr_ge (b1 b2 : Nat → Nat) {p : Nat} (h : p < 5) : b1 p ≤ gr b1 b2 ∧ b2 p ≤ gr b1 b2 := gr_le.mp (Nat.le_refl _) p h
theorem gr_at {b1 b2 : Nat → Nat} (h : ¬ gr b1 b2 = 0) : ∃ p, p < 5 ∧ (b1 p = gr b1 b2 ∨ b2 p = gr b1 b2) := by
  rcases Classical.em (∃ p, p < 5 ∧ (b1 p = gr b1 b2 ∨ b2 p = gr b1 b2)) with z | z
  · exact z
  · exfalso
    have : gr b1 b2 ≤ gr b1 b2 - 1 := gr_le.mpr (fun p hp => by
      have a := gr_ge b1 b2 hp
      have c : ¬ b1 p = gr b1 b2 := fun y => z ⟨p, hp, Or.inl y⟩
      have d : ¬ b2 p = gr b1 b2 := fun y => z ⟨p, hp, Or.inr y⟩
      omega)
    omega
theorem jn_ptv {b1 b2 ro : Nat → Nat} {p : Nat} (hp : p < 5) : ptv (jn b1 b2) ro p = max (ptv b1 ro p) (ptv b2 ro p) := by
  unfold ptv
  rw [jn_lt hp]
  split <;> split <;> split <;> omega
theorem jn_CF {g : Nat} {b1 b2 : Nat → Nat} (h1 : CF g b1) (h2 : CF g b2) : CF g (jn b1 b2) := by
  by_cases h : gr b1 b2 = 0 ∨ gr b1 b2 + 1 < max (b1 5) (b2 5)
  · refine ⟨fun p hp hn => ?_, fun _ => ?_, fun h5 => ?_⟩
    · rw [jn_lt hp] at hn
      by_cases z : b1 p = 0
      · exact h2.1 p hp (by omega)
      · exact h1.1 p hp z
    · rcases h with z | z
      · exact Or.inl (fun p hp => by rw [jn_lt hp]; have := gr_ge b1 b2 hp; omega)
      · exact Or.inr (fun p hp => by rw [jn_lt hp, jn_5 (Or.inr z)]; have := gr_ge b1 b2 hp; omega)
    · rw [jn_5 h] at h5
      obtain ⟨p, hp, hn⟩ := h1.2.2 (by omega)
      exact ⟨p, hp, by rw [jn_lt hp]; omega⟩
  · refine ⟨fun p hp hn => ?_, fun h5 => absurd (jn_50 h) h5, fun _ => ?_⟩
    · rw [jn_lt hp] at hn
      by_cases z : b1 p = 0
      · exact h2.1 p hp (by omega)
      · exact h1.1 p hp z
    · obtain ⟨p, hp, he⟩ := gr_at (b1 := b1) (b2 := b2) (fun z => h (Or.inl z))
      exact ⟨p, hp, by rw [jn_lt hp]; have := fun z => h (Or.inl z); omega⟩
theorem jn_ev {g : Nat} {b1 b2 ro : Nat → Nat} (h1 : CF g b1) (h2 : CF g b2) (hr : reg g ro) : ev (jn b1 b2) ro = max (ev b1 ro) (ev b2 ro) := by
  apply Nat.le_antisymm
  · refine ev_le.mpr ⟨?_, fun p hp => ?_⟩
    · have a := ev_5 b1 ro; have b := ev_5 b2 ro
      by_cases h : gr b1 b2 = 0 ∨ gr b1 b2 + 1 < max (b1 5) (b2 5)
      · rw [jn_5 h]; omega
      · rw [jn_50 h]; omega
    · rw [jn_ptv hp]; have a := ev_p b1 ro hp; have b := ev_p b2 ro hp; omega
  · have k : ∀ p, p < 5 → ptv b1 ro p ≤ ev (jn b1 b2) ro ∧ ptv b2 ro p ≤ ev (jn b1 b2) ro := fun p hp => by
      have := ev_p (jn b1 b2) ro hp; rw [jn_ptv hp] at this; omega
    have k5 : max (b1 5) (b2 5) - 1 ≤ ev (jn b1 b2) ro := by
      by_cases h : gr b1 b2 = 0 ∨ gr b1 b2 + 1 < max (b1 5) (b2 5)
      · have := ev_5 (jn b1 b2) ro; rw [jn_5 h] at this; exact this
      · have h0 : ¬ gr b1 b2 = 0 := fun z => h (Or.inl z)
        have h1' : ¬ gr b1 b2 + 1 < max (b1 5) (b2 5) := fun z => h (Or.inr z)
        obtain ⟨p, hp, he⟩ := gr_at h0
        rcases he with e | e
        · have a := (hr p hp).1 (h1.1 p hp (by omega)); have c := (k p hp).1
          rw [pv_n (by omega)] at c; omega
        · have a := (hr p hp).1 (h2.1 p hp (by omega)); have c := (k p hp).2
          rw [pv_n (by omega)] at c; omega
    have a1 : ev b1 ro ≤ ev (jn b1 b2) ro := ev_le.mpr ⟨by omega, fun p hp => (k p hp).1⟩
    have a2 : ev b2 ro ≤ ev (jn b1 b2) ro := ev_le.mpr ⟨by omega, fun p hp => (k p hp).2⟩
    omega
theorem ra_CF {g : Nat} {b : Nat → Nat} (h : CF g b) : CF g (ra b) := by
  have z : ∀ i, ra b i = 0 ↔ b i = 0 := fun i => by unfold ra; split <;> omega
  have n : ∀ i, ¬ b i = 0 → ra b i = b i + 1 := fun i hi => by rw [ra, if_neg hi]
  refine ⟨fun p hp hn => h.1 p hp (fun y => hn ((z p).mpr y)), fun h5 => ?_, fun h5 => ?_⟩
  · have h5' : ¬ b 5 = 0 := fun y => h5 ((z 5).mpr y)
    rcases h.2.1 h5' with q | q
    · exact Or.inl (fun p hp => (z p).mpr (q p hp))
    · refine Or.inr (fun p hp => ?_)
      rw [n 5 h5']; have := q p hp
      by_cases y : b p = 0
      · rw [(z p).mpr y]; omega
      · rw [n p y]; omega
  · obtain ⟨p, hp, q⟩ := h.2.2 ((z 5).mp h5)
    exact ⟨p, hp, fun y => q ((z p).mp y)⟩
theorem ra_ev {g : Nat} {b ro : Nat → Nat} (h : CF g b) (hr : reg g ro) : ev (ra b) ro = ev b ro + 1 := by
  have n : ∀ i, ¬ b i = 0 → ra b i = b i + 1 := fun i hi => by rw [ra, if_neg hi]
  have z : ∀ i, b i = 0 → ra b i = 0 := fun i hi => by rw [ra, if_pos hi]
  apply Nat.le_antisymm
  · refine ev_le.mpr ⟨?_, fun p hp => ?_⟩
    · have := ev_5 b ro
      by_cases y : b 5 = 0
      · rw [z 5 y]; omega
      · rw [n 5 y]; omega
    · have := ev_p b ro hp
      by_cases y : b p = 0
      · rw [pv_0 (z p y)]; omega
      · rw [pv_n (by rw [n p y]; omega), n p y]; rw [pv_n y] at this; omega
  · have k : ∀ p, p < 5 → ¬ b p = 0 → ptv b ro p + 1 ≤ ev (ra b) ro := fun p hp y => by
      have := ev_p (ra b) ro hp
      rw [pv_n (by rw [n p y]; omega), n p y] at this; rw [pv_n y]; omega
    have k1 : 1 ≤ ev (ra b) ro := by
      by_cases y : b 5 = 0
      · obtain ⟨p, hp, q⟩ := h.2.2 y
        have := k p hp q; omega
      · have := ev_5 (ra b) ro; rw [n 5 y] at this; omega
    have k5 : b 5 - 1 + 1 ≤ ev (ra b) ro := by
      by_cases y : b 5 = 0
      · omega
      · have := ev_5 (ra b) ro; rw [n 5 y] at this; omega
    have : ev b ro ≤ ev (ra b) ro - 1 := ev_le.mpr ⟨by omega, fun p hp => by
      by_cases y : b p = 0
      · rw [pv_0 y]; omega
      · have := k p hp y; omega⟩
    omega
theorem sg_CF {g a : Nat} (ha : a < 5) (h : g / 2 ^ a % 2 = 1) : CF g (sg a) := by
  refine ⟨fun p _ hn => ?_, fun h5 => absurd (by unfold sg; rw [if_neg (by omega)]) h5, fun _ => ⟨a, ha, by unfold sg; rw [if_pos rfl]; decide⟩⟩
  have : p = a := by unfold sg at hn; split at hn; assumption; exact absurd rfl hn
  rw [this]; exact h
theorem sg5_CF (g : Nat) : CF g (sg 5) := by
  refine ⟨fun p hp hn => absurd (by unfold sg; rw [if_neg (by omega)]) hn, fun _ => Or.inl (fun p hp => by unfold sg; rw [if_neg (by omega)]), fun h => absurd h (by decide)⟩
theorem sg_ev {a : Nat} (ha : a < 5) (ro : Nat → Nat) : ev (sg a) ro = ro a := by
  have e : ∀ p, p < 5 → ptv (sg a) ro p = if p = a then ro a else 0 := fun p _ => by
    unfold ptv sg
    by_cases y : p = a
    · rw [if_pos y, if_pos y, if_neg (by decide), y]; rfl
    · rw [if_neg y, if_neg y, if_pos rfl]
  apply Nat.le_antisymm
  · refine ev_le.mpr ⟨by unfold sg; rw [if_neg (by omega)]; omega, fun p hp => ?_⟩
    rw [e p hp]; split <;> omega
  · have := ev_p (sg a) ro ha
    rw [e a ha, if_pos rfl] at this; exact this
theorem sg5_ev (ro : Nat → Nat) : ev (sg 5) ro = 0 := by
  have : ev (sg 5) ro ≤ 0 := ev_le.mpr ⟨by decide, fun p hp => by rw [pv_0 (by unfold sg; rw [if_neg (by omega)])]; omega⟩
  omega
theorem ev_zero {g : Nat} {b ro : Nat → Nat} (h : CF g b) (hr : reg g ro) : b 5 = 1 ↔ ev b ro = 0 := by
  constructor
  · intro h5
    have hz : ∀ p, p < 5 → b p = 0 := by
      rcases h.2.1 (by omega) with q | q
      · exact q
      · exact fun p hp => by have := q p hp; omega
    have : ev b ro ≤ 0 := ev_le.mpr ⟨by omega, fun p hp => by rw [pv_0 (hz p hp)]; omega⟩
    omega
  · intro h0
    have hz : ∀ p, p < 5 → b p = 0 := fun p hp => by
      by_cases y : b p = 0
      · exact y
      · have a := (hr p hp).1 (h.1 p hp y); have := ev_p b ro hp; rw [pv_n y] at this; omega
    have := ev_5 b ro
    by_cases y : b 5 = 0
    · obtain ⟨p, hp, q⟩ := h.2.2 y
      exact absurd (hz p hp) q
    · omega
/-- what the parts are good for -/
theorem pb_ev {g : Nat} {nd : Nat → Nat × Nat × Nat} {n : Nat} (hW : ∀ j, j < n → rowOk (nd j) j) : ∀ (m j : Nat), j < m → j < n → CF g (pb g nd j) ∧ ∀ ro, reg g ro → vl ro nd j = ev (pb g nd j) ro := by
  intro m
  induction m with
  | zero => intro j h; omega
  | succ m ih =>
    intro j hj hn
    have hr0 := hW j hn
    have hp := pb_eq g hr0
    obtain ⟨h1, h2, h3, h4, h5, h6⟩ := id hr0
    rcases (show (nd j).1 = 0 ∨ (nd j).1 = 1 ∨ (nd j).1 = 2 ∨ (nd j).1 = 3 ∨ (nd j).1 = 4 by omega) with k | k | k | k | k
    · have e : pb g nd j = sg 5 := by rw [hp]; unfold pA; simp [k]
      rw [e]
      exact ⟨sg5_CF g, fun ro _ => by rw [vl_k0 hr0 k, sg5_ev]⟩
    · by_cases hb : g / 2 ^ (nd j).2.1 % 2 = 1
      · have e : pb g nd j = sg (nd j).2.1 := by rw [hp]; unfold pA; rw [if_pos k, if_pos hb]
        rw [e]
        exact ⟨sg_CF (h2 k) hb, fun ro _ => by rw [vl_k1 hr0 k, sg_ev (h2 k)]⟩
      · have e : pb g nd j = sg 5 := by rw [hp]; unfold pA; rw [if_pos k, if_neg hb]
        rw [e]
        exact ⟨sg5_CF g, fun ro hr => by rw [vl_k1 hr0 k, sg5_ev]; exact (hr _ (h2 k)).2 hb⟩
    · have a1 := h3 (by omega)
      obtain ⟨c1, v1⟩ := ih (nd j).2.1 (by omega) (by omega)
      have e : pb g nd j = ra (pb g nd (nd j).2.1) := by rw [hp]; unfold pA; simp [k]
      rw [e]
      exact ⟨ra_CF c1, fun ro hr => by rw [vl_k2 hr0 k, v1 ro hr, ra_ev c1 hr]⟩
    · have a1 := h3 (by omega)
      have a2 := h4 (by omega)
      obtain ⟨c1, v1⟩ := ih (nd j).2.1 (by omega) (by omega)
      obtain ⟨c2, v2⟩ := ih (nd j).2.2 (by omega) (by omega)
      have e : pb g nd j = jn (pb g nd (nd j).2.1) (pb g nd (nd j).2.2) := by rw [hp]; unfold pA; simp [k]
      rw [e]
      exact ⟨jn_CF c1 c2, fun ro hr => by rw [vl_k3 hr0 k, v1 ro hr, v2 ro hr, jn_ev c1 c2 hr]⟩
    · have a1 := h3 (by omega)
      have a2 := h4 (by omega)
      obtain ⟨c1, v1⟩ := ih (nd j).2.1 (by omega) (by omega)
      obtain ⟨c2, v2⟩ := ih (nd j).2.2 (by omega) (by omega)
      by_cases hy : pb g nd (nd j).2.2 5 = 1
      · have e : pb g nd j = pb g nd (nd j).2.2 := by rw [hp]; unfold pA; simp [k, hy]
        rw [e]
        exact ⟨c2, fun ro hr => by
          have z := (ev_zero c2 hr).mp hy
          rw [vl_k4 hr0 k, v2 ro hr, z, if_pos rfl]⟩
      · have e : pb g nd j = jn (pb g nd (nd j).2.1) (pb g nd (nd j).2.2) := by rw [hp]; unfold pA; simp [k, hy]
        rw [e]
        exact ⟨jn_CF c1 c2, fun ro hr => by
          have z : ¬ ev (pb g nd (nd j).2.2) ro = 0 := fun y => hy ((ev_zero c2 hr).mpr y)
          rw [vl_k4 hr0 k, v2 ro hr, if_neg z, v1 ro hr, jn_ev c1 c2 hr]⟩
