/-! The reference's answers about levels are the class's. -/
def bit (g p : Nat) : Nat := g / 2 ^ p % 2
/-- the points that the reference tries, with the first numbers nu -/
theorem rs_reg {g fr : Nat} {far : Int32} {nu : Nat → Nat} (h : ∀ p, p < fr → (g / 2 ^ p % 2 = 1 → 1 ≤ nu p) ∧ (¬ g / 2 ^ p % 2 = 1 → nu p = 0)) : reg g (rs g fr far nu) := fun p _ => by
  rcases Nat.lt_or_ge p fr with z | z
  · rw [rs_lt z]; exact h p z
  · refine ⟨fun hb => ?_, fun hb => rs_0 z hb⟩
    by_cases y : nI p = far
    · rw [rs_200 z hb y]; omega
    · rw [rs_1 z hb y]; omega
theorem vo_le {b : Nat → Nat} {B : Nat} : vo b ≤ B ↔ b 5 - 1 ≤ B ∧ ∀ p, p < 5 → b p ≤ B := by
  rw [five_all]; unfold vo; omega
theorem ev_vo {g : Nat} {b ro : Nat → Nat} (h : CF g b) (h1 : ∀ p, p < 5 → g / 2 ^ p % 2 = 1 → ro p = 1) : ev b ro = vo b := by
  have e : ∀ p, p < 5 → ptv b ro p = b p := fun p hp => by
    by_cases y : b p = 0
    · rw [pv_0 y, y]
    · rw [pv_n y, h1 p hp (h.1 p hp y)]; omega
  apply Nat.le_antisymm
  · exact ev_le.mpr ⟨(vo_le.mp (Nat.le_refl _)).1, fun p hp => by rw [e p hp]; exact (vo_le.mp (Nat.le_refl _)).2 p hp⟩
  · exact vo_le.mpr ⟨ev_5 b ro, fun p hp => by rw [← e p hp]; exact ev_p b ro hp⟩
section LVL
variable {nd : Nat → Nat × Nat × Nat} {n : Nat}
theorem pb_CF (hW : Wn nd n) (g : Nat) {j : Nat} (h : j < n) : CF g (pb g nd j) := (pb_ev hW.2.1 (j + 1) j (by omega) h).1
theorem pb_v (hW : Wn nd n) {g : Nat} {j : Nat} (h : j < n) {ro : Nat → Nat} (hr : reg g ro) : vl ro nd j = ev (pb g nd j) ro := (pb_ev hW.2.1 (j + 1) j (by omega) h).2 ro hr
theorem pb_62 (hW : Wn nd n) (g : Nat) {j : Nat} (h : j < n) : ∀ i, i < 6 → pb g nd j i < 62 := (pb_b hW g h).1
theorem one_vo (hW : Wn nd n) {g j : Nat} (h : j < n) : vl (rs g 0 (-1) (fun _ => 0)) nd j = vo (pb g nd j) := by
  rw [pb_v hW h (rs_reg (fun p hp => by omega)), ev_vo (pb_CF hW g h) (fun p hp hb => rs_1 (Nat.zero_le _) hb (nI_m1 (by omega)))]
/-- 200 at x -/
theorem far_v (hW : Wn nd n) {g j x : Nat} (h : j < n) (hx : x < 5) (hb : g / 2 ^ x % 2 = 1) : vl (rs g 0 (nI x) (fun _ => 0)) nd j = if pb g nd j x = 0 then vo (pb g nd j) else 199 + pb g nd j x := by
  have hc := pb_CF hW g h
  have h62 := pb_62 hW g h
  have hv : vo (pb g nd j) ≤ 61 := vo_le.mpr ⟨by have := h62 5 (by decide); omega, fun p hp => by have := h62 p (by omega); omega⟩
  have r1 : ∀ p, p < 5 → ¬ p = x → g / 2 ^ p % 2 = 1 → rs g 0 (nI x) (fun _ => 0) p = 1 := fun p hp hne hb => rs_1 (Nat.zero_le _) hb (fun z => hne ((nI_eq (by omega) (by omega)).mp z))
  have r2 : rs g 0 (nI x) (fun _ => 0) x = 200 := rs_200 (Nat.zero_le _) hb rfl
  rw [pb_v hW h (rs_reg (fun p hp => by omega))]
  have e : ∀ p, p < 5 → ¬ p = x → ptv (pb g nd j) (rs g 0 (nI x) (fun _ => 0)) p = pb g nd j p := fun p hp hne => by
    by_cases y : pb g nd j p = 0
    · rw [pv_0 y, y]
    · rw [pv_n y, r1 p hp hne (hc.1 p hp y)]; omega
  have w := vo_le.mp (Nat.le_refl (vo (pb g nd j)))
  by_cases y : pb g nd j x = 0
  · rw [if_pos y]
    apply Nat.le_antisymm
    · refine ev_le.mpr ⟨w.1, fun p hp => ?_⟩
      by_cases q : p = x
      · rw [q, pv_0 y]; omega
      · rw [e p hp q]; exact w.2 p hp
    · refine vo_le.mpr ⟨ev_5 _ _, fun p hp => ?_⟩
      by_cases q : p = x
      · rw [q, y]; omega
      · rw [← e p hp q]; exact ev_p _ _ hp
  · rw [if_neg y]
    apply Nat.le_antisymm
    · refine ev_le.mpr ⟨by omega, fun p hp => ?_⟩
      by_cases q : p = x
      · rw [q, pv_n y, r2]; omega
      · rw [e p hp q]; have := w.2 p hp; omega
    · have := ev_p (pb g nd j) (rs g 0 (nI x) (fun _ => 0)) hx
      rw [pv_n y, r2] at this; omega
theorem grw_pb (hW : Wn nd n) {g j x : Nat} (h : j < n) (hx : x < 5) : grw nd j g x = nI (pb g nd j x) - 1 := by
  have h62 := pb_62 hW g h
  have hv : vo (pb g nd j) ≤ 61 := vo_le.mpr ⟨by have := h62 5 (by decide); omega, fun p hp => by have := h62 p (by omega); omega⟩
  unfold grw
  by_cases hb : g / 2 ^ x % 2 = 1
  · rw [if_pos hb, far_v hW h hx hb]
    by_cases y : pb g nd j x = 0
    · rw [if_pos y, if_neg (by omega), y]; rfl
    · rw [if_neg y, if_pos (by omega), show 199 + pb g nd j x - 200 = pb g nd j x - 1 by omega]
      obtain ⟨z, hz⟩ : ∃ z, pb g nd j x = z + 1 := ⟨pb g nd j x - 1, by omega⟩
      rw [hz, nI_pred, Nat.add_sub_cancel]
  · rw [if_neg hb]
    have : pb g nd j x = 0 := by
      by_cases y : pb g nd j x = 0
      · exact y
      · exact absurd ((pb_CF hW g h).1 x hx y) hb
    rw [this]; rfl
/-- the greatest byte among the first i -/
def gb (b : Nat → Nat) : Nat → Nat
  | 0 => 0
  | i + 1 => max (gb b i) (b i)
theorem gb_le {b : Nat → Nat} {B : Nat} : ∀ i, gb b i ≤ B ↔ ∀ p, p < i → b p ≤ B
  | 0 => ⟨fun _ p h => by omega, fun _ => Nat.zero_le _⟩
  | i + 1 => by
    have := gb_le (b := b) (B := B) i
    unfold gb
    constructor
    · intro h p hp
      rcases Nat.lt_or_ge p i with z | z
      · exact this.mp (by omega) p z
      · rw [show p = i by omega]; omega
    · intro h
      have a := this.mpr (fun p hp => h p (by omega)); have b := h i (by omega)
      omega
theorem mst_gb (hW : Wn nd n) {g j : Nat} (h : j < n) : ∀ i, i ≤ 5 → mst nd j g i = if gb (pb g nd j) i = 0 then -1 else nI (gb (pb g nd j) i)
  | 0, _ => rfl
  | i + 1, hi => by
    have h62 := pb_62 hW g h
    have ih := mst_gb hW h (g := g) i (by omega)
    have e := grw_pb hW h (g := g) (x := i) (by omega)
    have hg : gb (pb g nd j) i ≤ 61 := (gb_le i).mpr (fun p hp => by have := h62 p (by omega); omega)
    have hi62 := h62 i (by omega)
    have em : gb (pb g nd j) (i + 1) = max (gb (pb g nd j) i) (pb g nd j i) := rfl
    by_cases y : pb g nd j i = 0
    · rw [mst_1 (by rw [e, y]; decide), ih, em, y, Nat.max_eq_left (by omega)]
    · have e2 : grw nd j g i + 1 = nI (pb g nd j i) := by rw [e, m1_add]
      have c1 : ¬ grw nd j g i < 0 := by
        rw [e, Int32.lt_iff_toInt_lt, m1_toInt (by omega), show ((0 : Int32)).toInt = 0 from rfl]; omega
      by_cases z : grw nd j g i + 1 ≤ mst nd j g i
      · rw [mst_2 c1 z, ih]
        rw [e2, ih] at z
        by_cases q : gb (pb g nd j) i = 0
        · rw [if_pos q, Int32.le_iff_toInt_le, n_toInt (by omega), show ((-1 : Int32)).toInt = -1 from by decide] at z; omega
        · rw [if_neg q, nI_leI (by omega) (by omega)] at z
          rw [em, Nat.max_eq_left (by omega)]
      · rw [mst_3 c1 z, e2]
        rw [e2, ih] at z
        by_cases q : gb (pb g nd j) i = 0
        · rw [em, q, Nat.max_eq_right (by omega), if_neg y]
        · rw [if_neg q, nI_leI (by omega) (by omega)] at z
          rw [em, Nat.max_eq_right (by omega), if_neg y]
theorem ptc_pb (hW : Wn nd n) {g j : Nat} (h : j < n) : ptc nd j g = nI (pb g nd j 5) - 1 := by
  have h62 := pb_62 hW g h
  have hc := pb_CF hW g h
  have hv : vo (pb g nd j) ≤ 61 := vo_le.mpr ⟨by have := h62 5 (by decide); omega, fun p hp => by have := h62 p (by omega); omega⟩
  have hg : gb (pb g nd j) 5 ≤ 61 := (gb_le 5).mpr (fun p hp => by have := h62 p (by omega); omega)
  have w := vo_le.mp (Nat.le_refl (vo (pb g nd j)))
  have gg : gb (pb g nd j) 5 ≤ vo (pb g nd j) := (gb_le 5).mpr w.2
  have gp := (gb_le (b := pb g nd j) 5).mp (Nat.le_refl _)
  unfold ptc
  rw [one_vo hW h, mst_gb hW h 5 (Nat.le_refl _)]
  by_cases y : pb g nd j 5 = 0
  · have h0 : ¬ gb (pb g nd j) 5 = 0 := fun z => by
      obtain ⟨p, hp, q⟩ := hc.2.2 y
      have := gp p hp; omega
    have hle : vo (pb g nd j) ≤ gb (pb g nd j) 5 := vo_le.mpr ⟨by omega, gp⟩
    rw [if_neg h0, if_pos ((nI_leI (by omega) (by omega)).mpr hle), y]; rfl
  · have ev5 : vo (pb g nd j) = pb g nd j 5 - 1 := by
      apply Nat.le_antisymm
      · refine vo_le.mpr ⟨Nat.le_refl _, fun p hp => ?_⟩
        rcases hc.2.1 y with z | z
        · rw [z p hp]; omega
        · have := z p hp; omega
      · exact w.1
    have hlt : gb (pb g nd j) 5 = 0 ∨ gb (pb g nd j) 5 < pb g nd j 5 - 1 := by
      rcases hc.2.1 y with z | z
      · left
        have : gb (pb g nd j) 5 ≤ 0 := (gb_le 5).mpr (fun p hp => by rw [z p hp]; omega)
        omega
      · right
        have h2 := z 0 (by decide)
        have : gb (pb g nd j) 5 ≤ pb g nd j 5 - 2 := (gb_le 5).mpr (fun p hp => by have := z p hp; omega)
        omega
    have fin : nI (vo (pb g nd j)) = nI (pb g nd j 5) - 1 := by
      rw [ev5]
      obtain ⟨z, hz⟩ : ∃ z, pb g nd j 5 = z + 1 := ⟨pb g nd j 5 - 1, by omega⟩
      rw [hz, nI_pred, Nat.add_sub_cancel]
    rw [if_neg ?_]
    · exact fin
    · split
      · rw [Int32.le_iff_toInt_le, n_toInt (by omega), show ((-1 : Int32)).toInt = -1 from by decide]; omega
      · rw [nI_leI (by omega) (by omega)]; omega
/-- a comes above b in a region -/
def abv0 (b1 b2 : Nat → Nat) : Prop := vo b2 < vo b1 ∨ ∃ p, p < 5 ∧ b2 p < b1 p
theorem gor_0 (hW : Wn nd n) {g x y : Nat} (hx : x < n) (hy : y < n) : ¬ gor nd x y g 0 (fun _ => 0) = -1 ↔ abv0 (pb g nd x) (pb g nd y) := by
  have x62 := pb_62 hW g hx
  have y62 := pb_62 hW g hy
  have vx : vo (pb g nd x) ≤ 61 := vo_le.mpr ⟨by have := x62 5 (by decide); omega, fun p hp => by have := x62 p (by omega); omega⟩
  have vy : vo (pb g nd y) ≤ 61 := vo_le.mpr ⟨by have := y62 5 (by decide); omega, fun p hp => by have := y62 p (by omega); omega⟩
  have g0 : gof 0 0 = -1 := rfl
  have g1 : ∀ p, gof 0 (p + 1) = nI p := fun p => by rw [gof, if_neg (by omega), Nat.add_sub_cancel]
  constructor
  · intro h
    obtain ⟨i, -, h2, h3⟩ := gor_ex (by omega) h
    rw [gob, decide_eq_true_iff] at h3
    rcases Nat.eq_zero_or_pos i with z | z
    · rw [z, g0, one_vo hW hx, one_vo hW hy] at h3
      exact Or.inl h3.2
    · obtain ⟨p, rfl⟩ : ∃ p, i = p + 1 := ⟨i - 1, by omega⟩
      have hb := h3.1.resolve_left (by omega)
      rw [Nat.add_sub_cancel] at hb
      have hl := h3.2
      rw [g1, far_v hW hx (by omega) hb, far_v hW hy (by omega) hb] at hl
      rcases Nat.lt_or_ge (pb g nd y p) (pb g nd x p) with q | q
      · exact Or.inr ⟨p, by omega, q⟩
      · left
        by_cases e1 : pb g nd x p = 0
        · rw [if_pos e1] at hl
          by_cases e2 : pb g nd y p = 0
          · rw [if_pos e2] at hl; exact hl
          · rw [if_neg e2] at hl; omega
        · rw [if_neg e1, if_neg (by omega)] at hl; omega
  · intro h
    rcases h with z | ⟨p, hp, z⟩
    · refine gor_ne (i := 0) (Nat.le_refl _) (by decide) ?_
      rw [gob, decide_eq_true_iff]
      exact ⟨Or.inl rfl, by rw [g0, one_vo hW hx, one_vo hW hy]; exact z⟩
    · have hb := (pb_CF hW g hx).1 p hp (by omega)
      refine gor_ne (i := p + 1) (Nat.zero_le _) (by omega) ?_
      rw [gob, decide_eq_true_iff]
      refine ⟨Or.inr (by rw [Nat.add_sub_cancel]; exact hb), ?_⟩
      rw [g1, far_v hW hx hp hb, far_v hW hy hp hb, if_neg (show ¬ pb g nd x p = 0 by omega)]
      split <;> omega
theorem lh_ex {b1 b2 : Nat → Nat} : lh b1 b2 = -1 ↔ ∀ p, p < 5 → b1 p ≤ b2 p := by
  constructor
  · intro h p hp
    rcases lh_cases b1 b2 with _ | ⟨X, hX, e, h1, h2⟩
    · unfold lh at h
      rcases (show p = 0 ∨ p = 1 ∨ p = 2 ∨ p = 3 ∨ p = 4 by omega) with rfl | rfl | rfl | rfl | rfl <;> (repeat' split at h) <;> first | omega | exact absurd h (by decide)
    · exact absurd (e.symm.trans h) (nI_m1 (by omega))
  · intro h
    rcases lh_cases b1 b2 with e | ⟨X, hX, e, h1, h2⟩
    · exact e
    · have := h X hX; omega
theorem ab_class {b1 b2 : Nat → Nat} : ¬ (lh b1 b2 = -1 ∧ b1 5 ≤ vo b2 + 1) ↔ abv0 b1 b2 := by
  rw [lh_ex]
  constructor
  · intro h
    rcases Classical.em (∃ p, p < 5 ∧ b2 p < b1 p) with z | z
    · exact Or.inr z
    · left
      have hle : ∀ p, p < 5 → b1 p ≤ b2 p := fun p hp => Nat.le_of_not_lt (fun y => z ⟨p, hp, y⟩)
      have h5 : ¬ b1 5 ≤ vo b2 + 1 := fun y => h ⟨hle, y⟩
      have := (vo_le.mp (Nat.le_refl (vo b1))).1
      omega
  · intro h ⟨h1, h2⟩
    rcases h with z | ⟨p, hp, z⟩
    · have : vo b1 ≤ vo b2 := vo_le.mpr ⟨by omega, fun p hp => Nat.le_trans (h1 p hp) ((vo_le.mp (Nat.le_refl (vo b2))).2 p hp)⟩
      omega
    · have := h1 p hp; omega
theorem ff_congr {P Q : Nat → Bool} : ∀ m i, (∀ j, i ≤ j → j < i + m → P j = Q j) → ff P i m = ff Q i m
  | 0, _, _ => rfl
  | m + 1, i, h => by
    rw [ff, ff, h i (Nat.le_refl _) (by omega), ff_congr m (i + 1) (fun j a b => h j (by omega) (by omega))]
theorem rgo_fra (hW : Wn nd n) {x y : Nat} (hx : x < n) (hy : y < n) : rgo nd x y = fra nd x y := by
  unfold rgo fra
  refine ff_congr 32 0 (fun g _ hg => ?_)
  have e : (gor nd x y g 0 (fun _ => 0) = -1) ↔ (lh (pb g nd x) (pb g nd y) = -1 ∧ pb g nd x 5 ≤ vo (pb g nd y) + 1) := by
    have a := gor_0 hW hx hy (g := g)
    have b := ab_class (b1 := pb g nd x) (b2 := pb g nd y)
    constructor
    · intro h
      exact Classical.byContradiction fun z => a.mpr (b.mp z) h
    · intro h
      exact Classical.byContradiction fun z => (b.mpr (a.mp z)) h
  simp only [e]
end LVL
