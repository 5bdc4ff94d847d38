theorem xy_c (x y : Int32) {n : Nat} (hn : n ≤ 120) : (hs x n = 0 ∨ (hs x n = 1 ∧ hs y n = 0)) ∨ ∃ a c, a < n ∧ c < n ∧ x = nI a ∧ y = nI c ∧ hs (nI a) n = 1 ∧ hs (nI c) n = 1 := by
  rcases hs_cases x (n := n) (by omega) with ⟨h, -⟩ | ⟨a, ha, e, h⟩
  · exact Or.inl (Or.inl h)
  · rcases hs_cases y (n := n) (by omega) with ⟨h2, -⟩ | ⟨c, hc, e2, h2⟩
    · exact Or.inl (Or.inr ⟨h, h2⟩)
    · exact Or.inr ⟨a, c, ha, hc, e, e2, by rw [← e]; exact h, by rw [← e2]; exact h2⟩
theorem bad_or {A B C : Prop} (h : A ∨ (B ∧ C)) : A ∨ C := h.elim Or.inl (fun z => Or.inr z.2)
theorem put_c (x p y : Int32) {n : Nat} (hn : n ≤ 120) : (hs x n = 0 ∨ (hs x n = 1 ∧ (p < 0 ∨ 5 ≤ p)) ∨ (hs x n = 1 ∧ (∃ q, q < 5 ∧ p = nI q) ∧ hs y n = 0)) ∨ ∃ a q c, a < n ∧ q < 5 ∧ c < n ∧ x = nI a ∧ p = nI q ∧ y = nI c ∧ hs (nI a) n = 1 ∧ hs (nI c) n = 1 := by
  rcases hs_cases x (n := n) (by omega) with ⟨h, -⟩ | ⟨a, ha, e, h⟩
  · exact Or.inl (Or.inl h)
  · rcases p_cases p with hp | ⟨q, hq, eq⟩
    · exact Or.inl (Or.inr (Or.inl ⟨h, hp⟩))
    · rcases hs_cases y (n := n) (by omega) with ⟨h2, -⟩ | ⟨c, hc, e2, h2⟩
      · exact Or.inl (Or.inr (Or.inr ⟨h, ⟨q, hq, eq⟩, h2⟩))
      · exact Or.inr ⟨a, q, c, ha, hq, hc, e, eq, e2, by rw [← e]; exact h, by rw [← e2]; exact h2⟩
theorem put_m {x p y : Int32} {n : Nat} (h : hs x n = 0 ∨ (hs x n = 1 ∧ (p < 0 ∨ 5 ≤ p)) ∨ (hs x n = 1 ∧ (∃ q, q < 5 ∧ p = nI q) ∧ hs y n = 0)) : hs x n = 0 ∨ hs y n = 0 ∨ p < 0 ∨ 5 ≤ p := by
  rcases h with h | ⟨-, h⟩ | ⟨-, -, h⟩
  · exact Or.inl h
  · exact Or.inr (Or.inr h)
  · exact Or.inr (Or.inl h)
theorem g_cases (g : Int32) : (g < 0 ∨ 31 < g) ∨ ∃ a, a < 32 ∧ g = nI a := by
  rcases pk_ix g (n := 32) (by decide) with z | z | ⟨j, hj, e⟩
  · exact Or.inl (Or.inl z)
  · left; right
    rw [Int32.le_iff_toInt_le, nI_toInt (by decide)] at z
    rw [Int32.lt_iff_toInt_lt, show ((31 : Int32)).toInt = 31 from by decide]; omega
  · exact Or.inr ⟨j, hj, e⟩
theorem part_c (x g p : Int32) {n : Nat} (hn : n ≤ 120) : badp n x g p ∨ (∃ a q, a < n ∧ q < 32 ∧ x = nI a ∧ g = nI q ∧ hs (nI a) n = 1 ∧ p = -1) ∨ (∃ a q r, a < n ∧ q < 32 ∧ r < 5 ∧ x = nI a ∧ g = nI q ∧ hs (nI a) n = 1 ∧ p = nI r) := by
  rcases hs_cases x (n := n) (by omega) with ⟨h, -⟩ | ⟨a, ha, e, h⟩
  · exact Or.inl (Or.inl h)
  · rcases g_cases g with hg | ⟨q, hq, eg⟩
    · rcases hg with z | z
      · exact Or.inl (Or.inr (Or.inl z))
      · exact Or.inl (Or.inr (Or.inr (Or.inl z)))
    · have h' : hs (nI a) n = 1 := by rw [← e]; exact h
      by_cases h1 : p = -1
      · exact Or.inr (Or.inl ⟨a, q, ha, hq, e, eg, h', h1⟩)
      · rcases p_cases p with hp | ⟨r, hr, er⟩
        · left
          rcases hp with z | z
          · refine Or.inr (Or.inr (Or.inr (Or.inl ?_)))
            rw [Int32.lt_iff_toInt_lt, show ((0 : Int32)).toInt = 0 from by decide] at z
            rw [Int32.lt_iff_toInt_lt, show ((-1 : Int32)).toInt = -1 from by decide]
            have : p.toInt ≠ -1 := fun y => h1 (Int32.toInt_inj.mp (by rw [y]; decide))
            omega
          · exact Or.inr (Or.inr (Or.inr (Or.inr z)))
        · exact Or.inr (Or.inr ⟨a, q, r, ha, hq, hr, e, eg, h', er⟩)
theorem two01 {c : Prop} [Decidable c] {r : Int32} {j : Int64} (h1 : r = if c then 1 else 0) (h2 : j = if c then (1 : Int64) else 0) : (r = 0 → j = 0) ∧ (¬ r = 0 → j = 1) := by
  by_cases h : c
  · rw [if_pos h] at h1 h2
    exact ⟨fun z => absurd (h1.symm.trans z) (by decide), fun _ => h2⟩
  · rw [if_neg h] at h1 h2
    exact ⟨fun _ => h2, fun z => absurd h1 z⟩
theorem sm_if {a b : Int32} (h : a = -1 ↔ b = 1) (hb : b = 0 ∨ b = 1) : (if b = 0 then (0 : Int32) else 1) = if a = -1 then 1 else 0 := by
  rcases hb with z | z
  · rw [if_pos z, if_neg (fun y => by rw [h.mp y] at z; exact absurd z (by decide))]
  · rw [if_neg (by rw [z]; decide), if_pos (h.mpr z)]
theorem rg_cases {nd : Nat → Nat × Nat × Nat} {n : Nat} (hW : Wn nd n) {x y : Nat} (hx : x < n) (hy : y < n) : (rgo nd x y = -1 ∧ fra nd x y = -1) ∨ ∃ g, g < 32 ∧ rgo nd x y = nI g ∧ fra nd x y = nI g ∧ ¬ gor nd x y g 0 (fun _ => 0) = -1 := by
  rw [← rgo_fra hW hx hy]
  unfold rgo
  rcases ff_cases (P := fun g => !decide (gor nd x y g 0 (fun _ => 0) = -1)) 32 0 with z | ⟨j, -, h2, h3, h4, -⟩
  · exact Or.inl ⟨z.1, z.1⟩
  · refine Or.inr ⟨j, by omega, h3, h3, ?_⟩
    rw [Bool.not_eq_true', decide_eq_false_iff_not] at h4; exact h4
theorem sol_eq {lo hi : Nat → Nat} {ST : Nat → Int32} {cnt : Nat} (h : NdB lo hi ST cnt) (CO UN : Nat → Int32) {j : Nat} (hj : j < 10) : (if SV lo hi ST cnt = 0 then (-1 : Int32) else NV lo hi ST cnt j) = if (slv lo hi ST (fl cnt 1 CO) cnt UN).1 = 0 then -1 else (slv lo hi ST (fl cnt 1 CO) cnt UN).2 j := by
  rw [sv_m h]
  split
  · rfl
  · next z => exact (nv_m h CO UN z j hj).symm
theorem need_c (x k y : Int32) {unk cnt : Nat} (hu : unk ≤ 10) (hc : cnt ≤ 30) : ((sdm x unk = 0 ∨ sdm y unk = 0) ∧ ¬ ((x = -1 ∨ hs x unk = 1) ∧ (y = -1 ∨ hs y unk = 1))) ∨ ((sdm x unk = 1 ∧ sdm y unk = 1) ∧ ((x = -1 ∨ hs x unk = 1) ∧ (y = -1 ∨ hs y unk = 1)) ∧ (((k < -20 ∨ 20 < k) ∧ (k < -20 ∨ ¬ k ≤ 20)) ∨ (((-20 ≤ k ∧ k ≤ 20) ∧ ¬ (k < -20 ∨ ¬ k ≤ 20)) ∧ (cnt = 30 ∨ (cnt < 30 ∧ ¬ cnt = 30))))) := by
  rcases sdm_b x unk with h | h
  · exact Or.inl ⟨Or.inl h, fun z => by have := (sdm_iff hu).mpr z.1; rw [h] at this; exact absurd this (by decide)⟩
  · rcases sdm_b y unk with h2 | h2
    · exact Or.inl ⟨Or.inr h2, fun z => by have := (sdm_iff hu).mpr z.2; rw [h2] at this; exact absurd this (by decide)⟩
    · refine Or.inr ⟨⟨h, h2⟩, ⟨(sdm_iff hu).mp h, (sdm_iff hu).mp h2⟩, ?_⟩
      rcases k_cases k with hk | hk
      · exact Or.inl ⟨hk, hk.imp id (fun z => Int32.not_le.mpr z)⟩
      · refine Or.inr ⟨⟨hk, fun z => z.elim (fun y => absurd y (Int32.not_lt.mpr hk.1)) (fun y => y hk.2)⟩, ?_⟩
        rcases Nat.decEq cnt 30 with z | z
        · exact Or.inr ⟨by omega, z⟩
        · exact Or.inl z
