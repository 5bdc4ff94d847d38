section LVL3
variable {nd : Nat → Nat × Nat × Nat} {n : Nat}
theorem sT_on {g : Nat} {T : Nat → Nat} (h : ∀ p, p < 5 → T p = g / 2 ^ p % 2) : sT T 5 = on g := by
  simp only [sT]
  rw [h 0 (by decide), h 1 (by decide), h 2 (by decide), h 3 (by decide), h 4 (by decide)]
  unfold on
  simp only [Nat.reducePow, Nat.div_one, Nat.mul_one, Nat.zero_add]
theorem sT_X {g X N : Nat} {T : Nat → Nat} (hX : X < 5) (hb : g / 2 ^ X % 2 = 1) (h : ∀ p, p < 5 → ¬ p = X → T p = g / 2 ^ p % 2) (hN : T X = N + 1) : sT T 5 = on g + N * 4096 ^ X := by
  simp only [sT]
  unfold on
  rcases (show X = 0 ∨ X = 1 ∨ X = 2 ∨ X = 3 ∨ X = 4 by omega) with rfl | rfl | rfl | rfl | rfl
  · rw [hN, h 1 (by decide) (by decide), h 2 (by decide) (by decide), h 3 (by decide) (by decide), h 4 (by decide) (by decide)]
    simp only [Nat.reducePow, Nat.div_one, Nat.mul_one, Nat.zero_add] at hb ⊢
    omega
  · rw [hN, h 0 (by decide) (by decide), h 2 (by decide) (by decide), h 3 (by decide) (by decide), h 4 (by decide) (by decide)]
    simp only [Nat.reducePow, Nat.div_one, Nat.mul_one, Nat.zero_add] at hb ⊢
    omega
  · rw [hN, h 0 (by decide) (by decide), h 1 (by decide) (by decide), h 3 (by decide) (by decide), h 4 (by decide) (by decide)]
    simp only [Nat.reducePow, Nat.div_one, Nat.mul_one, Nat.zero_add] at hb ⊢
    omega
  · rw [hN, h 0 (by decide) (by decide), h 1 (by decide) (by decide), h 2 (by decide) (by decide), h 4 (by decide) (by decide)]
    simp only [Nat.reducePow, Nat.div_one, Nat.mul_one, Nat.zero_add] at hb ⊢
    omega
  · rw [hN, h 0 (by decide) (by decide), h 1 (by decide) (by decide), h 2 (by decide) (by decide), h 3 (by decide) (by decide)]
    simp only [Nat.reducePow, Nat.div_one, Nat.mul_one, Nat.zero_add] at hb ⊢
    omega
theorem pab_abv (hW : Wn nd n) {x y g : Nat} (hx : x < n) (hy : y < n) (h : ¬ gor nd x y g 0 (fun _ => 0) = -1) : pab (pb g nd x) (pb g nd y) g = lN (abv nd x y g 5) := by
  have cx := pb_CF hW g hx
  have cy := pb_CF hW g hy
  have x62 := pb_62 hW g hx
  have y62 := pb_62 hW g hy
  have vy : vo (pb g nd y) ≤ 61 := vo_le.mpr ⟨by have := y62 5 (by decide); omega, fun p hp => by have := y62 p (by omega); omega⟩
  have wx := vo_le.mp (Nat.le_refl (vo (pb g nd x)))
  have wy := vo_le.mp (Nat.le_refl (vo (pb g nd y)))
  have b2 : ∀ p, g / 2 ^ p % 2 < 2 := fun p => Nat.mod_lt _ (by decide)
  rcases Nat.lt_or_ge (vo (pb g nd y)) (vo (pb g nd x)) with hv | hv
  · -- at the ones
    rw [pab, if_pos (Or.inr hv), (abv_is (T := fun p => g / 2 ^ p % 2) hW hx hy h (fun p _ => Nat.le_refl _) (fun p hp => ?_) (fun p hp k k1 k2 => by omega) 5 (Nat.le_refl _)).2, sT_on (fun p _ => rfl)]
    refine (gor_nu hW hx hy (by omega) (fun q _ => ⟨fun z => by show 1 ≤ g / 2 ^ q % 2; omega, fun z => by show g / 2 ^ q % 2 = 0; have := b2 q; omega⟩) (fun q _ => by show g / 2 ^ q % 2 ≤ 100; have := b2 q; omega)).mpr (Or.inl ?_)
    have r1 : ∀ q, q < 5 → g / 2 ^ q % 2 = 1 → rs g (p + 1) (-1) (fun p => g / 2 ^ p % 2) q = 1 := fun q hq hb => by
      rcases Nat.lt_or_ge q (p + 1) with z | z
      · rw [rs_lt z]; exact hb
      · rw [rs_b z (nI_m1 (by omega))]; exact hb
    rw [ev_vo cx r1, ev_vo cy r1]; exact hv
  · rcases lh_cases (pb g nd x) (pb g nd y) with hl | ⟨X, hX, eX, hX1, hX2⟩
    · -- nothing is above
      exfalso
      rcases (gor_0 hW hx hy).mp h with z | ⟨p, hp, z⟩
      · omega
      · have := lh_ex.mp hl p hp; omega
    · have hbX := cx.1 X hX (by omega)
      have hXx := wx.2 X hX
      have hxX := x62 X (by omega)
      obtain ⟨N, hN⟩ : ∃ N, N = vo (pb g nd y) + 1 - pb g nd x X := ⟨_, rfl⟩
      -- a point with k at X and 1 else
      have low : ∀ (ro : Nat → Nat) (k : Nat), ro X = k → (∀ q, q < 5 → ¬ q = X → g / 2 ^ q % 2 = 1 → ro q = 1) → 1 ≤ k → k + pb g nd x X ≤ vo (pb g nd y) + 1 → ev (pb g nd x) ro ≤ vo (pb g nd y) ∧ vo (pb g nd y) ≤ ev (pb g nd y) ro := by
        intro ro k hk h1 k1 k2
        refine ⟨ev_le.mpr ⟨by omega, fun q hq => ?_⟩, vo_le.mpr ⟨ev_5 _ _, fun q hq => ?_⟩⟩
        · by_cases z : q = X
          · rw [z, pv_n (by omega), hk]; omega
          · by_cases w : pb g nd x q = 0
            · rw [pv_0 w]; omega
            · rw [pv_n w, h1 q hq z (cx.1 q hq w)]; have := wx.2 q hq; omega
        · by_cases w : pb g nd y q = 0
          · omega
          · have e := ev_p (pb g nd y) ro hq
            rw [pv_n w] at e
            by_cases z : q = X
            · rw [z] at e ⊢; omega
            · rw [h1 q hq z (cy.1 q hq w)] at e; omega
      have top : ∀ (ro : Nat → Nat), ro X = N + 1 → (∀ q, q < 5 → ¬ q = X → g / 2 ^ q % 2 = 1 → ro q = 1) → ev (pb g nd y) ro < ev (pb g nd x) ro := by
        intro ro hk h1
        have a : ev (pb g nd y) ro ≤ vo (pb g nd y) := ev_le.mpr ⟨wy.1, fun q hq => by
          by_cases w : pb g nd y q = 0
          · rw [pv_0 w]; omega
          · by_cases z : q = X
            · rw [pv_n w, z, hk]; omega
            · rw [pv_n w, h1 q hq z (cy.1 q hq w)]; have := wy.2 q hq; omega⟩
        have b := ev_p (pb g nd x) ro hX
        rw [pv_n (by omega), hk] at b
        omega
      let T : Nat → Nat := fun p => if p = X then N + 1 else g / 2 ^ p % 2
      have TX : T X = N + 1 := if_pos rfl
      have Tn : ∀ p, ¬ p = X → T p = g / 2 ^ p % 2 := fun p hp => if_neg hp
      have rT : ∀ fr nu, (∀ q, q < fr → nu q = T q) → ∀ q, q < 5 → ¬ q = X → g / 2 ^ q % 2 = 1 → rs g fr (-1) nu q = 1 := fun fr nu hnu q hq hne hb => by
        rcases Nat.lt_or_ge q fr with z | z
        · rw [rs_lt z, hnu q z, Tn q hne]; exact hb
        · rw [rs_b z (nI_m1 (by omega))]; exact hb
      have Treg : ∀ q, (g / 2 ^ q % 2 = 1 → 1 ≤ T q) ∧ (¬ g / 2 ^ q % 2 = 1 → T q = 0) := fun q => by
        by_cases z : q = X
        · rw [z, TX]; exact ⟨fun _ => by omega, fun w => absurd hbX w⟩
        · rw [Tn q z]; have := b2 q; exact ⟨fun w => by omega, fun w => by omega⟩
      have T100 : ∀ q, T q ≤ 100 := fun q => by
        by_cases z : q = X
        · rw [z, TX]; omega
        · rw [Tn q z]; have := b2 q; omega
      have fin := (abv_is (T := T) hW hx hy h (fun p hp => by
          by_cases z : p = X
          · rw [z, TX]; have := b2 X; omega
          · rw [Tn p z]; exact Nat.le_refl _) (fun p hp => by
          refine (gor_nu hW hx hy (by omega) (fun q _ => Treg q) (fun q _ => T100 q)).mpr ?_
          rcases Nat.lt_or_ge p X with z | z
          · exact Or.inr ⟨X, by omega, hX, hX1⟩
          · left
            exact top _ (by rw [rs_lt (by omega)]; exact TX) (rT (p + 1) T (fun _ _ => rfl))) (fun p hp k k1 k2 => by
          by_cases z : p = X
          · subst z
            rw [TX] at k2
            rw [hbX] at k1
            refine Classical.byContradiction fun w => ?_
            have nr : ∀ q, q < p + 1 → (g / 2 ^ q % 2 = 1 → 1 ≤ nup T p k q) ∧ (¬ g / 2 ^ q % 2 = 1 → nup T p k q = 0) := fun q _ => by
              by_cases y1 : q = p
              · rw [y1, nup_s]; exact ⟨fun _ => k1, fun w => absurd hbX w⟩
              · rw [nup_n y1]; exact Treg q
            have n1 : ∀ q, q < p + 1 → nup T p k q ≤ 100 := fun q _ => by
              by_cases y1 : q = p
              · rw [y1, nup_s]; omega
              · rw [nup_n y1]; exact T100 q
            rcases (gor_nu hW hx hy (by omega) nr n1).mp w with q | ⟨q, q1, q2, q3⟩
            · obtain ⟨l1, l2⟩ := low (rs g (p + 1) (-1) (nup T p k)) k (by rw [rs_lt (by omega), nup_s]) (fun q hq hne hb => by
                rcases Nat.lt_or_ge q (p + 1) with y1 | y1
                · rw [rs_lt y1, nup_n hne, Tn q hne]; exact hb
                · rw [rs_b y1 (nI_m1 (by omega))]; exact hb) k1 (by omega)
              omega
            · have := hX2 q (by omega) q2; omega
          · rw [Tn p z] at k2; omega) 5 (Nat.le_refl _)).2
      rw [fin, sT_X hX hbX (fun p _ hne => Tn p hne) TX, pab, if_neg (fun z => z.elim (fun z => nI_m1 (by omega) (eX.symm.trans z)) (by omega)), eX, nI_clamp (by omega), hN]
end LVL3
