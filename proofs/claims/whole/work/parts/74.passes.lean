section CLP
variable {lo hi : Nat → Nat} {ST KP : Nat → Int32} {cnt : Nat}
def bdd (N : Nat) (B : Int) (NB : Nat → Int32) : Prop := ∀ v, v < N → 0 ≤ (NB v).toInt ∧ (NB v).toInt ≤ B
/-- one round of the class -/
theorem ps_ok (hlo : ∀ j, j < cnt → lo j < 11) (hhi : ∀ j, j < cnt → hi j < 11) (hst : ∀ j, j < cnt → -20 ≤ (ST j).toInt ∧ (ST j).toInt ≤ 20) : ∀ (m i : Nat) (NB : Nat → Int32) (b : Int32) (B : Int), i + m = cnt → bdd 11 B NB → 0 ≤ B → B + 20 * m ≤ 1000000 →
    bdd 11 (B + 20 * m) (ps lo hi ST KP i m NB b).1 ∧ (∀ v, v < 11 → (NB v).toInt ≤ ((ps lo hi ST KP i m NB b).1 v).toInt) ∧
    (∀ X : Nat → Int, Sol lo hi ST KP cnt X → (∀ v, v < 11 → (NB v).toInt ≤ X v) → ∀ v, v < 11 → ((ps lo hi ST KP i m NB b).1 v).toInt ≤ X v) ∧
    (∀ j, i ≤ j → j < cnt → ¬ KP j = 0 → (NB (lo j)).toInt + (ST j).toInt ≤ ((ps lo hi ST KP i m NB b).1 (hi j)).toInt) ∧
    ((ps lo hi ST KP i m NB b).2 = 0 → b = 0 ∧ ∀ v, v < 11 → (ps lo hi ST KP i m NB b).1 v = NB v) ∧
    ((ps lo hi ST KP i m NB b).2 = b ∨ ∃ v, v < 11 ∧ (NB v).toInt < ((ps lo hi ST KP i m NB b).1 v).toInt) := by
  intro m
  induction m with
  | zero =>
    intro i NB b B him hB hB0 hB1
    simp only [ps]
    exact ⟨fun v hv => ⟨(hB v hv).1, by have := (hB v hv).2; omega⟩, fun _ _ => Int.le_refl _, fun X _ h => h, fun j h1 h2 => by omega, fun h => ⟨h, fun _ _ => trivial⟩, Or.inl trivial⟩
  | succ m ih =>
    intro i NB b B him hB hB0 hB1
    have hl := hB _ (hlo i (by omega)); have hh := hB _ (hhi i (by omega)); have hs := hst i (by omega)
    have ha : (NB (lo i) + ST i).toInt = (NB (lo i)).toInt + (ST i).toInt := i_add (by omega) (by omega)
    have he : B + 20 * ((m + 1 : Nat) : Int) = B + 20 * (m : Int) + 20 := by omega
    by_cases h0 : KP i = 0
    · rw [ps_0 h0]
      obtain ⟨a1, a2, a3, a4, a5, a6⟩ := ih (i + 1) NB b B (by omega) hB hB0 (by omega)
      refine ⟨fun v hv => ⟨(a1 v hv).1, by have := (a1 v hv).2; omega⟩, a2, a3, fun j h1 h2 h3 => ?_, a5, a6⟩
      rcases Nat.lt_or_ge i j with z | z
      · exact a4 j z h2 h3
      · have e : j = i := by omega
        rw [e] at h3; exact absurd h0 h3
    · by_cases h2 : NB (lo i) + ST i ≤ NB (hi i)
      · rw [ps_1 h0 h2]
        obtain ⟨a1, a2, a3, a4, a5, a6⟩ := ih (i + 1) NB b B (by omega) hB hB0 (by omega)
        refine ⟨fun v hv => ⟨(a1 v hv).1, by have := (a1 v hv).2; omega⟩, a2, a3, fun j h1 h2' h3 => ?_, a5, a6⟩
        rcases Nat.lt_or_ge i j with z | z
        · exact a4 j z h2' h3
        · have e : j = i := by omega
          subst e
          rw [Int32.le_iff_toInt_le, ha] at h2
          have := a2 _ (hhi j h2'); omega
      · rw [ps_2 h0 h2]
        rw [Int32.le_iff_toInt_le, ha] at h2
        have hu : ∀ v, (NB v).toInt ≤ (upd NB (hi i) (NB (lo i) + ST i) v).toInt := fun v => by
          by_cases z : v = hi i
          · rw [z, pk_us, ha]; omega
          · rw [pk_un z]; exact Int.le_refl _
        have hu2 : bdd 11 (B + 20) (upd NB (hi i) (NB (lo i) + ST i)) := fun v hv => by
          by_cases z : v = hi i
          · rw [z, pk_us, ha]; omega
          · rw [pk_un z]; have := hB v hv; omega
        obtain ⟨a1, a2, a3, a4, a5, a6⟩ := ih (i + 1) _ 1 (B + 20) (by omega) hu2 (by omega) (by omega)
        have hlt : (NB (hi i)).toInt < ((ps lo hi ST KP (i + 1) m (upd NB (hi i) (NB (lo i) + ST i)) 1).1 (hi i)).toInt := by
          have := a2 _ (hhi i (by omega))
          rw [pk_us, ha] at this; omega
        refine ⟨fun v hv => ⟨(a1 v hv).1, by have := (a1 v hv).2; omega⟩, fun v hv => Int.le_trans (hu v) (a2 v hv), fun X hX hle => a3 X hX (fun v hv => ?_), fun j h1 h2' h3 => ?_, fun h => absurd (a5 h).1 (by decide), Or.inr ⟨hi i, hhi i (by omega), hlt⟩⟩
        · by_cases z : v = hi i
          · rw [z, pk_us, ha]
            have := hX.n i (by omega) h0; have := hle _ (hlo i (by omega)); omega
          · rw [pk_un z]; exact hle v hv
        · rcases Nat.lt_or_ge i j with z | z
          · have := a4 j z h2' h3; have := hu (lo j); omega
          · have e : j = i := by omega
            subst e
            have := a2 _ (hhi j h2')
            rw [pk_us, ha] at this; exact this
/-- the class's rounds -/
theorem rds_ok (hlo : ∀ j, j < cnt → lo j < 11) (hhi : ∀ j, j < cnt → hi j < 11) (hst : ∀ j, j < cnt → -20 ≤ (ST j).toInt ∧ (ST j).toInt ≤ 20) (hc : cnt ≤ 30) : ∀ (m : Nat) (NB : Nat → Int32), bdd 11 (600 * (12 - m)) NB → m ≤ 12 → (NB 10).toInt ≤ 0 → (∀ X : Nat → Int, Sol lo hi ST KP cnt X → ∀ v, v < 11 → (NB v).toInt ≤ X v) →
    ((rds lo hi ST KP cnt m NB).1 = 1 → Sol lo hi ST KP cnt (fun v => ((rds lo hi ST KP cnt m NB).2 v).toInt) ∧ ∀ X : Nat → Int, Sol lo hi ST KP cnt X → ∀ v, v < 11 → ((rds lo hi ST KP cnt m NB).2 v).toInt ≤ X v) ∧
    (∀ L, Lst lo hi ST KP cnt L → 12 ≤ sm (ind (fun v => (NB v).toInt = L v)) 11 + m → (rds lo hi ST KP cnt m NB).1 = 1) := by
  intro m
  induction m with
  | zero =>
    intro NB _ _ _ _
    refine ⟨fun h => absurd h (by simp only [rds]; decide), fun L _ h => ?_⟩
    have := ind_le (P := fun v => (NB v).toInt = L v) 11
    omega
  | succ m ih =>
    intro NB hB hm h10 hle
    obtain ⟨a1, a2, a3, a4, a5, a6⟩ := ps_ok (KP := KP) hlo hhi hst cnt 0 NB 0 (600 * (12 - (m + 1 : Nat))) (by omega) hB (by omega) (by omega)
    have hB' : bdd 11 (600 * (12 - (m : Int))) (ps lo hi ST KP 0 cnt NB 0).1 := fun v hv => ⟨(a1 v hv).1, by have := (a1 v hv).2; omega⟩
    rw [rds]
    by_cases hf : (ps lo hi ST KP 0 cnt NB 0).2 = 0
    · rw [if_pos hf]
      obtain ⟨-, e⟩ := a5 hf
      refine ⟨fun _ => ⟨⟨?_, fun v hv => (a1 v hv).1, fun i hi0 hk => ?_⟩, fun X hX => a3 X hX (hle X hX)⟩, fun _ _ _ => rfl⟩
      · show ((ps lo hi ST KP 0 cnt NB 0).1 10).toInt = 0
        rw [e 10 (by decide)]; have := (hB 10 (by decide)).1; omega
      · show ((ps lo hi ST KP 0 cnt NB 0).1 (lo i)).toInt + _ ≤ ((ps lo hi ST KP 0 cnt NB 0).1 (hi i)).toInt
        rw [e _ (hlo i hi0)]; exact a4 i (Nat.zero_le _) hi0 hk
    · rw [if_neg hf]
      by_cases hz : (ps lo hi ST KP 0 cnt NB 0).1 10 ≤ 0
      · rw [if_pos hz]
        have hz' : ((ps lo hi ST KP 0 cnt NB 0).1 10).toInt ≤ 0 := by rw [Int32.le_iff_toInt_le] at hz; exact hz
        obtain ⟨b1, b2⟩ := ih _ hB' (by omega) hz' (fun X hX => a3 X hX (hle X hX))
        refine ⟨b1, fun L hL hn => b2 L hL ?_⟩
        have hP : ∀ v, v < 11 → (NB v).toInt = L v → ((ps lo hi ST KP 0 cnt NB 0).1 v).toInt = L v := fun v hv h => by
          have := a2 v hv; have := a3 L hL.1 (hle L hL.1) v hv; omega
        rcases Classical.em (∃ v, v < 11 ∧ ¬ (NB v).toInt = L v ∧ ((ps lo hi ST KP 0 cnt NB 0).1 v).toInt = L v) with z | z
        · have := ind_lt (P := fun v => (NB v).toInt = L v) (Q := fun v => ((ps lo hi ST KP 0 cnt NB 0).1 v).toInt = L v) 11 hP z
          omega
        · exfalso
          have hall := lst_set hL (fun v => (NB v).toInt = L v) (by
              show (NB 10).toInt = L 10
              have := (hB 10 (by decide)).1; rw [hL.1.z]; omega) (fun v hv h => by
              have h : ¬ (NB v).toInt = L v := h
              have := (hB v hv).1; have := hle L hL.1 v hv; omega) (fun i hi0 hk h1 h2 => by
              have h1 : (NB (lo i)).toInt = L (lo i) := h1
              have h2 : ¬ (NB (hi i)).toInt = L (hi i) := h2
              have c1 := a4 i (Nat.zero_le _) hi0 hk
              have c2 := a3 L hL.1 (hle L hL.1) (hi i) (hhi i hi0)
              have c3 : ¬ ((ps lo hi ST KP 0 cnt NB 0).1 (hi i)).toInt = L (hi i) := fun y => z ⟨hi i, hhi i hi0, h2, y⟩
              omega)
          rcases a6 with y | ⟨v, hv, y⟩
          · exact hf y
          · have c1 : (NB v).toInt = L v := hall v hv
            have c2 := a3 L hL.1 (hle L hL.1) v hv
            omega
      · rw [if_neg hz]
        refine ⟨fun h => absurd h (show ¬ (0 : Int32) = 1 by decide), fun L hL _ => ?_⟩
        exfalso
        apply hz
        rw [Int32.le_iff_toInt_le]
        have := a3 L hL.1 (hle L hL.1) 10 (by decide)
        rw [hL.1.z] at this; exact this
theorem cks_ok (hlo : ∀ j, j < cnt → lo j < 11) (hhi : ∀ j, j < cnt → hi j < 11) (hst : ∀ j, j < cnt → -20 ≤ (ST j).toInt ∧ (ST j).toInt ≤ 20) (hc : cnt ≤ 30) (NB : Nat → Int32) :
    ((cks lo hi ST KP cnt NB).1 = 1 → Sol lo hi ST KP cnt (fun v => ((cks lo hi ST KP cnt NB).2 v).toInt) ∧ ∀ X : Nat → Int, Sol lo hi ST KP cnt X → ∀ v, v < 11 → ((cks lo hi ST KP cnt NB).2 v).toInt ≤ X v) ∧
    ((∃ X, Sol lo hi ST KP cnt X) → (cks lo hi ST KP cnt NB).1 = 1) := by
  have h0 : ∀ v, v < 11 → (fl 11 0 NB v).toInt = 0 := fun v hv => by rw [fl, if_pos hv]; rfl
  obtain ⟨a, b⟩ := rds_ok (KP := KP) hlo hhi hst hc 12 (fl 11 0 NB) (fun v hv => by rw [h0 v hv]; omega) (by omega) (by rw [h0 10 (by decide)]; omega) (fun X hX v hv => by rw [h0 v hv]; exact hX.p v hv)
  refine ⟨a, fun ⟨X, hX⟩ => ?_⟩
  obtain ⟨L, hL⟩ := lst_of hX
  refine b L hL ?_
  have := sm_nn (f := ind (fun v => (fl 11 0 NB v).toInt = L v)) 11 (fun v _ => by show (0 : Int) ≤ if (fl 11 0 NB v).toInt = L v then 1 else 0; split <;> omega)
  omega
end CLP
