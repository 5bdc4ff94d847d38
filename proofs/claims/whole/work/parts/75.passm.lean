section MDP
variable {lo hi : Nat → Nat} {ST KP : Nat → Int32} {cnt : Nat}
theorem uv_le {UN UN' : Nat → Int32} (h : ∀ v, v < 10 → (UN v).toInt ≤ (UN' v).toInt) (v : Nat) (hv : v < 11) : (uv UN v).toInt ≤ (uv UN' v).toInt := by
  by_cases z : v = 10
  · rw [uv_10 z, uv_10 z]; exact Int.le_refl _
  · rw [uv_n (by omega), uv_n (by omega)]; exact h v (by omega)
theorem uv_bd {UN : Nat → Int32} (h : bdd 10 200 UN) (v : Nat) (hv : v < 11) : 0 ≤ (uv UN v).toInt ∧ (uv UN v).toInt ≤ 200 := by
  by_cases z : v = 10
  · rw [uv_10 z, i_0]; omega
  · rw [uv_n (by omega)]; exact h v (by omega)
theorem uv_X {UN : Nat → Int32} {X : Nat → Int} (hX : Sol lo hi ST KP cnt X) (h : ∀ v, v < 10 → (UN v).toInt ≤ X v) (v : Nat) (hv : v < 11) : (uv UN v).toInt ≤ X v := by
  by_cases z : v = 10
  · rw [uv_10 z, z, hX.z]; exact Int.le_refl _
  · rw [uv_n (by omega)]; exact h v (by omega)
/-- one round of the reference -/
theorem psm_ok (hlo : ∀ j, j < cnt → lo j < 11) (hhi : ∀ j, j < cnt → hi j < 11) (hst : ∀ j, j < cnt → -20 ≤ (ST j).toInt ∧ (ST j).toInt ≤ 20) : ∀ (m i : Nat) (UN : Nat → Int32) (b : Int32), i + m = cnt → bdd 10 200 UN →
    bdd 10 200 (psm lo hi ST KP i m UN b).2.1 ∧ (∀ v, v < 10 → (UN v).toInt ≤ ((psm lo hi ST KP i m UN b).2.1 v).toInt) ∧
    (∀ X : Nat → Int, Sol lo hi ST KP cnt X → (∀ v, v < 10 → (UN v).toInt ≤ X v) → ∀ v, v < 10 → ((psm lo hi ST KP i m UN b).2.1 v).toInt ≤ X v) ∧
    ((psm lo hi ST KP i m UN b).1 = 1 → ∀ j, i ≤ j → j < cnt → ¬ KP j = 0 → (uv UN (lo j)).toInt + (ST j).toInt ≤ (uv (psm lo hi ST KP i m UN b).2.1 (hi j)).toInt) ∧
    ((psm lo hi ST KP i m UN b).1 = 1 → (psm lo hi ST KP i m UN b).2.2 = 0 → b = 0 ∧ ∀ v, v < 10 → (psm lo hi ST KP i m UN b).2.1 v = UN v) ∧
    (∀ X : Nat → Int, Sol lo hi ST KP cnt X → (∀ v, v < 11 → X v ≤ 200) → (∀ v, v < 10 → (UN v).toInt ≤ X v) → (psm lo hi ST KP i m UN b).1 = 1) ∧
    ((psm lo hi ST KP i m UN b).2.2 = b ∨ ∃ v, v < 10 ∧ (UN v).toInt < ((psm lo hi ST KP i m UN b).2.1 v).toInt) := by
  intro m
  induction m with
  | zero =>
    intro i UN b him hB
    simp only [psm]
    exact ⟨hB, fun _ _ => Int.le_refl _, fun X _ h => h, fun _ j h1 h2 => by omega, fun _ h => ⟨h, fun _ _ => trivial⟩, fun _ _ _ _ => trivial, Or.inl trivial⟩
  | succ m ih =>
    intro i UN b him hB
    have hl := uv_bd hB _ (hlo i (by omega)); have hs := hst i (by omega); have hh := hhi i (by omega)
    have ha : (uv UN (lo i) + ST i).toInt = (uv UN (lo i)).toInt + (ST i).toInt := i_add (by omega) (by omega)
    have t200 : (200 : Int32).toInt = 200 := by decide
    by_cases h0 : KP i = 0
    · rw [psm_0 h0]
      obtain ⟨a1, a2, a3, a4, a5, a6, a7⟩ := ih (i + 1) UN b (by omega) hB
      refine ⟨a1, a2, a3, fun ho j h1 h2 h3 => ?_, a5, a6, a7⟩
      rcases Nat.lt_or_ge i j with z | z
      · exact a4 ho j z h2 h3
      · have e : j = i := by omega
        rw [e] at h3; exact absurd h0 h3
    · by_cases hT : hi i = 10
      · by_cases h2 : uv UN (lo i) + ST i ≤ 0
        · rw [psm_n h0 hT h2]
          obtain ⟨a1, a2, a3, a4, a5, a6, a7⟩ := ih (i + 1) UN b (by omega) hB
          refine ⟨a1, a2, a3, fun ho j h1 h2' h3 => ?_, a5, a6, a7⟩
          rcases Nat.lt_or_ge i j with z | z
          · exact a4 ho j z h2' h3
          · have e : j = i := by omega
            subst e
            rw [Int32.le_iff_toInt_le, ha, i_0] at h2
            rw [uv_10 hT, i_0]; exact h2
        · rw [psm_nf h0 hT h2]
          refine ⟨hB, fun _ _ => Int.le_refl _, fun X _ h => h, fun h => absurd h (show ¬ (0 : Int32) = 1 by decide), fun h => absurd h (show ¬ (0 : Int32) = 1 by decide), fun X hX _ hle => ?_, Or.inl rfl⟩
          exfalso
          rw [Int32.le_iff_toInt_le, ha, i_0] at h2
          have c1 := hX.n i (by omega) h0
          rw [hT, hX.z] at c1
          have := uv_X hX hle _ (hlo i (by omega))
          omega
      · have hT' : hi i < 10 := by omega
        by_cases h2 : uv UN (lo i) + ST i ≤ 200
        · by_cases h3 : uv UN (lo i) + ST i ≤ UN (hi i)
          · rw [psm_1 h0 hT' h2 h3]
            obtain ⟨a1, a2, a3, a4, a5, a6, a7⟩ := ih (i + 1) UN b (by omega) hB
            refine ⟨a1, a2, a3, fun ho j h1 h2' h3' => ?_, a5, a6, a7⟩
            rcases Nat.lt_or_ge i j with z | z
            · exact a4 ho j z h2' h3'
            · have e : j = i := by omega
              subst e
              rw [Int32.le_iff_toInt_le, ha] at h3
              rw [uv_n (UN := (psm lo hi ST KP (j + 1) m UN b).2.1) hT']
              have := a2 _ hT'; omega
          · rw [psm_2 h0 hT' h2 h3]
            rw [Int32.le_iff_toInt_le, ha] at h3
            rw [Int32.le_iff_toInt_le, ha, t200] at h2
            have h4 := hB _ hT'
            have hu : ∀ v, v < 10 → (UN v).toInt ≤ (upd UN (hi i) (uv UN (lo i) + ST i) v).toInt := fun v _ => by
              by_cases z : v = hi i
              · rw [z, pk_us, ha]; omega
              · rw [pk_un z]; exact Int.le_refl _
            have hu2 : bdd 10 200 (upd UN (hi i) (uv UN (lo i) + ST i)) := fun v hv => by
              by_cases z : v = hi i
              · rw [z, pk_us, ha]; omega
              · rw [pk_un z]; exact hB v hv
            obtain ⟨a1, a2, a3, a4, a5, a6, a7⟩ := ih (i + 1) _ 1 (by omega) hu2
            have hlt : (UN (hi i)).toInt < ((psm lo hi ST KP (i + 1) m (upd UN (hi i) (uv UN (lo i) + ST i)) 1).2.1 (hi i)).toInt := by
              have := a2 _ hT'
              rw [pk_us, ha] at this; omega
            have hX' : ∀ X : Nat → Int, Sol lo hi ST KP cnt X → (∀ v, v < 10 → (UN v).toInt ≤ X v) → ∀ v, v < 10 → (upd UN (hi i) (uv UN (lo i) + ST i) v).toInt ≤ X v := fun X hX hle v hv => by
              by_cases z : v = hi i
              · rw [z, pk_us, ha]
                have := hX.n i (by omega) h0; have := uv_X hX hle _ (hlo i (by omega)); omega
              · rw [pk_un z]; exact hle v hv
            refine ⟨a1, fun v hv => Int.le_trans (hu v hv) (a2 v hv), fun X hX hle => a3 X hX (hX' X hX hle), fun ho j h1 h2' h3' => ?_, fun ho h => absurd (a5 ho h).1 (by decide), fun X hX h200 hle => a6 X hX h200 (hX' X hX hle), Or.inr ⟨hi i, hT', hlt⟩⟩
            rcases Nat.lt_or_ge i j with z | z
            · have := a4 ho j z h2' h3'; have := uv_le hu (lo j) (hlo j h2'); omega
            · have e : j = i := by omega
              subst e
              have := a2 _ hT'
              rw [pk_us, ha] at this
              rw [uv_n (UN := (psm lo hi ST KP (j + 1) m _ 1).2.1) hT']; exact this
        · rw [psm_f h0 hT' h2]
          refine ⟨hB, fun _ _ => Int.le_refl _, fun X _ h => h, fun h => absurd h (show ¬ (0 : Int32) = 1 by decide), fun h => absurd h (show ¬ (0 : Int32) = 1 by decide), fun X hX h200 hle => ?_, Or.inl rfl⟩
          exfalso
          rw [Int32.le_iff_toInt_le, ha, t200] at h2
          have c1 := hX.n i (by omega) h0
          have := uv_X hX hle _ (hlo i (by omega)); have := h200 _ hh
          omega
theorem psm_b : ∀ (m i : Nat) (UN : Nat → Int32) (b : Int32), (psm lo hi ST KP i m UN b).1 = 0 ∨ (psm lo hi ST KP i m UN b).1 = 1
  | 0, _, _, _ => Or.inr rfl
  | m + 1, i, UN, b => by
    rw [psm]
    split
    · exact psm_b m _ _ _
    · split
      · split
        · exact psm_b m _ _ _
        · exact Or.inl rfl
      · split
        · split
          · exact psm_b m _ _ _
          · exact psm_b m _ _ _
        · exact Or.inl rfl
theorem sm_200 {UN : Nat → Int32} (h : bdd 10 200 UN) : 0 ≤ sm (fun v => (UN v).toInt) 10 ∧ sm (fun v => (UN v).toInt) 10 ≤ 2000 := by
  have a := sm_nn (f := fun v => (UN v).toInt) 10 (fun v hv => (h v hv).1)
  have b := sm_le (f := fun v => (UN v).toInt) (g := fun _ => 200) 10 (fun v hv => (h v hv).2)
  rw [sm_const] at b
  exact ⟨a, by omega⟩
theorem trm_ok (hlo : ∀ j, j < cnt → lo j < 11) (hhi : ∀ j, j < cnt → hi j < 11) (hst : ∀ j, j < cnt → -20 ≤ (ST j).toInt ∧ (ST j).toInt ≤ 20) : ∀ (q : Nat) (UN : Nat → Int32), bdd 10 200 UN → 2001 ≤ sm (fun v => (UN v).toInt) 10 + q → trm lo hi ST KP cnt q UN := by
  intro q
  induction q with
  | zero => intro UN hB h; have := (sm_200 hB).2; omega
  | succ q ih =>
    intro UN hB h
    obtain ⟨a1, a2, -, -, -, -, a7⟩ := psm_ok (KP := KP) hlo hhi hst cnt 0 UN 0 (by omega) hB
    intro _ hf
    refine ih _ a1 ?_
    rcases a7 with z | z
    · exact absurd z hf
    · have := sm_lt (f := fun v => (UN v).toInt) (g := fun v => ((psm lo hi ST KP 0 cnt UN 0).2.1 v).toInt) 10 a2 z
      omega
theorem mrd_ok (hlo : ∀ j, j < cnt → lo j < 11) (hhi : ∀ j, j < cnt → hi j < 11) (hst : ∀ j, j < cnt → -20 ≤ (ST j).toInt ∧ (ST j).toInt ≤ 20) : ∀ (q : Nat) (UN : Nat → Int32), bdd 10 200 UN → (∀ X : Nat → Int, Sol lo hi ST KP cnt X → ∀ v, v < 10 → (UN v).toInt ≤ X v) → trm lo hi ST KP cnt q UN →
    ((mrd lo hi ST KP cnt q UN).1 = 1 → Sol lo hi ST KP cnt (fun v => (uv (mrd lo hi ST KP cnt q UN).2 v).toInt) ∧ ∀ X : Nat → Int, Sol lo hi ST KP cnt X → ∀ v, v < 10 → ((mrd lo hi ST KP cnt q UN).2 v).toInt ≤ X v) ∧
    (∀ L, Lst lo hi ST KP cnt L → (mrd lo hi ST KP cnt q UN).1 = 1) := by
  intro q
  induction q with
  | zero => intro UN _ _ h; exact h.elim
  | succ q ih =>
    intro UN hB hle ht
    obtain ⟨a1, a2, a3, a4, a5, a6, a7⟩ := psm_ok (KP := KP) hlo hhi hst cnt 0 UN 0 (by omega) hB
    have ht' : (psm lo hi ST KP 0 cnt UN 0).1 = 1 → ¬ (psm lo hi ST KP 0 cnt UN 0).2.2 = 0 → trm lo hi ST KP cnt q (psm lo hi ST KP 0 cnt UN 0).2.1 := ht
    have hok : ∀ L, Lst lo hi ST KP cnt L → (psm lo hi ST KP 0 cnt UN 0).1 = 1 := fun L hL => a6 L hL.1 (lst_200 hL hhi (fun j hj => (hst j hj).2)) (hle L hL.1)
    have hb1 : (psm lo hi ST KP 0 cnt UN 0).1 = 0 ∨ (psm lo hi ST KP 0 cnt UN 0).1 = 1 := psm_b cnt 0 UN 0
    rw [mrd]
    by_cases h0 : (psm lo hi ST KP 0 cnt UN 0).1 = 0
    · rw [if_pos h0]
      exact ⟨fun h => absurd h (show ¬ (0 : Int32) = 1 by decide), fun L hL => absurd ((hok L hL).symm.trans h0) (by decide)⟩
    · rw [if_neg h0]
      have h1 := hb1.resolve_left h0
      by_cases hf : (psm lo hi ST KP 0 cnt UN 0).2.2 = 0
      · rw [if_pos hf]
        obtain ⟨-, e⟩ := a5 h1 hf
        refine ⟨fun _ => ⟨⟨?_, fun v hv => (uv_bd a1 v hv).1, fun i hi0 hk => ?_⟩, fun X hX => a3 X hX (hle X hX)⟩, fun _ _ => rfl⟩
        · show (uv (psm lo hi ST KP 0 cnt UN 0).2.1 10).toInt = 0
          rw [uv_10 rfl]; rfl
        · show (uv (psm lo hi ST KP 0 cnt UN 0).2.1 (lo i)).toInt + _ ≤ (uv (psm lo hi ST KP 0 cnt UN 0).2.1 (hi i)).toInt
          have := a4 h1 i (Nat.zero_le _) hi0 hk
          have := uv_le (UN := (psm lo hi ST KP 0 cnt UN 0).2.1) (UN' := UN) (fun v hv => by rw [e v hv]; exact Int.le_refl _) (lo i) (hlo i hi0)
          omega
      · rw [if_neg hf]
        exact ih _ a1 (fun X hX => a3 X hX (hle X hX)) (ht' h1 hf)
theorem fl_bd (UN : Nat → Int32) : bdd 10 200 (fl 10 0 UN) := fun v hv => by rw [fl, if_pos hv, i_0]; omega
theorem trm_all (hlo : ∀ j, j < cnt → lo j < 11) (hhi : ∀ j, j < cnt → hi j < 11) (hst : ∀ j, j < cnt → -20 ≤ (ST j).toInt ∧ (ST j).toInt ≤ 20) (UN : Nat → Int32) : trm lo hi ST KP cnt 2001 (fl 10 0 UN) :=
  trm_ok hlo hhi hst 2001 _ (fl_bd UN) (by have := (sm_200 (fl_bd UN)).1; omega)
theorem slv_ok (hlo : ∀ j, j < cnt → lo j < 11) (hhi : ∀ j, j < cnt → hi j < 11) (hst : ∀ j, j < cnt → -20 ≤ (ST j).toInt ∧ (ST j).toInt ≤ 20) (UN : Nat → Int32) :
    ((slv lo hi ST KP cnt UN).1 = 1 → Sol lo hi ST KP cnt (fun v => (uv (slv lo hi ST KP cnt UN).2 v).toInt) ∧ ∀ X : Nat → Int, Sol lo hi ST KP cnt X → ∀ v, v < 10 → ((slv lo hi ST KP cnt UN).2 v).toInt ≤ X v) ∧
    ((∃ X, Sol lo hi ST KP cnt X) → (slv lo hi ST KP cnt UN).1 = 1) := by
  obtain ⟨a, b⟩ := mrd_ok (KP := KP) hlo hhi hst 2001 (fl 10 0 UN) (fl_bd UN) (fun X hX v hv => by rw [fl, if_pos hv, i_0]; exact hX.p v (by omega)) (trm_all hlo hhi hst UN)
  exact ⟨a, fun ⟨X, hX⟩ => let ⟨L, hL⟩ := lst_of hX; b L hL⟩
/-- class and reference agree -/
theorem cks_slv (hlo : ∀ j, j < cnt → lo j < 11) (hhi : ∀ j, j < cnt → hi j < 11) (hst : ∀ j, j < cnt → -20 ≤ (ST j).toInt ∧ (ST j).toInt ≤ 20) (hc : cnt ≤ 30) (NB UN : Nat → Int32) : (cks lo hi ST KP cnt NB).1 = (slv lo hi ST KP cnt UN).1 ∧ ((cks lo hi ST KP cnt NB).1 = 1 → ∀ v, v < 10 → (cks lo hi ST KP cnt NB).2 v = (slv lo hi ST KP cnt UN).2 v) := by
  obtain ⟨a, b⟩ := cks_ok (KP := KP) hlo hhi hst hc NB
  obtain ⟨c, d⟩ := slv_ok (KP := KP) hlo hhi hst UN
  have e1 : (cks lo hi ST KP cnt NB).1 = 1 → (slv lo hi ST KP cnt UN).1 = 1 := fun h => d ⟨_, (a h).1⟩
  have e2 : (slv lo hi ST KP cnt UN).1 = 1 → (cks lo hi ST KP cnt NB).1 = 1 := fun h => b ⟨_, (c h).1⟩
  refine ⟨?_, fun h v hv => ?_⟩
  · rcases cks_b (lo := lo) (hi := hi) (ST := ST) (KP := KP) (cnt := cnt) (NB := NB) with h | h
    · rcases slv_b (lo := lo) (hi := hi) (AA := ST) (CO := KP) (cnt := cnt) (UN := UN) with g | g
      · rw [h, g]
      · rw [e2 g, g]
    · rw [h, e1 h]
  · have f1 := (a h).2 _ (c (e1 h)).1 v (by omega)
    have f2 := (c (e1 h)).2 _ (a h).1 v hv
    have f1 : _ ≤ (uv (slv lo hi ST KP cnt UN).2 v).toInt := f1
    rw [uv_n hv] at f1
    exact Int32.toInt_inj.mp (Int.le_antisymm f1 f2)
theorem kco_kcm (hlo : ∀ j, j < cnt → lo j < 11) (hhi : ∀ j, j < cnt → hi j < 11) (hst : ∀ j, j < cnt → -20 ≤ (ST j).toInt ∧ (ST j).toInt ≤ 20) (hc : cnt ≤ 30) : ∀ (i : Nat) (KP NB UN : Nat → Int32), (kco lo hi ST cnt i KP NB).1 = (kcm lo hi ST cnt i KP UN).1
  | 0, _, _, _ => rfl
  | i + 1, KP, NB, UN => by
    rw [kco, kcm, (cks_slv hlo hhi hst hc NB UN).1]
    exact kco_kcm hlo hhi hst hc i _ _ _
end MDP
