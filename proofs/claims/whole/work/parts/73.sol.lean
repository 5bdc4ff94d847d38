/-! The needs: both solvers find the least solution. -/
theorem i_add {a b : Int32} (h1 : -2000000 ≤ a.toInt + b.toInt) (h2 : a.toInt + b.toInt ≤ 2000000) : (a + b).toInt = a.toInt + b.toInt := by
  rw [Int32.toInt_add, Int.bmod_eq_of_le (by omega) (by omega)]
theorem i_lg (a b : Int) : a < b ∨ b ≤ a := by omega
theorem i_0 : (0 : Int32).toInt = 0 := rfl
/-- a sum -/
def sm (f : Nat → Int) : Nat → Int
  | 0 => 0
  | n + 1 => sm f n + f n
theorem sm_le {f g : Nat → Int} : ∀ n, (∀ v, v < n → f v ≤ g v) → sm f n ≤ sm g n
  | 0, _ => Int.le_refl _
  | n + 1, h => by have := sm_le n (fun v hv => h v (by omega)); have := h n (by omega); simp only [sm]; omega
theorem sm_lt {f g : Nat → Int} : ∀ n, (∀ v, v < n → f v ≤ g v) → (∃ v, v < n ∧ f v < g v) → sm f n < sm g n
  | 0, _, ⟨_, h, _⟩ => absurd h (Nat.not_lt_zero _)
  | n + 1, h, ⟨v, hv, hlt⟩ => by
    have a := sm_le n (fun v hv => h v (by omega)); have b := h n (by omega)
    simp only [sm]
    rcases Nat.lt_or_ge v n with z | z
    · have := sm_lt n (fun v hv => h v (by omega)) ⟨v, z, hlt⟩; omega
    · have e : v = n := by omega
      rw [e] at hlt; omega
theorem sm_const (c : Int) : ∀ n : Nat, sm (fun _ => c) n = n * c
  | 0 => by simp [sm]
  | n + 1 => by
    have := sm_const c n
    simp only [sm]; rw [this, Int.natCast_add, Int.add_mul]; simp
theorem sm_nn {f : Nat → Int} (n : Nat) (h : ∀ v, v < n → 0 ≤ f v) : 0 ≤ sm f n := by
  have := sm_le (f := fun _ => 0) (g := f) n h
  rw [sm_const] at this; omega
/-- a solution of the kept needs -/
def Sol (lo hi : Nat → Nat) (ST KP : Nat → Int32) (cnt : Nat) (X : Nat → Int) : Prop := X 10 = 0 ∧ (∀ v, v < 11 → 0 ≤ X v) ∧ ∀ i, i < cnt → ¬ KP i = 0 → X (lo i) + (ST i).toInt ≤ X (hi i)
theorem Sol.z {lo hi : Nat → Nat} {ST KP : Nat → Int32} {cnt : Nat} {X : Nat → Int} (h : Sol lo hi ST KP cnt X) : X 10 = 0 := h.1
theorem Sol.p {lo hi : Nat → Nat} {ST KP : Nat → Int32} {cnt : Nat} {X : Nat → Int} (h : Sol lo hi ST KP cnt X) : ∀ v, v < 11 → 0 ≤ X v := h.2.1
theorem Sol.n {lo hi : Nat → Nat} {ST KP : Nat → Int32} {cnt : Nat} {X : Nat → Int} (h : Sol lo hi ST KP cnt X) : ∀ i, i < cnt → ¬ KP i = 0 → X (lo i) + (ST i).toInt ≤ X (hi i) := h.2.2
section SOL
variable {lo hi : Nat → Nat} {ST KP : Nat → Int32} {cnt : Nat}
def Lst (lo hi : Nat → Nat) (ST KP : Nat → Int32) (cnt : Nat) (L : Nat → Int) : Prop := Sol lo hi ST KP cnt L ∧ ∀ X, Sol lo hi ST KP cnt X → (∀ v, v < 11 → X v ≤ L v) → ∀ v, v < 11 → X v = L v
theorem lst_ex : ∀ (N : Nat) (X : Nat → Int), Sol lo hi ST KP cnt X → sm X 11 ≤ N → ∃ L, Lst lo hi ST KP cnt L := by
  intro N
  induction N with
  | zero =>
    intro X hX h
    refine ⟨X, hX, fun Y hY hle v hv => ?_⟩
    rcases i_lg (Y v) (X v) with z | z
    · have := sm_lt 11 hle ⟨v, hv, z⟩
      have := sm_nn (f := Y) 11 hY.p
      omega
    · have := hle v hv; omega
  | succ N ih =>
    intro X hX h
    rcases Classical.em (∃ Y, Sol lo hi ST KP cnt Y ∧ (∀ v, v < 11 → Y v ≤ X v) ∧ ∃ v, v < 11 ∧ Y v < X v) with ⟨Y, hY, hle, hv⟩ | hno
    · have := sm_lt 11 hle hv
      exact ih Y hY (by omega)
    · refine ⟨X, hX, fun Y hY hle v hv => ?_⟩
      rcases i_lg (Y v) (X v) with z | z
      · exact absurd ⟨Y, hY, hle, v, hv, z⟩ hno
      · have := hle v hv; omega
theorem lst_of {X : Nat → Int} (h : Sol lo hi ST KP cnt X) : ∃ L, Lst lo hi ST KP cnt L := lst_ex (sm X 11).toNat X h (by omega)
/-- off a set that no need leaves tightly, a solution can go down by one -/
theorem lst_set {L : Nat → Int} (hL : Lst lo hi ST KP cnt L) (P : Nat → Prop) [DecidablePred P] (h10 : P 10) (hp : ∀ v, v < 11 → ¬ P v → 1 ≤ L v) (hn : ∀ i, i < cnt → ¬ KP i = 0 → P (lo i) → ¬ P (hi i) → L (lo i) + (ST i).toInt + 1 ≤ L (hi i)) : ∀ v, v < 11 → P v := by
  have hs : Sol lo hi ST KP cnt (fun v => if P v then L v else L v - 1) := by
    refine ⟨by simp only [if_pos h10]; exact hL.1.z, fun v hv => ?_, fun i hi0 hk => ?_⟩
    · show 0 ≤ if P v then L v else L v - 1
      split
      · exact hL.1.p v hv
      · next z => have := hp v hv z; omega
    · show (if P (lo i) then L (lo i) else L (lo i) - 1) + (ST i).toInt ≤ if P (hi i) then L (hi i) else L (hi i) - 1
      have a := hL.1.n i hi0 hk
      split
      · next z =>
        split
        · exact a
        · next z2 => have := hn i hi0 hk z z2; omega
      · split <;> omega
  intro v hv
  have e := hL.2 _ hs (fun v _ => by show (if P v then L v else L v - 1) ≤ L v; split <;> omega) v hv
  rcases Classical.em (P v) with z | z
  · exact z
  · simp only [if_neg z] at e; omega
def ind (P : Nat → Prop) [DecidablePred P] (v : Nat) : Int := if P v then 1 else 0
theorem ind_le {P : Nat → Prop} [DecidablePred P] (n : Nat) : sm (ind P) n ≤ n := by
  have := sm_le (f := ind P) (g := fun _ => 1) n (fun v _ => by show (if P v then (1 : Int) else 0) ≤ 1; split <;> omega)
  rw [sm_const] at this; omega
theorem ind_mono {P Q : Nat → Prop} [DecidablePred P] [DecidablePred Q] (n : Nat) (h : ∀ v, v < n → P v → Q v) : (∀ v, v < n → ind P v ≤ ind Q v) := fun v hv => by
  show (if P v then (1 : Int) else 0) ≤ if Q v then 1 else 0
  split
  · next z => rw [if_pos (h v hv z)]; omega
  · split <;> omega
theorem ind_lt {P Q : Nat → Prop} [DecidablePred P] [DecidablePred Q] (n : Nat) (h : ∀ v, v < n → P v → Q v) (h2 : ∃ v, v < n ∧ ¬ P v ∧ Q v) : sm (ind P) n < sm (ind Q) n := by
  obtain ⟨v, hv, a, b⟩ := h2
  exact sm_lt n (ind_mono n h) ⟨v, hv, by show (if P v then (1 : Int) else 0) < if Q v then 1 else 0; rw [if_neg a, if_pos b]; omega⟩
/-- the least solution stays below 200 -/
theorem lst_200 {L : Nat → Int} (hL : Lst lo hi ST KP cnt L) (hhi : ∀ j, j < cnt → hi j < 11) (hst : ∀ j, j < cnt → (ST j).toInt ≤ 20) : ∀ v, v < 11 → L v ≤ 200 := by
  have step : ∀ k : Nat, k ≤ 10 → (∀ v, v < 11 → L v ≤ 20 * k) ∨ ((k : Int) + 1 ≤ sm (ind (fun v => L v ≤ 20 * k)) 11) := by
    intro k
    induction k with
    | zero =>
      intro _
      right
      have := sm_lt (f := fun _ => 0) (g := ind (fun v => L v ≤ 20 * ((0 : Nat) : Int))) 11 (fun v _ => by show (0 : Int) ≤ if L v ≤ 20 * ((0 : Nat) : Int) then 1 else 0; split <;> omega) ⟨10, by decide, by show (0 : Int) < if L 10 ≤ 20 * ((0 : Nat) : Int) then 1 else 0; rw [if_pos (by rw [hL.1.z]; omega)]; omega⟩
      rw [sm_const] at this; omega
    | succ k ih =>
      intro hk
      rcases ih (by omega) with h | h
      · left; intro v hv; have := h v hv; omega
      · rcases Classical.em (∃ v, v < 11 ∧ ¬ L v ≤ 20 * k ∧ L v ≤ 20 * ((k + 1 : Nat) : Int)) with z | z
        · right
          have := ind_lt (P := fun v => L v ≤ 20 * (k : Int)) (Q := fun v => L v ≤ 20 * ((k + 1 : Nat) : Int)) 11 (fun v _ h => by show L v ≤ _; have h : L v ≤ 20 * (k : Int) := h; omega) z
          omega
        · left
          intro v hv
          have := lst_set hL (fun v => L v ≤ 20 * (k : Int)) (by rw [hL.1.z]; omega) (fun v hv h => by omega) (fun i hi0 hk0 h1 h2 => by
            have h1 : L (lo i) ≤ 20 * (k : Int) := h1
            have h2 : ¬ L (hi i) ≤ 20 * (k : Int) := h2
            rcases i_lg (20 * ((k + 1 : Nat) : Int)) (L (hi i)) with y | y
            · have := hst i hi0; omega
            · exact absurd ⟨hi i, hhi i hi0, h2, y⟩ z) v hv
          have this : L v ≤ 20 * (k : Int) := this
          omega
  rcases step 10 (Nat.le_refl _) with h | h
  · exact fun v hv => by have := h v hv; omega
  · intro v hv
    rcases i_lg 200 (L v) with z | z
    · have := ind_lt (P := fun v => L v ≤ 20 * ((10 : Nat) : Int)) (Q := fun _ => True) 11 (fun _ _ _ => trivial) ⟨v, hv, by omega, trivial⟩
      have := ind_le (P := fun _ => True) 11
      omega
    · exact z
end SOL
