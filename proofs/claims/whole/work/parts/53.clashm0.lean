theorem kcm_b {lo hi : Nat → Nat} {AA : Nat → Int32} {cnt N : Nat} : ∀ (i : Nat) (CO UN : Nat → Int32), (∀ j, j < N → CO j = 0 ∨ CO j = 1) → ∀ j, j < N → (kcm lo hi AA cnt i CO UN).1 j = 0 ∨ (kcm lo hi AA cnt i CO UN).1 j = 1
  | 0, CO, UN, h => h
  | i + 1, CO, UN, h => by
    rw [kcm]
    refine kcm_b i _ _ (fun j hj => ?_)
    rcases Nat.decEq j i with z | z
    · rw [pk_un z, pk_un z]; exact h j hj
    · rw [z, pk_us]; exact slv_b
theorem kco_b {lo hi : Nat → Nat} {ST : Nat → Int32} {cnt N : Nat} : ∀ (i : Nat) (KP NB : Nat → Int32), (∀ j, j < N → KP j = 0 ∨ KP j = 1) → ∀ j, j < N → (kco lo hi ST cnt i KP NB).1 j = 0 ∨ (kco lo hi ST cnt i KP NB).1 j = 1
  | 0, KP, NB, h => h
  | i + 1, KP, NB, h => by
    rw [kco]
    refine kco_b i _ _ (fun j hj => ?_)
    rcases Nat.decEq j i with z | z
    · rw [pk_un z, pk_un z]; exact h j hj
    · rw [z, pk_us]; exact cks_b
theorem fl_1 (N : Nat) (f : Nat → Int32) : ∀ j, j < N → fl N 1 f j = 0 ∨ fl N 1 f j = 1 := fun j hj => Or.inr (by rw [fl, if_pos hj])
