/-! The reference: its cells. -/
abbrev wMo (cI cZ : ClassId) (bd : Nat → Nat) (th : Int32) (K F S DD : Nat → Int32) (n : Nat) (NU VA BE WA LE AA RI UN CO : Nat → Int32) (unk cnt : Nat) : va_W := [(bd 0, .inr (4, [.int th, .ref (bd 1), .ref (bd 2), .ref (bd 3), .ref (bd 4), .int (nI n), .ref (bd 5), .ref (bd 6), .ref (bd 7), .ref (bd 8), .ref (bd 9), .ref (bd 10), .ref (bd 11), .ref (bd 12), .ref (bd 13), .int (nI unk), .int (nI cnt)])), (bd 1, .inl (cI, 120, .inl K)), (bd 2, .inl (cI, 120, .inl F)), (bd 3, .inl (cI, 120, .inl S)), (bd 4, .inl (cI, 120, .inl DD)), (bd 5, .inl (cI, 5, .inl NU)), (bd 6, .inl (cI, 120, .inl VA)), (bd 7, .inl (cI, 120, .inl BE)), (bd 8, .inl (cI, 128, .inl WA)), (bd 9, .inl (cI, 30, .inl LE)), (bd 10, .inl (cI, 30, .inl AA)), (bd 11, .inl (cI, 30, .inl RI)), (bd 12, .inl (cI, 10, .inl UN)), (bd 13, .inl (cZ, 30, .inl CO))]
def sdm (x : Int32) (unk : Nat) : Int32 := if x < -1 then 0 else if nI unk ≤ x then 0 else 1
abbrev MoS : Type := (Nat → Int32) × (Nat → Int32) × (Nat → Int32) × (Nat → Int32) × Nat
def MoOk (nd : Nat → Nat × Nat × Nat) (n : Nat) (K F S DD : Nat → Int32) : Prop := Wn nd n ∧ Rw nd n K F S ∧ ∀ j, j < n → DD j = nI (dp nd j)
def MoU (nd : Nat → Nat × Nat × Nat) (u : MoS) : Prop := MoOk nd u.2.2.2.2 u.1 u.2.1 u.2.2.1 u.2.2.2.1
theorem ext_mo {nd : Nat → Nat × Nat × Nat} {n : Nat} {K F S DD : Nat → Int32} {q : Nat × Nat × Nat} (h : MoOk nd n K F S DD) (hq : rowOk q n) (hn : n < 120) (hnew : ∀ j, j < n → nd j ≠ q) (hd : ¬ (q.1 = 2 ∧ 60 ≤ dp nd q.2.1)) : MoOk (ext nd n q) (n + 1) (upd K n (nI q.1)) (upd F n (fF q)) (upd S n (fS q)) (upd DD n (nI (dp (ext nd n q) n))) := by
  obtain ⟨hW, hR, hD⟩ := h
  refine ⟨ext_Wn hW hq hn hnew hd, fun j hj => ?_, fun j hj => ?_⟩
  · rcases Nat.lt_or_ge j n with a | a
    · rw [pk_un (by omega), pk_un (by omega), pk_un (by omega), ext_lt a]; exact hR j a
    · rw [show j = n by omega, pk_us, pk_us, pk_us, ext_n]; exact ⟨rfl, rfl, rfl⟩
  · rcases Nat.lt_or_ge j n with a | a
    · rw [pk_un (by omega), hD j a]; unfold dp; rw [ext_fo a]
    · rw [show j = n by omega, pk_us]
/-- what came of 'make': a row, or -1 where the table is full -/
def mkm (nd : Nat → Nat × Nat × Nat) (n : Nat) (q : Nat × Nat × Nat) (r : Int32) (nd' : Nat → Nat × Nat × Nat) (n' : Nat) : Prop := mkd nd n q r nd' n' ∨ ((∀ j, j < n → nd j ≠ q) ∧ n = 120 ∧ r = -1 ∧ nd' = nd ∧ n' = n)
