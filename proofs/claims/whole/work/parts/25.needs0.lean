/-! Needs: its cells; what its methods do, as functions of them. -/
abbrev wNd (cI cZ : ClassId) (ad : Nat → Nat) (LO ST HI KP NB : Nat → Int32) (unk cnt : Nat) (sv sk ck : Int32) : va_W := [(ad 12, .inr (3, [.ref (ad 13), .ref (ad 14), .ref (ad 15), .ref (ad 16), .ref (ad 17), .int (nI unk), .int (nI cnt), .int sv, .int sk, .int ck])), (ad 13, .inl (cI, 30, .inl LO)), (ad 14, .inl (cI, 30, .inl ST)), (ad 15, .inl (cI, 30, .inl HI)), (ad 16, .inl (cZ, 30, .inl KP)), (ad 17, .inl (cI, 11, .inl NB))]
/-- the first N places get x -/
def fl (N : Nat) (x : Int32) (f : Nat → Int32) : Nat → Int32 := fun j => if j < N then x else f j
theorem fl_0 (x : Int32) (f : Nat → Int32) : fl 0 x f = f := by funext j; rw [fl, if_neg (by omega)]
theorem fl_s (i : Nat) (x : Int32) (f : Nat → Int32) : upd (fl i x f) i x = fl (i + 1) x f := by
  funext j
  rcases Nat.lt_trichotomy j i with h | h | h
  · rw [pk_un (by omega), fl, fl, if_pos h, if_pos (by omega)]
  · subst h; rw [pk_us, fl, if_pos (by omega)]
  · rw [pk_un (by omega), fl, fl, if_neg (by omega), if_neg (by omega)]
/-- one round over the needs from i on, m of them -/
def ps (lo hi : Nat → Nat) (ST KP : Nat → Int32) : Nat → Nat → (Nat → Int32) → Int32 → (Nat → Int32) × Int32
  | _, 0, NB, b => (NB, b)
  | i, m + 1, NB, b => if KP i = 0 then ps lo hi ST KP (i + 1) m NB b else if NB (lo i) + ST i ≤ NB (hi i) then ps lo hi ST KP (i + 1) m NB b else ps lo hi ST KP (i + 1) m (upd NB (hi i) (NB (lo i) + ST i)) 1
theorem ps_0 {lo hi : Nat → Nat} {ST KP : Nat → Int32} {i m : Nat} {NB : Nat → Int32} {b : Int32} (h : KP i = 0) : ps lo hi ST KP i (m + 1) NB b = ps lo hi ST KP (i + 1) m NB b := by rw [ps, if_pos h]
theorem ps_1 {lo hi : Nat → Nat} {ST KP : Nat → Int32} {i m : Nat} {NB : Nat → Int32} {b : Int32} (h : ¬ KP i = 0) (h2 : NB (lo i) + ST i ≤ NB (hi i)) : ps lo hi ST KP i (m + 1) NB b = ps lo hi ST KP (i + 1) m NB b := by rw [ps, if_neg h, if_pos h2]
theorem ps_2 {lo hi : Nat → Nat} {ST KP : Nat → Int32} {i m : Nat} {NB : Nat → Int32} {b : Int32} (h : ¬ KP i = 0) (h2 : ¬ NB (lo i) + ST i ≤ NB (hi i)) : ps lo hi ST KP i (m + 1) NB b = ps lo hi ST KP (i + 1) m (upd NB (hi i) (NB (lo i) + ST i)) 1 := by rw [ps, if_neg h, if_neg h2]
theorem ps_b {lo hi : Nat → Nat} {ST KP : Nat → Int32} : ∀ (m i : Nat) (NB : Nat → Int32) (b : Int32), (b = 0 ∨ b = 1) → (ps lo hi ST KP i m NB b).2 = 0 ∨ (ps lo hi ST KP i m NB b).2 = 1
  | 0, _, _, _, h => h
  | m + 1, i, NB, b, h => by
    rw [ps]
    split
    · exact ps_b m _ _ _ h
    · split
      · exact ps_b m _ _ _ h
      · exact ps_b m _ _ _ (Or.inr rfl)
/-- rounds, m at most -/
def rds (lo hi : Nat → Nat) (ST KP : Nat → Int32) (cnt : Nat) : Nat → (Nat → Int32) → Int32 × (Nat → Int32)
  | 0, NB => (0, NB)
  | m + 1, NB => if (ps lo hi ST KP 0 cnt NB 0).2 = 0 then (1, (ps lo hi ST KP 0 cnt NB 0).1) else if (ps lo hi ST KP 0 cnt NB 0).1 10 ≤ 0 then rds lo hi ST KP cnt m (ps lo hi ST KP 0 cnt NB 0).1 else (0, (ps lo hi ST KP 0 cnt NB 0).1)
theorem rds_b {lo hi : Nat → Nat} {ST KP : Nat → Int32} {cnt : Nat} : ∀ (m : Nat) (NB : Nat → Int32), (rds lo hi ST KP cnt m NB).1 = 0 ∨ (rds lo hi ST KP cnt m NB).1 = 1
  | 0, _ => Or.inl rfl
  | m + 1, NB => by
    rw [rds]
    split
    · exact Or.inr rfl
    · split
      · exact rds_b m _
      · exact Or.inl rfl
/-- whether the kept needs can be solved, and the numbers behind it -/
def cks (lo hi : Nat → Nat) (ST KP : Nat → Int32) (cnt : Nat) (NB : Nat → Int32) : Int32 × (Nat → Int32) := rds lo hi ST KP cnt 12 (fl 11 0 NB)
theorem cks_b {lo hi : Nat → Nat} {ST KP : Nat → Int32} {cnt : Nat} {NB : Nat → Int32} : (cks lo hi ST KP cnt NB).1 = 0 ∨ (cks lo hi ST KP cnt NB).1 = 1 := rds_b _ _
/-- the clash, from need i - 1 down -/
def kco (lo hi : Nat → Nat) (ST : Nat → Int32) (cnt : Nat) : Nat → (Nat → Int32) → (Nat → Int32) → (Nat → Int32) × (Nat → Int32)
  | 0, KP, NB => (KP, NB)
  | i + 1, KP, NB => kco lo hi ST cnt i (upd (upd KP i 0) i (cks lo hi ST (upd KP i 0) cnt NB).1) (cks lo hi ST (upd KP i 0) cnt NB).2
theorem bz {x : Int32} (h : x = 0 ∨ x = 1) : vp_nar .boolean x = x := by rcases h with rfl | rfl <;> rfl
theorem bn {x : Int32} (h : x = 0 ∨ x = 1) : narrow .boolean (.int x) = .int x := by rcases h with rfl | rfl <;> rfl
theorem bf {x : Int32} (h : x = 0 ∨ x = 1) : fits .boolean (.int x) = true := by rcases h with rfl | rfl <;> rfl
theorem hs_b (x : Int32) (n : Nat) : hs x n = 0 ∨ hs x n = 1 := by
  unfold hs
  split
  · exact Or.inl rfl
  · split
    · exact Or.inl rfl
    · exact Or.inr rfl
