/-! A level put in the place of a parameter: one recursion over the table, for both. -/
abbrev Tb : Type := (Nat → Nat × Nat × Nat) × Nat
theorem fi_none {P : Nat → Bool} : ∀ m i, (∀ j, i ≤ j → j < i + m → ¬ P j = true) → fi P i m = i + m
  | 0, i, _ => rfl
  | m + 1, i, h => by
    rw [fi, if_neg (h i (Nat.le_refl _) (by omega)), fi_none m (i + 1) (fun j a b => h j (by omega) (by omega))]; omega
def fdr (t : Tb) (q : Nat × Nat × Nat) : Nat := fi (fun j => decide (t.1 j = q)) 0 t.2
theorem fdr_new {t : Tb} {q : Nat × Nat × Nat} (h : ∀ j, j < t.2 → t.1 j ≠ q) : fdr t q = t.2 := by
  rw [fdr, fi_none _ _ (fun j _ hj => by rw [decide_eq_true_iff]; exact h j (by omega))]; omega
theorem fdr_at {nd : Nat → Nat × Nat × Nat} {n : Nat} (hW : Wn nd n) {q : Nat × Nat × Nat} {j : Nat} (hj : j < n) (e : nd j = q) : fdr (nd, n) q = j := by
  obtain ⟨a, b, c, d⟩ := fi_spec (P := fun j => decide (nd j = q)) n 0 ⟨j, Nat.zero_le _, by omega, by rw [decide_eq_true_iff]; exact e⟩
  rw [decide_eq_true_iff] at a
  exact hW.2.2.2 (fi (fun j => decide (nd j = q)) 0 n) j (by omega) hj (a.trans e.symm)
/-- 'made', as one function: 0 or what it throws, the answer, the table -/
def mk1 (t : Tb) (q : Nat × Nat × Nat) : Nat × Nat × Tb := if fdr t q < t.2 then (0, fdr t q, t) else if q.1 = 2 ∧ 60 ≤ dp t.1 q.2.1 then (2, 0, t) else if t.2 < 120 then (0, t.2, (ext t.1 t.2 q, t.2 + 1)) else (3, 0, t)
section MK
variable {nd : Nat → Nat × Nat × Nat} {n : Nat} {q : Nat × Nat × Nat}
theorem mk1_found (hW : Wn nd n) {j : Nat} (hj : j < n) (e : nd j = q) : mk1 (nd, n) q = (0, j, (nd, n)) := by
  rw [mk1, fdr_at hW hj e, if_pos hj]
theorem mk1_new (h : ∀ j, j < n → nd j ≠ q) (hd : ¬ (q.1 = 2 ∧ 60 ≤ dp nd q.2.1)) (hn : n < 120) : mk1 (nd, n) q = (0, n, (ext nd n q, n + 1)) := by
  rw [mk1, fdr_new (t := (nd, n)) h, if_neg (Nat.lt_irrefl _), if_neg hd, if_pos hn]
theorem mk1_deep (h : ∀ j, j < n → nd j ≠ q) (hd : q.1 = 2 ∧ 60 ≤ dp nd q.2.1) : mk1 (nd, n) q = (2, 0, (nd, n)) := by
  rw [mk1, fdr_new (t := (nd, n)) h, if_neg (Nat.lt_irrefl _), if_pos hd]
theorem mk1_full (h : ∀ j, j < n → nd j ≠ q) (hd : ¬ (q.1 = 2 ∧ 60 ≤ dp nd q.2.1)) (hn : n = 120) : mk1 (nd, n) q = (3, 0, (nd, n)) := by
  rw [mk1, fdr_new (t := (nd, n)) h, if_neg (Nat.lt_irrefl _), if_neg hd, if_neg (by show ¬ n < 120; omega)]
end MK
/-- a table that has grown -/
def Exd (t t' : Tb) : Prop := t.2 ≤ t'.2 ∧ ∀ j, j < t.2 → t'.1 j = t.1 j
theorem Exd.rf (t : Tb) : Exd t t := ⟨Nat.le_refl _, fun _ _ => rfl⟩
theorem Exd.tr {a b c : Tb} (h : Exd a b) (h2 : Exd b c) : Exd a c := ⟨Nat.le_trans h.1 h2.1, fun j hj => by rw [h2.2 j (Nat.lt_of_lt_of_le hj h.1), h.2 j hj]⟩
theorem Exd.ex (nd : Nat → Nat × Nat × Nat) (n : Nat) (q : Nat × Nat × Nat) : Exd (nd, n) (ext nd n q, n + 1) := ⟨Nat.le_succ _, fun j hj => ext_lt hj⟩
theorem mk1_ext (t : Tb) (q : Nat × Nat × Nat) : Exd t (mk1 t q).2.2 ∧ ((mk1 t q).2.2 = t ∨ t.2 < (mk1 t q).2.2.2) := by
  unfold mk1
  split
  · exact ⟨Exd.rf t, Or.inl rfl⟩
  · split
    · exact ⟨Exd.rf t, Or.inl rfl⟩
    · split
      · exact ⟨Exd.ex t.1 t.2 q, Or.inr (Nat.lt_succ_self _)⟩
      · exact ⟨Exd.rf t, Or.inl rfl⟩
theorem mk1_again {t t' : Tb} {q : Nat × Nat × Nat} {r : Nat} (h : mk1 t q = (0, r, t')) (hW : Wn t'.1 t'.2) : mk1 t' q = (0, r, t') ∧ r < t'.2 := by
  unfold mk1 at h
  split at h
  · rename_i h1
    cases h
    exact ⟨by rw [mk1, if_pos h1], h1⟩
  · split at h
    · exact absurd (congrArg Prod.fst h) (by simp)
    · split at h
      · cases h
        exact ⟨mk1_found hW (Nat.lt_succ_self _) ext_n, Nat.lt_succ_self _⟩
      · exact absurd (congrArg Prod.fst h) (by simp)
theorem mk1_up {t t' : Tb} {q : Nat × Nat × Nat} {r : Nat} (h : mk1 t q = (0, r, t)) (hW : Wn t.1 t.2) (hW' : Wn t'.1 t'.2) (hE : Exd t t') : mk1 t' q = (0, r, t') ∧ r < t.2 := by
  unfold mk1 at h
  split at h
  · rename_i h1
    have e : fdr t q = r := congrArg (fun z => z.2.1) h
    obtain ⟨a, b, c, d⟩ := fi_spec (P := fun j => decide (t.1 j = q)) t.2 0 (by
      rcases Classical.em (∃ j, 0 ≤ j ∧ j < 0 + t.2 ∧ decide (t.1 j = q) = true) with z | z
      · exact z
      · rw [fdr_new (fun j hj e => z ⟨j, Nat.zero_le _, by omega, by rw [decide_eq_true_iff]; exact e⟩)] at h1
        exact absurd h1 (Nat.lt_irrefl _))
    rw [decide_eq_true_iff] at a
    have e1 : t.1 r = q := by rw [← e]; exact a
    rw [e] at h1
    exact ⟨mk1_found hW' (Nat.lt_of_lt_of_le h1 hE.1) (by rw [hE.2 r h1]; exact e1), h1⟩
  · split at h
    · exact absurd (congrArg Prod.fst h) (by simp)
    · split at h
      · have := congrArg (fun z => z.2.2.2) h
        simp at this
      · exact absurd (congrArg Prod.fst h) (by simp)
/-- one step of it: g1, g2 do the parts -/
def ptS (k a p y x : Nat) (g1 g2 : Tb → Nat × Nat × Tb) (t : Tb) : Nat × Nat × Tb :=
  if k < 2 then (0, if k = 1 ∧ a = p then y else x, t)
  else if (g1 t).1 = 0 then
    if k = 2 then mk1 (g1 t).2.2 (2, (g1 t).2.1, 0)
    else if (g2 (g1 t).2.2).1 = 0 then mk1 (g2 (g1 t).2.2).2.2 (k, (g1 t).2.1, (g2 (g1 t).2.2).2.1) else g2 (g1 t).2.2
  else g1 t
/-- the level x with y in the place of the parameter p -/
def pt (rows : Nat → Nat × Nat × Nat) (p y : Nat) (x : Nat) (t : Tb) : Nat × Nat × Tb :=
  ptS (rows x).1 (rows x).2.1 p y x (fun t => if (rows x).2.1 < x then pt rows p y (rows x).2.1 t else (0, 0, t)) (fun t => if (rows x).2.2 < x then pt rows p y (rows x).2.2 t else (0, 0, t)) t
termination_by x
section PT
variable {rows : Nat → Nat × Nat × Nat} {p y x : Nat} {t : Tb}
theorem pt_leaf (h : (rows x).1 < 2) : pt rows p y x t = (0, if (rows x).1 = 1 ∧ (rows x).2.1 = p then y else x, t) := by rw [pt, ptS, if_pos h]
theorem pt_e1 (h : 2 ≤ (rows x).1) (h1 : (rows x).2.1 < x) {c : Nat} {t1 : Tb} (hc : c ≠ 0) (o : pt rows p y (rows x).2.1 t = (c, 0, t1)) : pt rows p y x t = (c, 0, t1) := by
  rw [pt, ptS, if_neg (Nat.not_lt.mpr h)]
  simp only [h1, if_true, o, hc, if_false]
theorem pt_2 (h : (rows x).1 = 2) (h1 : (rows x).2.1 < x) {r1 : Nat} {t1 : Tb} (o : pt rows p y (rows x).2.1 t = (0, r1, t1)) : pt rows p y x t = mk1 t1 (2, r1, 0) := by
  rw [pt, ptS, if_neg (by omega)]
  simp only [h1, if_true, o, h]
theorem pt_e2 (h : 3 ≤ (rows x).1) (h1 : (rows x).2.1 < x) (h2 : (rows x).2.2 < x) {c r1 : Nat} {t1 t2 : Tb} (hc : c ≠ 0) (o : pt rows p y (rows x).2.1 t = (0, r1, t1)) (o2 : pt rows p y (rows x).2.2 t1 = (c, 0, t2)) : pt rows p y x t = (c, 0, t2) := by
  rw [pt, ptS, if_neg (by omega)]
  simp only [h1, h2, if_true, o, o2, show ¬ (rows x).1 = 2 by omega, if_false, hc]
theorem pt_3 (h : 3 ≤ (rows x).1) (h1 : (rows x).2.1 < x) (h2 : (rows x).2.2 < x) {r1 r2 : Nat} {t1 t2 : Tb} (o : pt rows p y (rows x).2.1 t = (0, r1, t1)) (o2 : pt rows p y (rows x).2.2 t1 = (0, r2, t2)) : pt rows p y x t = mk1 t2 ((rows x).1, r1, r2) := by
  rw [pt, ptS, if_neg (by omega)]
  simp only [h1, h2, if_true, o, o2, show ¬ (rows x).1 = 2 by omega, if_false]
theorem mk1_z (t : Tb) (q : Nat × Nat × Nat) : (mk1 t q).1 ≠ 0 → (mk1 t q).2.1 = 0 := by
  unfold mk1
  split
  · intro h; exact absurd rfl h
  · split
    · intro _; rfl
    · split
      · intro h; exact absurd rfl h
      · intro _; rfl
def gdo (g : Tb → Nat × Nat × Tb) : Prop := ∀ t, ((g t).1 ≠ 0 → (g t).2.1 = 0) ∧ Exd t (g t).2.2 ∧ ((g t).2.2 = t ∨ t.2 < (g t).2.2.2)
theorem mk1_gdo (q : Nat × Nat × Nat) : gdo (fun t => mk1 t q) := fun t => ⟨mk1_z t q, mk1_ext t q⟩
theorem two_ext {a b c : Tb} (h1 : Exd a b ∧ (b = a ∨ a.2 < b.2)) (h2 : Exd b c ∧ (c = b ∨ b.2 < c.2)) : Exd a c ∧ (c = a ∨ a.2 < c.2) := by
  refine ⟨h1.1.tr h2.1, ?_⟩
  have := h1.1.1
  have := h2.1.1
  rcases h1.2 with z | z <;> rcases h2.2 with w | w
  · exact Or.inl (w.trans z)
  · exact Or.inr (by omega)
  · exact Or.inr (by omega)
  · exact Or.inr (by omega)
theorem ptS_gdo {k a p y x : Nat} {g1 g2 : Tb → Nat × Nat × Tb} (h1 : gdo g1) (h2 : gdo g2) : gdo (ptS k a p y x g1 g2) := by
  intro t
  unfold ptS
  split
  · exact ⟨fun h => absurd rfl h, Exd.rf t, Or.inl rfl⟩
  · split
    · split
      · exact ⟨mk1_z _ _, two_ext (h1 t).2 (mk1_ext _ _)⟩
      · split
        · exact ⟨mk1_z _ _, two_ext (two_ext (h1 t).2 (h2 _).2) (mk1_ext _ _)⟩
        · exact ⟨(h2 _).1, two_ext (h1 t).2 (h2 _).2⟩
    · exact h1 t
theorem pt_gdo : ∀ (m x : Nat), x < m → gdo (pt rows p y x) := by
  intro m
  induction m with
  | zero => intro x h; omega
  | succ m ih =>
    intro x hx t
    rw [pt]
    refine ptS_gdo (fun t => ?_) (fun t => ?_) t
    · by_cases h : (rows x).2.1 < x
      · rw [if_pos h]; exact ih _ (by omega) t
      · rw [if_neg h]; exact ⟨fun h => absurd rfl h, Exd.rf t, Or.inl rfl⟩
    · by_cases h : (rows x).2.2 < x
      · rw [if_pos h]; exact ih _ (by omega) t
      · rw [if_neg h]; exact ⟨fun h => absurd rfl h, Exd.rf t, Or.inl rfl⟩
end PT
