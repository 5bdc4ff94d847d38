/-! The law's helpers: their worlds (the answer's cell ahead of the class's), what they leave. -/
abbrev wHL (cI cL : ClassId) (ad : Nat → Nat) (J : Nat → Int64) (K F S D U V : Nat → Int32) (PT : Nat → Int64) (n : Nat) : va_W := (ad 18, .inl (cL, 1, .inr (.inl J))) :: wLL cI cL ad K F S D U V PT n
abbrev wHP (cI cL : ClassId) (ad : Nat → Nat) (J : Nat → Int64) (RS OP K F S D U V : Nat → Int32) (PT : Nat → Int64) (n : Nat) : va_W := (ad 18, .inl (cL, 1, .inr (.inl J))) :: wLP cI cL ad RS OP K F S D U V PT n
abbrev wHN (cI cL cZ : ClassId) (ad : Nat → Nat) (J : Nat → Int64) (LO ST HI KP NB : Nat → Int32) (unk cnt : Nat) (sv sk ck : Int32) : va_W := (ad 18, .inl (cL, 1, .inr (.inl J))) :: wLN cI cZ ad LO ST HI KP NB unk cnt sv sk ck
theorem updL_0 (J : Nat → Int64) (v : Int64) : vp_updL J 0 v 0 = v := by unfold vp_updL; rw [if_pos rfl]
/-- what a helper that makes a level leaves -/
def hlP (o : Nat × Nat × Tb) (f r : Int32) (u : LvS × (Nat → Int64)) : Prop := u.1.2.2.2.2.2.2 = o.2.2.2 ∧ LvU o.2.2.1 u.1 ∧ ((o.1 = 0 ∧ r = 0 ∧ u.2 0 = (nI o.2.1).toInt64) ∨ (o.1 = 2 ∧ r = 2) ∨ (o.1 = 3 ∧ r = f))
section HL
variable {nd : Nat → Nat × Nat × Nat} {n : Nat} {q : Nat × Nat × Nat} {u : LvS}
theorem hl_ok (hW : Wn nd n) {r : Int32} (f : Int32) (J : Nat → Int64) (h : ∃ nd', mkd nd n q r nd' u.2.2.2.2.2.2 ∧ LvU nd' u) : hlP (mk1 (nd, n) q) f 0 (u, vp_updL J 0 r.toInt64) := by
  obtain ⟨nd', h1, h2⟩ := h
  obtain ⟨v, e1, e2⟩ := mkd_mk1 hW h1
  rw [e1]
  exact ⟨rfl, h2, Or.inl ⟨rfl, rfl, by rw [e2]; exact updL_0 J _⟩⟩
theorem hl_x {X : String} (h : LvU nd u ∧ u.2.2.2.2.2.2 = n ∧ mkx nd n q X) : (X = "java/lang/IllegalArgumentException" ∧ ∀ f J, hlP (mk1 (nd, n) q) f 2 (u, J)) ∨ (X = "java/lang/IllegalStateException" ∧ ∀ f J, hlP (mk1 (nd, n) q) f f (u, J)) := by
  obtain ⟨h1, h2, h3⟩ := h
  obtain ⟨c, -, hc, e⟩ := mkx_mk1 h3
  rw [e]
  rcases hc with ⟨hX, rfl⟩ | ⟨hX, rfl⟩
  · exact Or.inl ⟨hX, fun f J => ⟨h2, h1, Or.inr (Or.inl ⟨rfl, rfl⟩)⟩⟩
  · exact Or.inr ⟨hX, fun f J => ⟨h2, h1, Or.inr (Or.inr ⟨rfl, rfl⟩)⟩⟩
theorem hl_x2 {X : String} (hq : ¬ q.1 = 2) (h : LvU nd u ∧ u.2.2.2.2.2.2 = n ∧ mkx nd n q X) : X = "java/lang/IllegalStateException" ∧ ∀ f J, hlP (mk1 (nd, n) q) f f (u, J) := by
  rcases hl_x h with z | z
  · rcases h.2.2.2 with y | y
    · exact absurd y.2.1 hq
    · exact absurd (z.1.symm.trans y.1) (by decide)
  · exact z
theorem hl_c {o : Nat × Nat × Tb} {r : Int32} (f : Int32) (J : Nat → Int64) (h : chc o r u) : hlP o f 0 (u, vp_updL J 0 r.toInt64) := ⟨h.2.2.1, h.2.2.2, Or.inl ⟨h.1, rfl, by rw [h.2.1]; exact updL_0 J _⟩⟩
theorem hl_cx {o : Nat × Nat × Tb} {X : String} (h : chx o X u) : (X = "java/lang/IllegalArgumentException" ∧ ∀ f J, hlP o f 2 (u, J)) ∨ (X = "java/lang/IllegalStateException" ∧ ∀ f J, hlP o f f (u, J)) := by
  rcases h.2.1 with ⟨hX, hc⟩ | ⟨hX, hc⟩
  · exact Or.inl ⟨hX, fun f J => ⟨h.2.2.1, h.2.2.2, Or.inr (Or.inl ⟨hc, rfl⟩)⟩⟩
  · exact Or.inr ⟨hX, fun f J => ⟨h.2.2.1, h.2.2.2, Or.inr (Or.inr ⟨hc, rfl⟩)⟩⟩
end HL
/-- what must be wrong with a call of 'part' -/
theorem badp_c {n : Nat} {x g p : Int32} (hn : n < 2 ^ 31) (h : badp n x g p) : hs x n = 0 ∨ (hs x n = 1 ∧ (g < 0 ∨ 31 < g)) ∨ (hs x n = 1 ∧ ∃ g', g' < 32 ∧ g = nI g' ∧ ¬ p = -1 ∧ (p < 0 ∨ 5 ≤ p)) := by
  rcases hs_b x n with h0 | h1
  · exact Or.inl h0
  · right
    by_cases hg : g < 0 ∨ 31 < g
    · exact Or.inl ⟨h1, hg⟩
    · right
      refine ⟨h1, ?_⟩
      rcases pk_ix g (n := 32) (by decide) with z | z | ⟨j, hj, e⟩
      · exact absurd (Or.inl z) hg
      · exfalso
        apply hg; right
        rw [Int32.le_iff_toInt_le, nI_toInt (by decide)] at z
        rw [Int32.lt_iff_toInt_lt, show ((31 : Int32)).toInt = 31 from by decide]; omega
      · refine ⟨j, hj, e, ?_⟩
        have hp : p < -1 ∨ 5 ≤ p := by
          rcases h with z | z | z | z | z
          · rw [h1] at z; exact absurd z (by decide)
          · exact absurd (Or.inl z) hg
          · exact absurd (Or.inr z) hg
          · exact Or.inl z
          · exact Or.inr z
        rcases hp with z | z
        · rw [Int32.lt_iff_toInt_lt, show ((-1 : Int32)).toInt = -1 from by decide] at z
          refine ⟨fun y => ?_, Or.inl ?_⟩
          · rw [y, show ((-1 : Int32)).toInt = -1 from by decide] at z; omega
          · rw [Int32.lt_iff_toInt_lt, show ((0 : Int32)).toInt = 0 from by decide]; omega
        · exact ⟨fun y => by rw [y] at z; exact absurd z (by decide), Or.inr z⟩
theorem if_f {c : Prop} [Decidable c] (h : (if c then (1 : Int32) else 0) = 0) : ¬ c := by
  split at h
  · exact absurd h (by decide)
  · assumption
