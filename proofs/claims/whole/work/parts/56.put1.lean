section PU
variable {rows : Nat → Nat × Nat × Nat} {p y n0 : Nat}
theorem ptu {t t' : Tb} (hR : ∀ j, j < n0 → rowOk (rows j) j) (hW : Wn t.1 t.2) (hW' : Wn t'.1 t'.2) (hE : Exd t t') : ∀ (m x : Nat), x < m → x < n0 → ∀ r, pt rows p y x t = (0, r, t) → pt rows p y x t' = (0, r, t') := by
  intro m
  induction m with
  | zero => intro x h; omega
  | succ m ih =>
    intro x hx hn r h
    obtain ⟨h1, h2, h3, h4, h5, h6⟩ := hR x hn
    rcases Nat.lt_or_ge (rows x).1 2 with k | k
    · rw [pt_leaf k] at h ⊢
      have e := congrArg (fun z => z.2.1) h
      simp only at e
      rw [e]
    · have a1 := h3 k
      rcases e1 : pt rows p y (rows x).2.1 t with ⟨c, r1, t1⟩
      have g1 := pt_gdo (rows := rows) (p := p) (y := y) (x + 1) (rows x).2.1 (by omega) t
      rw [e1] at g1
      by_cases hc : c = 0
      · subst hc
        rcases Nat.lt_or_ge (rows x).1 3 with k' | k'
        · rw [pt_2 (by omega) a1 e1] at h
          have g2 := mk1_ext t1 (2, r1, 0)
          rw [h] at g2
          have et : t1 = t := by
            rcases g1.2.2 with z | z
            · exact z
            · have b9 := g2.1.1; simp only at z b9; omega
          subst et
          rw [pt_2 (by omega) a1 (ih _ (by omega) (by omega) _ e1)]
          exact (mk1_up h hW hW' hE).1
        · have a2 := h4 k'
          rcases e2 : pt rows p y (rows x).2.2 t1 with ⟨c2, r2, t2⟩
          have g2 := pt_gdo (rows := rows) (p := p) (y := y) (x + 1) (rows x).2.2 (by omega) t1
          rw [e2] at g2
          by_cases hc2 : c2 = 0
          · subst hc2
            rw [pt_3 k' a1 a2 e1 e2] at h
            have g3 := mk1_ext t2 ((rows x).1, r1, r2)
            rw [h] at g3
            have b1 := g1.2.1.1
            have b2 := g2.2.1.1
            have b3 := g3.1.1
            simp only at b1 b2 b3
            have et : t1 = t := by
              rcases g1.2.2 with z | z
              · exact z
              · simp only at z; omega
            subst et
            have et : t2 = t1 := by
              rcases g2.2.2 with z | z
              · exact z
              · simp only at z; omega
            subst et
            rw [pt_3 k' a1 a2 (ih _ (by omega) (by omega) _ e1) (ih _ (by omega) (by omega) _ e2)]
            exact (mk1_up h hW hW' hE).1
          · have ez : r2 = 0 := g2.1 hc2
            subst ez
            rw [pt_e2 k' a1 a2 hc2 e1 e2] at h
            exact absurd (congrArg Prod.fst h) hc2
      · have ez : r1 = 0 := g1.1 hc
        subst ez
        rw [pt_e1 k a1 hc e1] at h
        exact absurd (congrArg Prod.fst h) hc
theorem pt_s1 {x : Nat} {t t1 : Tb} (k : 2 ≤ (rows x).1) (a1 : (rows x).2.1 < x) {r1 : Nat} (e : pt rows p y (rows x).2.1 t = (0, r1, t1)) (e' : pt rows p y (rows x).2.1 t1 = (0, r1, t1)) : pt rows p y x t = pt rows p y x t1 := by
  rw [pt, pt, ptS, ptS, if_neg (Nat.not_lt.mpr k), if_neg (Nat.not_lt.mpr k)]
  simp only [a1, if_true, e, e']
theorem pt_s2 {x : Nat} {t t2 : Tb} (k : 3 ≤ (rows x).1) (a1 : (rows x).2.1 < x) (a2 : (rows x).2.2 < x) {r1 r2 : Nat} (e : pt rows p y (rows x).2.1 t = (0, r1, t)) (e' : pt rows p y (rows x).2.1 t2 = (0, r1, t2)) (e2 : pt rows p y (rows x).2.2 t = (0, r2, t2)) (e2' : pt rows p y (rows x).2.2 t2 = (0, r2, t2)) : pt rows p y x t = pt rows p y x t2 := by
  rw [pt_3 k a1 a2 e e2, pt_3 k a1 a2 e' e2']
/-- what is kept of results holds in the table -/
def BeOk (rows : Nat → Nat × Nat × Nat) (n0 p y : Nat) (t : Tb) (BE : Nat → Int32) : Prop := ∀ z, z < n0 → BE z = -1 ∨ ∃ r, r < t.2 ∧ BE z = nI r ∧ pt rows p y z t = (0, r, t)
theorem BeOk.up {t t' : Tb} {BE : Nat → Int32} (h : BeOk rows n0 p y t BE) (hR : ∀ j, j < n0 → rowOk (rows j) j) (hW : Wn t.1 t.2) (hW' : Wn t'.1 t'.2) (hE : Exd t t') : BeOk rows n0 p y t' BE := fun z hz => by
  rcases h z hz with w | ⟨r, h1, h2, h3⟩
  · exact Or.inl w
  · exact Or.inr ⟨r, Nat.lt_of_lt_of_le h1 hE.1, h2, ptu hR hW hW' hE (z + 1) z (by omega) hz r h3⟩
theorem BeOk.fill {t : Tb} {BE : Nat → Int32} (h : BeOk rows n0 p y t BE) {x r : Nat} (hr : r < t.2) (e : pt rows p y x t = (0, r, t)) : BeOk rows n0 p y t (upd BE x (nI r)) := fun z hz => by
  rcases Nat.decEq z x with w | w
  · rw [pk_un w]; exact h z hz
  · subst w; exact Or.inr ⟨r, hr, pk_us .., e⟩
theorem BeOk.get {t : Tb} {BE : Nat → Int32} (h : BeOk rows n0 p y t BE) {z : Nat} (hz : z < n0) (hn : ¬ BE z = -1) : ∃ r, r < t.2 ∧ BE z = nI r ∧ pt rows p y z t = (0, r, t) := (h z hz).resolve_left hn
/-- a level that does not use p stays what it is -/
theorem pt_no {t : Tb} (hR : ∀ j, j < n0 → rowOk (rows j) j) (hW : Wn t.1 t.2) (h0 : n0 ≤ t.2) (hr : ∀ j, j < n0 → t.1 j = rows j) (hp : p < 5) : ∀ (m x : Nat), x < m → x < n0 → ¬ us rows x / 2 ^ p % 2 = 1 → pt rows p y x t = (0, x, t) := by
  intro m
  induction m with
  | zero => intro x h; omega
  | succ m ih =>
    intro x hx hn h
    have hrx := hR x hn
    rw [us_eq hrx] at h
    obtain ⟨h1, h2, h3, h4, h5, h6⟩ := hrx
    have b1 : ∀ a, a < 5 → ∀ q, q < 5 → ¬ 2 ^ a / 2 ^ q % 2 = 1 → a ≠ q := by decide
    have b2 : ∀ a, a < 32 → ∀ c, c < 32 → ∀ q, q < 5 → ((a ||| c) / 2 ^ q % 2 = 1 ∨ (¬ a / 2 ^ q % 2 = 1 ∧ ¬ c / 2 ^ q % 2 = 1)) := by decide +kernel
    have found : mk1 t (rows x) = (0, x, t) := mk1_found (nd := t.1) (n := t.2) hW (by omega) (hr x hn)
    rcases (show (rows x).1 = 0 ∨ (rows x).1 = 1 ∨ (rows x).1 = 2 ∨ 3 ≤ (rows x).1 by omega) with k | k | k | k
    · rw [pt_leaf (by omega), if_neg (by omega)]
    · unfold uA at h
      rw [if_pos k] at h
      rw [pt_leaf (by omega), if_neg (fun z => b1 _ (h2 k) p hp h z.2)]
    · unfold uA at h
      rw [if_neg (by omega), if_pos k, if_pos (by omega)] at h
      have a1 := h3 (by omega)
      rw [pt_2 k a1 (ih _ (by omega) (by omega) h), show (2, (rows x).2.1, 0) = rows x from by rw [← k, ← h6 (by omega)]]
      exact found
    · unfold uA at h
      rw [if_neg (by omega), if_neg (by omega), if_pos k, if_pos (by omega), if_pos k] at h
      have a1 := h3 (by omega)
      have a2 := h4 k
      obtain ⟨c1, c2⟩ := (b2 _ (us_lt hR (x + 1) (rows x).2.1 (by omega) (by omega)) _ (us_lt hR (x + 1) (rows x).2.2 (by omega) (by omega)) p hp).resolve_left h
      rw [pt_3 k a1 a2 (ih _ (by omega) (by omega) c1) (ih _ (by omega) (by omega) c2)]
      exact found
theorem pt_cases (x : Nat) (t : Tb) : (∃ r t', pt rows p y x t = (0, r, t')) ∨ ∃ c t', c ≠ 0 ∧ pt rows p y x t = (c, 0, t') := by
  have g := pt_gdo (rows := rows) (p := p) (y := y) (x + 1) x (by omega) t
  rcases e : pt rows p y x t with ⟨c, r, t'⟩
  rw [e] at g
  by_cases hc : c = 0
  · subst hc; exact Or.inl ⟨r, t', rfl⟩
  · have ez : r = 0 := g.1 hc
    subst ez
    exact Or.inr ⟨c, t', hc, rfl⟩
end PU
