theorem rowk {k a b n : Nat} (h3 : 3 ≤ k) (h4 : k ≤ 4) (ha : a < n) (hb : b < n) : rowOk (k, a, b) n := by
  rcases (show k = 3 ∨ k = 4 by omega) with rfl | rfl
  · exact row3 n ha hb
  · exact row4 n ha hb
/-- what came of 'made', in the reference -/
def chg (o : Nat × Nat × Tb) (r : Int32) (u : MoS × Int32) : Prop := r = nI o.2.1 ∧ u.2 = nI o.1 ∧ u.1.2.2.2.2 = o.2.2.2 ∧ MoU o.2.2.1 u.1
theorem mdp_mk1 {nd : Nat → Nat × Nat × Nat} {n : Nat} {q : Nat × Nat × Nat} {r : Int32} {u : MoS × Int32} (hW : Wn nd n) (hd : ¬ (q.1 = 2 ∧ 60 ≤ dp nd q.2.1)) (h : ∃ nd', mdp nd n q 3 r u.2 nd' u.1.2.2.2.2 ∧ MoU nd' u.1) : chg (mk1 (nd, n) q) r u := by
  obtain ⟨nd', h, hu⟩ := h
  rcases h with ⟨⟨j, h1, h2, h3, h4, h5⟩ | ⟨h1, h2, h3, h4, h5, h6⟩, h7⟩ | ⟨h1, h2, h3, h4, h5, h6⟩
  · rw [mk1_found hW h1 h2]; subst h4; exact ⟨h3, h7, h5, hu⟩
  · rw [mk1_new h1 hd h2]; subst h5; exact ⟨h4, h7, h6, hu⟩
  · rw [mk1_full h1 hd h2]; subst h5; exact ⟨h3, h4, h6, hu⟩
theorem deep_new {nd : Nat → Nat × Nat × Nat} {n : Nat} (hW : Wn nd n) {q : Nat × Nat × Nat} (k : q.1 = 2) (h : 60 ≤ dp nd q.2.1) : ∀ j, j < n → nd j ≠ q := fun j hj e => by
  have h1 := dp_eq (hW.2.1 j hj)
  have h2 := hW.2.2.1 j hj
  rw [e] at h1
  unfold dA at h1
  rw [if_neg (by omega), if_pos k, if_pos (by omega)] at h1
  omega
theorem q3 {q : Nat × Nat × Nat} {k a b : Nat} (h1 : q.1 = k) (h2 : q.2.1 = a) (h3 : q.2.2 = b) : q = (k, a, b) := by subst h1; subst h2; subst h3; rfl
theorem chg_x {nd : Nat → Nat × Nat × Nat} {n : Nat} {K F S DD : Nat → Int32} {th : Int32} (hth : th = 0) (hok : MoOk nd n K F S DD) {x : Nat} (hx : x < n) {q : Nat × Nat × Nat} (e : nd x = q) : chg (mk1 (nd, n) q) (nI x) ((K, F, S, DD, n), th) := by
  rw [mk1_found hok.1 hx e]; exact ⟨rfl, hth, rfl, hok⟩
theorem chg_2 {nd : Nat → Nat × Nat × Nat} {n : Nat} {K F S DD : Nat → Int32} (hok : MoOk nd n K F S DD) {x r1 : Nat} (_ : (nd x).1 = 2) (h : dp nd r1 = 60) : chg (mk1 (nd, n) (2, r1, 0)) 0 ((K, F, S, DD, n), 2) := by
  rw [mk1_deep (deep_new hok.1 rfl (by show 60 ≤ dp nd r1; omega)) ⟨rfl, by show 60 ≤ dp nd r1; omega⟩]; exact ⟨rfl, rfl, rfl, hok⟩
