/-! The reference's 'put': what holds at the head of its loop, with x on top of the open levels. -/
def PI (nd0 : Nat → Nat × Nat × Nat) (n0 a p y : Nat) (nd : Nat → Nat × Nat × Nat) (n : Nat) (K F S DD BE WA : Nat → Int32) (d x : Nat) : Prop := MoOk nd n K F S DD ∧ Exd (nd0, n0) (nd, n) ∧ BeOk nd0 n0 p y (nd, n) BE ∧ BE x = -1 ∧ WA d = nI x ∧ d + x ≤ a ∧ a < n0
def PD (nd0 : Nat → Nat × Nat × Nat) (n0 p y : Nat) (nd : Nat → Nat × Nat × Nat) (n : Nat) (BE WA : Nat → Int32) (nd' : Nat → Nat × Nat × Nat) (n' : Nat) (K F S DD BE' WA' : Nat → Int32) (d x : Nat) : Prop := MoOk nd' n' K F S DD ∧ Exd (nd, n) (nd', n') ∧ BeOk nd0 n0 p y (nd', n') BE' ∧ (∃ r, pt nd0 p y x (nd, n) = (0, r, (nd', n')) ∧ BE' x = nI r ∧ r < n') ∧ (∀ z, x < z → BE' z = BE z) ∧ (∀ z, ¬ BE z = -1 → BE' z = BE z) ∧ ∀ j, j < d → WA' j = WA j
def PX (nd0 : Nat → Nat × Nat × Nat) (p y : Nat) (nd : Nat → Nat × Nat × Nat) (n : Nat) (th : Int32) (nd' : Nat → Nat × Nat × Nat) (n' : Nat) (K F S DD : Nat → Int32) (x : Nat) : Prop := MoOk nd' n' K F S DD ∧ ∃ c, c ≠ 0 ∧ c < 4 ∧ pt nd0 p y x (nd, n) = (c, 0, (nd', n')) ∧ th = nI c
theorem mk1_c (t : Tb) (q : Nat × Nat × Nat) : (mk1 t q).1 < 4 := by
  unfold mk1
  split
  · show 0 < 4; omega
  · split
    · show 2 < 4; omega
    · split
      · show 0 < 4; omega
      · show 3 < 4; omega
section PM
variable {nd0 nd nd' nd1 : Nat → Nat × Nat × Nat} {n0 a p y n n' n1 d x : Nat} {K F S DD BE WA K' F' S' DD' BE' WA' K1 F1 S1 DD1 BE1 WA1 : Nat → Int32}
theorem c_zero {c : Nat} (hc : c < 4) {t : Int32} (e : t = nI c) (h : t ≤ 0) : c = 0 := by
  rw [e] at h
  have := (nI_leI (a := c) (b := 0) (by omega) (by decide)).mp h
  omega
theorem PD_mk (hI : PI nd0 n0 a p y nd n K F S DD BE WA d x) (hR0 : ∀ j, j < n0 → rowOk (nd0 j) j) {q : Nat × Nat × Nat} (e : ∀ t : Tb, Exd (nd, n) t → Wn t.1 t.2 → pt nd0 p y x t = mk1 t q) {r : Int32} {u : MoS × Int32} (hc : chg (mk1 (nd, n) q) r u) (h0 : u.2 ≤ 0) : u.2 = 0 ∧ PD nd0 n0 p y nd n BE WA (mk1 (nd, n) q).2.2.1 u.1.2.2.2.2 u.1.1 u.1.2.1 u.1.2.2.1 u.1.2.2.2.1 (upd BE x r) WA d x := by
  obtain ⟨c1, c2, c3, c4⟩ := hc
  obtain ⟨i1, i2, i3, i4, i5, i6, i7⟩ := hI
  have z := c_zero (mk1_c _ _) c2 h0
  have g1 := (mk1_ext (nd, n) q).1
  have e0 := e (nd, n) (Exd.rf _) i1.1
  rcases ho : mk1 (nd, n) q with ⟨o1, o2, ndx, nx⟩
  rw [ho] at c1 c2 c3 c4 z g1 e0
  simp only at c1 c2 c3 c4 z g1 e0
  subst z; subst c1
  have c5 : MoOk ndx u.1.2.2.2.2 u.1.1 u.1.2.1 u.1.2.2.1 u.1.2.2.2.1 := c4
  rw [c3] at c5
  have g2 := mk1_again ho c5.1
  have g3 := (e (ndx, nx) g1 c5.1).trans g2.1
  refine ⟨c2, ?_⟩
  rw [c3]
  refine ⟨c5, g1, (i3.up hR0 i1.1 c5.1 g1).fill g2.2 g3, ⟨o2, e0, pk_us .., g2.2⟩, fun w hw => pk_un (by omega), fun w hw => pk_un (fun h => hw (by rw [h]; exact i4)), fun _ _ => rfl⟩
theorem PX_mk (hI : PI nd0 n0 a p y nd n K F S DD BE WA d x) {q : Nat × Nat × Nat} (e : ∀ t : Tb, Exd (nd, n) t → Wn t.1 t.2 → pt nd0 p y x t = mk1 t q) {r : Int32} {u : MoS × Int32} (hc : chg (mk1 (nd, n) q) r u) (h0 : ¬ u.2 ≤ 0) : PX nd0 p y nd n u.2 (mk1 (nd, n) q).2.2.1 u.1.2.2.2.2 u.1.1 u.1.2.1 u.1.2.2.1 u.1.2.2.2.1 x := by
  obtain ⟨c1, c2, c3, c4⟩ := hc
  have e0 := e (nd, n) (Exd.rf _) hI.1.1
  have hz : (mk1 (nd, n) q).1 ≠ 0 := fun z => h0 (by rw [c2, z]; decide)
  refine ⟨c4, (mk1 (nd, n) q).1, hz, mk1_c _ _, ?_, c2⟩
  rw [e0, c3, ← mk1_z _ _ hz]
theorem PD_leaf (hI : PI nd0 n0 a p y nd n K F S DD BE WA d x) {v : Nat} (hv : v < n) (e : pt nd0 p y x (nd, n) = (0, v, (nd, n))) : PD nd0 n0 p y nd n BE WA nd n K F S DD (upd BE x (nI v)) WA d x := by
  obtain ⟨i1, i2, i3, i4, i5, i6, i7⟩ := hI
  exact ⟨i1, Exd.rf _, i3.fill hv e, ⟨v, e, pk_us .., hv⟩, fun w hw => pk_un (by omega), fun w hw => pk_un (fun h => hw (by rw [h]; exact i4)), fun _ _ => rfl⟩
/-- a part is put on top -/
theorem PI_push (hI : PI nd0 n0 a p y nd n K F S DD BE WA d x) {z : Nat} (hz : z < x) (hb : BE z = -1) : PI nd0 n0 a p y nd n K F S DD BE (upd WA (d + 1) (nI z)) (d + 1) z := by
  obtain ⟨i1, i2, i3, i4, i5, i6, i7⟩ := hI
  exact ⟨i1, i2, i3, hb, pk_us .., by omega, i7⟩
/-- a part is done -/
theorem PI_back (hI : PI nd0 n0 a p y nd n K F S DD BE WA d x) {z : Nat} (hz : z < x) {v : Int32} (hD : PD nd0 n0 p y nd n BE (upd WA (d + 1) v) nd' n' K' F' S' DD' BE' WA' (d + 1) z) : PI nd0 n0 a p y nd' n' K' F' S' DD' BE' WA' d x := by
  obtain ⟨i1, i2, i3, i4, i5, i6, i7⟩ := hI
  obtain ⟨d1, d2, d3, d4, d5, d6, d7⟩ := hD
  exact ⟨d1, i2.tr d2, d3, by rw [d5 x hz]; exact i4, by rw [d7 d (by omega), pk_un (by omega)]; exact i5, i6, i7⟩
theorem PD_tr {z : Nat} (hz : z < x) {v : Int32} (hD : PD nd0 n0 p y nd n BE (upd WA (d + 1) v) nd' n' K' F' S' DD' BE' WA' (d + 1) z) (hE : PD nd0 n0 p y nd' n' BE' WA' nd1 n1 K1 F1 S1 DD1 BE1 WA1 d x) (e : pt nd0 p y x (nd, n) = pt nd0 p y x (nd', n')) : PD nd0 n0 p y nd n BE WA nd1 n1 K1 F1 S1 DD1 BE1 WA1 d x := by
  obtain ⟨d1, d2, d3, d4, d5, d6, d7⟩ := hD
  obtain ⟨e1, e2, e3, e4, e5, e6, e7⟩ := hE
  exact ⟨e1, d2.tr e2, e3, by rw [e]; exact e4, fun w hw => by rw [e5 w hw, d5 w (by omega)], fun w hw => by rw [e6 w (by rw [d6 w hw]; exact hw), d6 w hw], fun j hj => by rw [e7 j hj, d7 j (by omega), pk_un (by omega)]⟩
theorem PX_tr {th : Int32} (hE : PX nd0 p y nd' n' th nd1 n1 K1 F1 S1 DD1 x) (e : pt nd0 p y x (nd, n) = pt nd0 p y x (nd', n')) : PX nd0 p y nd n th nd1 n1 K1 F1 S1 DD1 x := by
  obtain ⟨e1, c, e2, e3, e4, e5⟩ := hE
  exact ⟨e1, c, e2, e3, by rw [e]; exact e4, e5⟩
theorem nI_inj {a b : Nat} (ha : a < 2 ^ 31) (hb : b < 2 ^ 31) (h : nI a = nI b) : a = b := (nI_eq ha hb).mp h
/-- the first part is done: the level's own work is the same from there -/
theorem PD_s1 (hR0 : ∀ j, j < n0 → rowOk (nd0 j) j) (hx : x < n0) (k : 2 ≤ (nd0 x).1) {WB : Nat → Int32} {dd : Nat} (hD : PD nd0 n0 p y nd n BE WB nd' n' K' F' S' DD' BE' WA' dd (nd0 x).2.1) : pt nd0 p y x (nd, n) = pt nd0 p y x (nd', n') := by
  obtain ⟨d1, d2, d3, ⟨r, q1, q2, q3⟩, d5, d6, d7⟩ := hD
  have a1 := (hR0 x hx).2.2.1 k
  rcases d3 _ (show (nd0 x).2.1 < n0 by omega) with z | ⟨r', w1, w2, w3⟩
  · rw [q2] at z; exact absurd z (nI_m1 (by have := d1.1.1; omega))
  · have hn := d1.1.1
    have e : r' = r := nI_inj (by have : r' < n' := w1; omega) (by omega) (w2.symm.trans q2)
    subst e
    exact pt_s1 k a1 q1 w3
theorem PD_s2 (hR0 : ∀ j, j < n0 → rowOk (nd0 j) j) (hx : x < n0) (k : 3 ≤ (nd0 x).1) (hW : Wn nd n) {r1 : Nat} (hf : pt nd0 p y (nd0 x).2.1 (nd, n) = (0, r1, (nd, n))) {WB : Nat → Int32} {dd : Nat} (hD : PD nd0 n0 p y nd n BE WB nd' n' K' F' S' DD' BE' WA' dd (nd0 x).2.2) : pt nd0 p y x (nd, n) = pt nd0 p y x (nd', n') := by
  obtain ⟨d1, d2, d3, ⟨r, q1, q2, q3⟩, d5, d6, d7⟩ := hD
  have a1 := (hR0 x hx).2.2.1 (by omega)
  have a2 := (hR0 x hx).2.2.2.1 k
  have hf' := ptu hR0 hW d1.1 d2 (x + 1) _ (by omega) (by omega) _ hf
  rcases d3 _ (show (nd0 x).2.2 < n0 by omega) with z | ⟨r', w1, w2, w3⟩
  · rw [q2] at z; exact absurd z (nI_m1 (by have := d1.1.1; omega))
  · have hn := d1.1.1
    have e : r' = r := nI_inj (by have : r' < n' := w1; omega) (by omega) (w2.symm.trans q2)
    subst e
    exact pt_s2 k a1 a2 hf hf' q1 w3
theorem PX_e1 (hR0 : ∀ j, j < n0 → rowOk (nd0 j) j) (hx : x < n0) (k : 2 ≤ (nd0 x).1) {th : Int32} (h : PX nd0 p y nd n th nd' n' K' F' S' DD' (nd0 x).2.1) : PX nd0 p y nd n th nd' n' K' F' S' DD' x := by
  obtain ⟨e1, c, e2, e3, e4, e5⟩ := h
  exact ⟨e1, c, e2, e3, pt_e1 k ((hR0 x hx).2.2.1 k) e2 e4, e5⟩
theorem PX_e2 (hR0 : ∀ j, j < n0 → rowOk (nd0 j) j) (hx : x < n0) (k : 3 ≤ (nd0 x).1) {r1 : Nat} (hf : pt nd0 p y (nd0 x).2.1 (nd, n) = (0, r1, (nd, n))) {th : Int32} (h : PX nd0 p y nd n th nd' n' K' F' S' DD' (nd0 x).2.2) : PX nd0 p y nd n th nd' n' K' F' S' DD' x := by
  obtain ⟨e1, c, e2, e3, e4, e5⟩ := h
  exact ⟨e1, c, e2, e3, pt_e2 k ((hR0 x hx).2.2.1 (by omega)) ((hR0 x hx).2.2.2.1 k) e2 hf e4, e5⟩
theorem PD_ne (hD : PD nd0 n0 p y nd n BE WA nd' n' K' F' S' DD' BE' WA' d x) : ¬ BE' x = -1 := by
  obtain ⟨d1, d2, d3, ⟨r, q1, q2, q3⟩, d5, d6, d7⟩ := hD
  rw [q2]; exact nI_m1 (by have := d1.1.1; omega)
end PM
