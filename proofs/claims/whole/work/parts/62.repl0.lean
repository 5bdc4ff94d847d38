/-! The class's walk: its cells; what holds at the head of its loop. -/
abbrev wRL (cI cL : ClassId) (ad : Nat → Nat) (RS OP : Nat → Int32) (K F S D U V : Nat → Int32) (PT : Nat → Int64) (n : Nat) : va_W := [(ad 9, .inr (2, [.ref (ad 1), .ref (ad 10), .ref (ad 11)])), (ad 10, .inl (cI, 120, .inl RS)), (ad 11, .inl (cI, 120, .inl OP)), (ad 1, .inr (1, [.ref (ad 2), .ref (ad 3), .ref (ad 4), .ref (ad 5), .ref (ad 6), .ref (ad 7), .ref (ad 8), .int (nI n)])), (ad 2, .inl (cI, 120, .inl K)), (ad 3, .inl (cI, 120, .inl F)), (ad 4, .inl (cI, 120, .inl S)), (ad 5, .inl (cI, 120, .inl D)), (ad 6, .inl (cI, 120, .inl U)), (ad 7, .inl (cI, 120, .inl V)), (ad 8, .inl (cL, 3840, .inr (.inl PT)))]
def rah (nd : Nat → Nat × Nat × Nat) (p y j : Nat) : Int32 := if us nd j / 2 ^ p % 2 = 1 then (if (nd j).1 = 1 ∧ (nd j).2.1 = p then nI y else -1) else nI j
theorem det0 {K F S : Nat → Int32} {j : Nat} : det K F S j 0 = K j := by rw [det, if_pos rfl]
theorem det1 {K F S : Nat → Int32} {j : Nat} : det K F S j 1 = F j := by rw [det, if_neg (by decide), if_pos rfl]
theorem det2 {K F S : Nat → Int32} {j : Nat} : det K F S j 2 = S j := by rw [det, if_neg (by decide), if_neg (by decide), if_pos rfl]
/-- how many of the first m have no result -/
def cnM (R : Nat → Int32) : Nat → Nat
  | 0 => 0
  | m + 1 => cnM R m + (if R m = -1 then 1 else 0)
theorem cn_le (R : Nat → Int32) : ∀ m, cnM R m ≤ m
  | 0 => Nat.le_refl _
  | m + 1 => by have := cn_le R m; rw [cnM]; split <;> omega
theorem cn_mono (R : Nat → Int32) {a : Nat} : ∀ b, a ≤ b → cnM R a ≤ cnM R b
  | 0, h => by rw [show a = 0 by omega]; exact Nat.le_refl _
  | b + 1, h => by
    rcases Nat.lt_or_ge a (b + 1) with z | z
    · have := cn_mono R b (show a ≤ b by omega); rw [cnM]; split <;> omega
    · rw [show a = b + 1 by omega]; exact Nat.le_refl _
theorem cn_pos {R : Nat → Int32} {x : Nat} (h : R x = -1) : cnM R (x + 1) = cnM R x + 1 := by rw [cnM, if_pos h]
theorem cn_sub {R : Nat → Int32} {x z : Nat} (h : R x = -1) (hz : z < x) : cnM R (z + 1) + 1 ≤ cnM R (x + 1) := by
  rw [cn_pos h]; have := cn_mono R (a := z + 1) x (by omega); omega
theorem cn_congr {R R' : Nat → Int32} : ∀ m, (∀ z, z < m → R z = R' z) → cnM R m = cnM R' m
  | 0, _ => rfl
  | m + 1, h => by rw [cnM, cnM, cn_congr m (fun z hz => h z (by omega)), h m (by omega)]
theorem cn_diff {R R' : Nat → Int32} {z : Nat} (h : ∀ w, z < w → R' w = R w) : ∀ x, z ≤ x → cnM R' (x + 1) + cnM R (z + 1) = cnM R (x + 1) + cnM R' (z + 1)
  | 0, hx => by rw [show z = 0 by omega]; omega
  | x + 1, hx => by
    rcases Nat.lt_or_ge z (x + 1) with w | w
    · have := cn_diff h x (by omega)
      rw [cnM, cnM.eq_2 R (x + 1), h (x + 1) (by omega)]
      omega
    · rw [show z = x + 1 by omega]; omega
theorem cn_fill {R : Nat → Int32} {x : Nat} {r : Int32} (h : R x = -1) (hr : ¬ r = -1) : cnM (upd R x r) (x + 1) + 1 = cnM R (x + 1) := by
  rw [cn_pos h, cnM, pk_us, if_neg hr, cn_congr (R := upd R x r) (R' := R) x (fun z hz => pk_un (by omega))]
theorem mkd_mk1 {nd nd' : Nat → Nat × Nat × Nat} {n n' : Nat} {q : Nat × Nat × Nat} {r : Int32} (hW : Wn nd n) (h : mkd nd n q r nd' n') : ∃ v, mk1 (nd, n) q = (0, v, (nd', n')) ∧ r = nI v := by
  rcases h with ⟨j, h1, h2, h3, h4, h5⟩ | ⟨h1, h2, h3, h4, h5, h6⟩
  · subst h4; subst h5; exact ⟨j, mk1_found hW h1 h2, h3⟩
  · subst h5; subst h6; exact ⟨n, mk1_new h1 h3 h2, h4⟩
/-- which exception a number of the reference tells -/
def xc (X : String) (c : Nat) : Prop := (X = "java/lang/IllegalArgumentException" ∧ c = 2) ∨ (X = "java/lang/IllegalStateException" ∧ c = 3)
theorem mkx_mk1 {nd : Nat → Nat × Nat × Nat} {n : Nat} {q : Nat × Nat × Nat} {X : String} (h : mkx nd n q X) : ∃ c, c ≠ 0 ∧ xc X c ∧ mk1 (nd, n) q = (c, 0, (nd, n)) := by
  rcases h with ⟨h1, ⟨h2, h3, h4⟩ | ⟨h2, h3, h4⟩⟩
  · exact ⟨2, by decide, Or.inl ⟨h2, rfl⟩, mk1_deep h1 ⟨h3, h4⟩⟩
  · exact ⟨3, by decide, Or.inr ⟨h2, rfl⟩, mk1_full h1 h3 h4⟩
def QI (nd0 : Nat → Nat × Nat × Nat) (n0 a p y : Nat) (nd : Nat → Nat × Nat × Nat) (n : Nat) (K F S D U : Nat → Int32) (PT : Nat → Int64) (RS OP : Nat → Int32) (d x st : Nat) : Prop := LvOk nd n K F S D U PT ∧ Exd (nd0, n0) (nd, n) ∧ BeOk nd0 n0 p y (nd, n) RS ∧ RS x = -1 ∧ OP d = nI x ∧ d + x ≤ a ∧ a < n0 ∧ RS a = -1 ∧ (∀ z, z ≤ a → RS z = -1 → 2 ≤ (nd0 z).1) ∧ st + 2 * cnM RS (x + 1) ≤ 240
def QD (nd0 : Nat → Nat × Nat × Nat) (n0 p y : Nat) (nd : Nat → Nat × Nat × Nat) (n : Nat) (RS OP : Nat → Int32) (st : Nat) (nd' : Nat → Nat × Nat × Nat) (n' : Nat) (K F S D U : Nat → Int32) (PT : Nat → Int64) (RS' OP' : Nat → Int32) (st' d x : Nat) : Prop := LvOk nd' n' K F S D U PT ∧ Exd (nd, n) (nd', n') ∧ BeOk nd0 n0 p y (nd', n') RS' ∧ (∃ r, pt nd0 p y x (nd, n) = (0, r, (nd', n')) ∧ RS' x = nI r ∧ r < n') ∧ (∀ z, x < z → RS' z = RS z) ∧ (∀ z, ¬ RS z = -1 → RS' z = RS z) ∧ (∀ j, j < d → OP' j = OP j) ∧ st' + 1 + 2 * cnM RS' (x + 1) = st + 2 * cnM RS (x + 1)
def QX (nd0 : Nat → Nat × Nat × Nat) (p y : Nat) (nd : Nat → Nat × Nat × Nat) (n : Nat) (X : String) (nd' : Nat → Nat × Nat × Nat) (n' : Nat) (K F S D U : Nat → Int32) (PT : Nat → Int64) (x : Nat) : Prop := LvOk nd' n' K F S D U PT ∧ ∃ c, c ≠ 0 ∧ xc X c ∧ pt nd0 p y x (nd, n) = (c, 0, (nd', n'))
section QM
variable {nd0 nd nd' nd1 : Nat → Nat × Nat × Nat} {n0 a p y n n' n1 d x st st' st1 : Nat} {K F S D U RS OP K' F' S' D' U' RS' OP' K1 F1 S1 D1 U1 RS1 OP1 : Nat → Int32} {PT PT' PT1 : Nat → Int64}
theorem QD_mk (hI : QI nd0 n0 a p y nd n K F S D U PT RS OP d x st) (hR0 : ∀ j, j < n0 → rowOk (nd0 j) j) {q : Nat × Nat × Nat} (e : ∀ t : Tb, Exd (nd, n) t → Wn t.1 t.2 → pt nd0 p y x t = mk1 t q) {r : Int32} {u : LvS} (hc : ∃ nd', mkd nd n q r nd' u.2.2.2.2.2.2 ∧ LvU nd' u) : ∃ nd', QD nd0 n0 p y nd n RS OP st nd' u.2.2.2.2.2.2 u.1 u.2.1 u.2.2.1 u.2.2.2.1 u.2.2.2.2.1 u.2.2.2.2.2.1 (upd RS x r) OP (st + 1) d x := by
  obtain ⟨nd', c1, c2⟩ := hc
  obtain ⟨i1, i2, i3, i4, i5, i6, i7, i8, i9, i10⟩ := hI
  obtain ⟨v, e1, e2⟩ := mkd_mk1 i1.1 c1
  have e0 := e (nd, n) (Exd.rf _) i1.1
  have g1 := (mk1_ext (nd, n) q).1
  rw [e1] at e0 g1
  have g2 := mk1_again e1 c2.1
  have g3 := (e _ g1 c2.1).trans g2.1
  have hv : v < 120 := Nat.lt_of_lt_of_le g2.2 c2.1.1
  subst e2
  have := cn_fill (x := x) i4 (nI_m1 (j := v) (by omega))
  exact ⟨nd', c2, g1, (i3.up hR0 i1.1 c2.1 g1).fill g2.2 g3, ⟨v, e0, pk_us .., g2.2⟩, fun w hw => pk_un (by omega), fun w hw => pk_un (fun h => hw (by rw [h]; exact i4)), fun _ _ => rfl, by omega⟩
theorem QX_mk (hI : QI nd0 n0 a p y nd n K F S D U PT RS OP d x st) {q : Nat × Nat × Nat} (e : ∀ t : Tb, Exd (nd, n) t → Wn t.1 t.2 → pt nd0 p y x t = mk1 t q) {X : String} {u : LvS} (hc : LvU nd u ∧ u.2.2.2.2.2.2 = n ∧ mkx nd n q X) : QX nd0 p y nd n X nd u.2.2.2.2.2.2 u.1 u.2.1 u.2.2.1 u.2.2.2.1 u.2.2.2.2.1 u.2.2.2.2.2.1 x := by
  obtain ⟨c, h1, h2, h3⟩ := mkx_mk1 hc.2.2
  exact ⟨hc.1, c, h1, h2, by rw [e (nd, n) (Exd.rf _) hI.1.1, h3, hc.2.1]⟩
theorem QI_push (hI : QI nd0 n0 a p y nd n K F S D U PT RS OP d x st) {z : Nat} (hz : z < x) (hb : RS z = -1) : QI nd0 n0 a p y nd n K F S D U PT RS (upd OP (d + 1) (nI z)) (d + 1) z (st + 1) := by
  obtain ⟨i1, i2, i3, i4, i5, i6, i7, i8, i9, i10⟩ := hI
  have := cn_sub i4 hz
  exact ⟨i1, i2, i3, hb, pk_us .., by omega, i7, i8, i9, by omega⟩
theorem QI_back (hI : QI nd0 n0 a p y nd n K F S D U PT RS OP d x st) {z : Nat} (hz : z < x) {v : Int32} (hD : QD nd0 n0 p y nd n RS (upd OP (d + 1) v) (st + 1) nd' n' K' F' S' D' U' PT' RS' OP' st' (d + 1) z) : QI nd0 n0 a p y nd' n' K' F' S' D' U' PT' RS' OP' d x st' := by
  obtain ⟨i1, i2, i3, i4, i5, i6, i7, i8, i9, i10⟩ := hI
  obtain ⟨d1, d2, d3, d4, d5, d6, d7, d8⟩ := hD
  have := cn_diff d5 x (by omega)
  exact ⟨d1, i2.tr d2, d3, by rw [d5 x hz]; exact i4, by rw [d7 d (by omega), pk_un (by omega)]; exact i5, i6, i7, by rw [d5 a (by omega)]; exact i8, fun w hw h => i9 w hw (Decidable.byContradiction fun g => g (by rw [d6 w g] at h; exact h)), by omega⟩
theorem QD_tr {z : Nat} (hz : z < x) {v : Int32} (hD : QD nd0 n0 p y nd n RS (upd OP (d + 1) v) (st + 1) nd' n' K' F' S' D' U' PT' RS' OP' st' (d + 1) z) (hE : QD nd0 n0 p y nd' n' RS' OP' st' nd1 n1 K1 F1 S1 D1 U1 PT1 RS1 OP1 st1 d x) (e : pt nd0 p y x (nd, n) = pt nd0 p y x (nd', n')) : QD nd0 n0 p y nd n RS OP st nd1 n1 K1 F1 S1 D1 U1 PT1 RS1 OP1 st1 d x := by
  obtain ⟨d1, d2, d3, d4, d5, d6, d7, d8⟩ := hD
  obtain ⟨e1, e2, e3, e4, e5, e6, e7, e8⟩ := hE
  have := cn_diff d5 x (by omega)
  exact ⟨e1, d2.tr e2, e3, by rw [e]; exact e4, fun w hw => by rw [e5 w hw, d5 w (by omega)], fun w hw => by rw [e6 w (by rw [d6 w hw]; exact hw), d6 w hw], fun j hj => by rw [e7 j hj, d7 j (by omega), pk_un (by omega)], by omega⟩
theorem QX_tr {X : String} (hE : QX nd0 p y nd' n' X nd1 n1 K1 F1 S1 D1 U1 PT1 x) (e : pt nd0 p y x (nd, n) = pt nd0 p y x (nd', n')) : QX nd0 p y nd n X nd1 n1 K1 F1 S1 D1 U1 PT1 x := by
  obtain ⟨e1, c, e2, e3, e4⟩ := hE
  exact ⟨e1, c, e2, e3, by rw [e]; exact e4⟩
theorem QD_s1 (hR0 : ∀ j, j < n0 → rowOk (nd0 j) j) (hx : x < n0) (k : 2 ≤ (nd0 x).1) {WB : Nat → Int32} {dd s0 : Nat} (hD : QD nd0 n0 p y nd n RS WB s0 nd' n' K' F' S' D' U' PT' RS' OP' st' dd (nd0 x).2.1) : pt nd0 p y x (nd, n) = pt nd0 p y x (nd', n') := by
  obtain ⟨d1, d2, d3, ⟨r, q1, q2, q3⟩, d5, d6, d7, d8⟩ := hD
  have a1 := (hR0 x hx).2.2.1 k
  rcases d3 _ (show (nd0 x).2.1 < n0 by omega) with z | ⟨r', w1, w2, w3⟩
  · rw [q2] at z; exact absurd z (nI_m1 (by have := d1.1.1; omega))
  · have hn := d1.1.1
    have e : r' = r := nI_inj (by have : r' < n' := w1; omega) (by omega) (w2.symm.trans q2)
    subst e
    exact pt_s1 k a1 q1 w3
theorem QD_s2 (hR0 : ∀ j, j < n0 → rowOk (nd0 j) j) (hx : x < n0) (k : 3 ≤ (nd0 x).1) (hW : Wn nd n) {r1 : Nat} (hf : pt nd0 p y (nd0 x).2.1 (nd, n) = (0, r1, (nd, n))) {WB : Nat → Int32} {dd s0 : Nat} (hD : QD nd0 n0 p y nd n RS WB s0 nd' n' K' F' S' D' U' PT' RS' OP' st' dd (nd0 x).2.2) : pt nd0 p y x (nd, n) = pt nd0 p y x (nd', n') := by
  obtain ⟨d1, d2, d3, ⟨r, q1, q2, q3⟩, d5, d6, d7, d8⟩ := hD
  have a1 := (hR0 x hx).2.2.1 (by omega)
  have a2 := (hR0 x hx).2.2.2.1 k
  have hf' := ptu hR0 hW d1.1 d2 (x + 1) _ (by omega) (by omega) _ hf
  rcases d3 _ (show (nd0 x).2.2 < n0 by omega) with z | ⟨r', w1, w2, w3⟩
  · rw [q2] at z; exact absurd z (nI_m1 (by have := d1.1.1; omega))
  · have hn := d1.1.1
    have e : r' = r := nI_inj (by have : r' < n' := w1; omega) (by omega) (w2.symm.trans q2)
    subst e
    exact pt_s2 k a1 a2 hf hf' q1 w3
theorem QX_e1 (hR0 : ∀ j, j < n0 → rowOk (nd0 j) j) (hx : x < n0) (k : 2 ≤ (nd0 x).1) {X : String} (h : QX nd0 p y nd n X nd' n' K' F' S' D' U' PT' (nd0 x).2.1) : QX nd0 p y nd n X nd' n' K' F' S' D' U' PT' x := by
  obtain ⟨e1, c, e2, e3, e4⟩ := h
  exact ⟨e1, c, e2, e3, pt_e1 k ((hR0 x hx).2.2.1 k) e2 e4⟩
theorem QX_e2 (hR0 : ∀ j, j < n0 → rowOk (nd0 j) j) (hx : x < n0) (k : 3 ≤ (nd0 x).1) {r1 : Nat} (hf : pt nd0 p y (nd0 x).2.1 (nd, n) = (0, r1, (nd, n))) {X : String} (h : QX nd0 p y nd n X nd' n' K' F' S' D' U' PT' (nd0 x).2.2) : QX nd0 p y nd n X nd' n' K' F' S' D' U' PT' x := by
  obtain ⟨e1, c, e2, e3, e4⟩ := h
  exact ⟨e1, c, e2, e3, pt_e2 k ((hR0 x hx).2.2.1 (by omega)) ((hR0 x hx).2.2.2.1 k) e2 hf e4⟩
theorem QD_ne (hD : QD nd0 n0 p y nd n RS OP st nd' n' K' F' S' D' U' PT' RS' OP' st' d x) : ¬ RS' x = -1 := by
  obtain ⟨d1, d2, d3, ⟨r, q1, q2, q3⟩, d5, d6, d7, d8⟩ := hD
  rw [q2]; exact nI_m1 (by have := d1.1.1; omega)
/-- the row of results at the start -/
theorem rah_ok (hok : LvOk nd n K F S D U PT) (hp : p < 5) (hy : y < n) (ha : a < n) (h : ∀ z, z ≤ a → RS z = rah nd p y z) : BeOk nd (a + 1) p y (nd, n) RS ∧ ∀ z, z ≤ a → RS z = -1 → 2 ≤ (nd z).1 := by
  have hn := hok.1.1
  refine ⟨fun z hz => ?_, fun z hz e => ?_⟩
  · rw [h z (by omega), rah]
    by_cases hu : us nd z / 2 ^ p % 2 = 1
    · rw [if_pos hu]
      by_cases hk : (nd z).1 = 1 ∧ (nd z).2.1 = p
      · rw [if_pos hk]; exact Or.inr ⟨y, hy, rfl, by rw [pt_leaf (by omega), if_pos hk]⟩
      · rw [if_neg hk]; exact Or.inl rfl
    · rw [if_neg hu]
      exact Or.inr ⟨z, by show z < n; omega, rfl, pt_no (n0 := n) hok.1.2.1 hok.1 (Nat.le_refl _) (fun _ _ => rfl) hp (z + 1) z (by omega) (by omega) hu⟩
  · rw [h z hz, rah] at e
    by_cases hu : us nd z / 2 ^ p % 2 = 1
    · rw [if_pos hu] at e
      by_cases hk : (nd z).1 = 1 ∧ (nd z).2.1 = p
      · rw [if_pos hk] at e; exact absurd e (nI_m1 (by omega))
      · have hrz := hok.1.2.1 z (by omega)
        rw [us_eq hrz] at hu
        rcases (show (nd z).1 = 0 ∨ (nd z).1 = 1 ∨ 2 ≤ (nd z).1 by omega) with k | k | k
        · simp [uA, k] at hu
        · have h5 := hrz.2.1 k
          simp only [uA, k, if_true] at hu
          have b1 : ∀ a, a < 5 → ∀ q, q < 5 → 2 ^ a / 2 ^ q % 2 = 1 → a = q := by decide
          exact absurd ⟨k, b1 _ h5 p hp hu⟩ hk
        · exact k
    · rw [if_neg hu] at e; exact absurd e (nI_m1 (by omega))
end QM
section RAH
variable {nd : Nat → Nat × Nat × Nat} {n p y j : Nat} {K F S D U : Nat → Int32} {PT : Nat → Int64}
theorem rah_bit (hok : LvOk nd n K F S D U PT) (hp : p < 5) (hj : j < n) : ((U j >>> (nI p &&& 31)) &&& 1 = (0 : Int32) ↔ ¬ us nd j / 2 ^ p % 2 = 1) := by
  rw [hok.2.2.2.1 j hj]; exact bit5 _ (us_lt hok.1.2.1 (j + 1) j (by omega) hj) p hp
theorem rah_par (hok : LvOk nd n K F S D U PT) (hp : p < 5) (hj : j < n) : (K j = 1 ∧ F j = nI p) ↔ ((nd j).1 = 1 ∧ (nd j).2.1 = p) := by
  obtain ⟨a, b, c⟩ := hok.2.1 j hj
  have hr := hok.1.2.1 j hj
  have h4 := hr.1
  constructor
  · intro h
    have k : (nd j).1 = 1 := (nI_eq (b := 1) (by omega) (by decide)).mp (a.symm.trans h.1)
    have h5 := hr.2.1 k
    rw [b, fF_n (by omega)] at h
    exact ⟨k, (nI_eq (by omega) (by omega)).mp h.2⟩
  · intro h
    rw [a, b, fF_n (by omega), h.1, h.2]; exact ⟨rfl, rfl⟩
theorem rah_n (hok : LvOk nd n K F S D U PT) (hp : p < 5) (hj : j < n) (h : (if (U j >>> (nI p &&& 31)) &&& 1 = (0 : Int32) then (0 : Int32) else 1) = 0) : nI j = rah nd p y j := by
  rw [rah, if_neg]
  exact (rah_bit hok hp hj).mp (Decidable.byContradiction fun z => by rw [if_neg z] at h; exact absurd h (by decide))
theorem rah_u (hok : LvOk nd n K F S D U PT) (hp : p < 5) (hj : j < n) (h : ¬ (if (U j >>> (nI p &&& 31)) &&& 1 = (0 : Int32) then (0 : Int32) else 1) = 0) : us nd j / 2 ^ p % 2 = 1 :=
  Decidable.byContradiction fun z => h (by rw [if_pos ((rah_bit hok hp hj).mpr z)])
theorem rah_y (hok : LvOk nd n K F S D U PT) (hp : p < 5) (hj : j < n) (h : ¬ (if (U j >>> (nI p &&& 31)) &&& 1 = (0 : Int32) then (0 : Int32) else 1) = 0) (h2 : ¬ (if K j = 1 ∧ F j = nI p then (1 : Int32) else 0) = 0) : nI y = rah nd p y j := by
  rw [rah, if_pos (rah_u hok hp hj h), if_pos]
  exact (rah_par hok hp hj).mp (Decidable.byContradiction fun z => h2 (by rw [if_neg z]))
theorem rah_z (hok : LvOk nd n K F S D U PT) (hp : p < 5) (hj : j < n) (h : ¬ (if (U j >>> (nI p &&& 31)) &&& 1 = (0 : Int32) then (0 : Int32) else 1) = 0) (h2 : (if K j = 1 ∧ F j = nI p then (1 : Int32) else 0) = 0) : -1 = rah nd p y j := by
  rw [rah, if_pos (rah_u hok hp hj h), if_neg]
  intro z
  rw [if_pos ((rah_par hok hp hj).mpr z)] at h2
  exact absurd h2 (by decide)
end RAH
