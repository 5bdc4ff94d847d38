set_option maxHeartbeats 4000000 in
set_option maxRecDepth 100000 in
theorem c_LR_checkLevel (l : Launch) (dC : Nat → ClassId) (dI : Nat → Nat → Nat) (cI cL cZ : ClassId) (ad : Nat → Nat) (K F S D U V : Nat → Int32) (PT : Nat → Int64) (n : Nat) (hn : n ≤ 120) (x : Int32) (hp : hs x n = 1) : Met l y_LR_checkLevel (cw_LR_checkLevel :: tb) (rmH 2 0 0) (va_Pc [.ref (ad 0), .int x] (ry_P (dC, dI) classes (wLL cI cL ad K F S D U V PT n) (tyI cI cL cZ))) (ry_S ry_v (fun _ => True)) 0 0 (fun _ => False) := by
  refine Met.ofW (cc := b_LR_checkLevel) (maxL := 2) (ret := none) (by decide +kernel) rfl ?_
  intro p e s m args below meth c s₁ B hml0 hv
  have C0 := cx_of B hml0 rfl
  obtain ⟨hx, hb, hr, hml, hown, htb, hlocks⟩ := id C0
  obtain ⟨rfl, hP, hK⟩ := hv
  have hl := lv_entry ([.ref (ad 0), .int x]) (n := 2) (Nat.le_of_ble_eq_true rfl)
  rw [lg_entry_eq]
  generalize (lg_sl ([.ref (ad 0), .int x]) ++ List.replicate (2 - (lg_sl ([.ref (ad 0), .int x])).length) Slot.unset).toArray = ls at hl ⊢
  have hl : lv_has ls 2 [(0, .ref (ad 0)), (1, .int x)] := hl
  have hP : va_P (dC, dI) classes [((ad 0), .inr (0, [.ref (ad 1), .ref (ad 9), .ref (ad 12)])), ((ad 1), .inr (1, [.ref (ad 2), .ref (ad 3), .ref (ad 4), .ref (ad 5), .ref (ad 6), .ref (ad 7), .ref (ad 8), .int (nI n)])), ((ad 2), .inl (cI, 120, .inl K)), ((ad 3), .inl (cI, 120, .inl F)), ((ad 4), .inl (cI, 120, .inl S)), ((ad 5), .inl (cI, 120, .inl D)), ((ad 6), .inl (cI, 120, .inl U)), ((ad 7), .inl (cI, 120, .inl V)), ((ad 8), .inl (cL, 3840, .inr (.inl PT)))] s.heap := hP
  refine lv_aload_n hx hb d_LR_checkLevel_0 rfl (lv_at hl 0 rfl) ?_
  refine va_get (D := (dC, dI)) (ci := 0) (v := .ref (ad 1)) (C := R_LR) (T := F_LR) (N := 3) hx hb htb ul_LR hown hK hP 0 rfl rfl 0 (by decide) (htb _ mw_110) (fun _ h9 => h9) rfl d_LR_checkLevel_1 ?_
  refine lv_iload_n hx hb d_LR_checkLevel_4 rfl (lv_at hl 1 rfl) ?_
  refine ry_callV (n := 1) (As := [.int x]) (rest := []) ⟨hx, hb, hml, hown, htb⟩ (c_Lv_has l dC dI cI cL cZ ad K F S D U V PT n hn x) (gV mw_124 mw_125 mw_126 mw_2 mc_Lv_has) rfl rfl (by decide +kernel) ⟨Nat.le_of_ble_eq_true rfl, Nat.le_of_ble_eq_true rfl⟩ (hP.sub [1, 2, 3, 4, 5, 6, 7, 8] rfl) hK (ci := 1) (q0 := 0) rfl rfl rfl rfl hl.1 rfl (Nat.le_of_ble_eq_true rfl) d_LR_checkLevel_5 ⟨Nat.zero_le _, Nat.zero_le _⟩ (fun r_1 hr_1 => ?_)
  subst hr_1
  refine W.eq (g2 := F0 m 8 ls [.int (hs x n)]) rfl ?_
  refine lv_if_ne (tgt := 21) hx hb d_LR_checkLevel_8 (by decide) (fun c_8 => ?_) (fun c_8 => ?_)
  · exact W.vret hx hb hr (fun t ht hW => ⟨(), rfl, trivial, ht⟩) (fun _ h => by cases h) d_LR_checkLevel_21
  · exact absurd (hp.symm.trans c_8) (by decide)

set_option maxHeartbeats 4000000 in
set_option maxRecDepth 100000 in
theorem c0_LR_checkLevel (l : Launch) (htr : ∀ e, l.admits e → e.platform.stackTraces = false) (dC : Nat → ClassId) (dI : Nat → Nat → Nat) (cI cL cZ : ClassId) (ad : Nat → Nat) (K F S D U V : Nat → Int32) (PT : Nat → Int64) (n : Nat) (hn : n ≤ 120) (x : Int32) (hp : hs x n = 0) (sz : Nat) : wx_Met l y_LR_checkLevel (cw_LR_checkLevel :: tb) (rmH 6 1 6) (va_Pc [.ref (ad 0), .int x] (wz_P (dC, dI) classes (wLL cI cL ad K F S D U V PT n) (tyI cI cL cZ) sz)) (wx_Q ry_v (fun _ (u : Unit) => False) (fun X (u : Unit) => X = "java/lang/IndexOutOfBoundsException") (wy_B (dC, dI) classes (tyI cI cL cZ) (va_A (wLL cI cL ad K F S D U V PT n) sz) (fun u : Unit => (wLL cI cL ad K F S D U V PT n))) (va_A (wLL cI cL ad K F S D U V PT n) sz)) (va_A (wLL cI cL ad K F S D U V PT n) sz) := by
  refine wx_ofW (cc := b_LR_checkLevel) (maxL := 2) (ret := none) (by decide +kernel) rfl ?_
  intro p e s m args below meth c s₁ B hml0 ht0 hv
  have C0 := cx_of B hml0 rfl
  obtain ⟨hx, hb, hr, hml, hown, htb, hlocks⟩ := id C0
  obtain ⟨rfl, ⟨hsz, hP, hK, hD0⟩, hth, hst⟩ := hv
  subst hsz
  have hD := hD0.self (sz := s.heap.size)
  generalize hAe : va_A (wLL cI cL ad K F S D U V PT n) s.heap.size = A at hD hth ⊢
  have hA : ∀ q : Nat, s.heap.size ≤ q → A q := fun q h => by rw [← hAe]; exact Or.inr h
  have hS : va_S A s.heap s.heap [] := va_S.rf
  have hl := lv_entry ([.ref (ad 0), .int x]) (n := 2) (Nat.le_of_ble_eq_true rfl)
  rw [lg_entry_eq]
  generalize (lg_sl ([.ref (ad 0), .int x]) ++ List.replicate (2 - (lg_sl ([.ref (ad 0), .int x])).length) Slot.unset).toArray = ls at hl ⊢
  have hl : lv_has ls 2 [(0, .ref (ad 0)), (1, .int x)] := hl
  have hP : va_P (dC, dI) classes [((ad 0), .inr (0, [.ref (ad 1), .ref (ad 9), .ref (ad 12)])), ((ad 1), .inr (1, [.ref (ad 2), .ref (ad 3), .ref (ad 4), .ref (ad 5), .ref (ad 6), .ref (ad 7), .ref (ad 8), .int (nI n)])), ((ad 2), .inl (cI, 120, .inl K)), ((ad 3), .inl (cI, 120, .inl F)), ((ad 4), .inl (cI, 120, .inl S)), ((ad 5), .inl (cI, 120, .inl D)), ((ad 6), .inl (cI, 120, .inl U)), ((ad 7), .inl (cI, 120, .inl V)), ((ad 8), .inl (cL, 3840, .inr (.inl PT)))] s.heap := hP
  have hD : va_D A [((ad 0), .inr (0, [.ref (ad 1), .ref (ad 9), .ref (ad 12)])), ((ad 1), .inr (1, [.ref (ad 2), .ref (ad 3), .ref (ad 4), .ref (ad 5), .ref (ad 6), .ref (ad 7), .ref (ad 8), .int (nI n)])), ((ad 2), .inl (cI, 120, .inl K)), ((ad 3), .inl (cI, 120, .inl F)), ((ad 4), .inl (cI, 120, .inl S)), ((ad 5), .inl (cI, 120, .inl D)), ((ad 6), .inl (cI, 120, .inl U)), ((ad 7), .inl (cI, 120, .inl V)), ((ad 8), .inl (cL, 3840, .inr (.inl PT)))] := hD
  refine lv_aload_n hx hb d_LR_checkLevel_0 rfl (lv_at hl 0 rfl) ?_
  refine va_get (D := (dC, dI)) (ci := 0) (v := .ref (ad 1)) (C := R_LR) (T := F_LR) (N := 3) hx hb htb ul_LR hown hK hP 0 rfl rfl 0 (by decide) (htb _ mw_110) (fun _ h9 => h9) rfl d_LR_checkLevel_1 ?_
  refine lv_iload_n hx hb d_LR_checkLevel_4 rfl (lv_at hl 1 rfl) ?_
  refine ry_callV (n := 1) (As := [.int x]) (rest := []) ⟨hx, hb, hml, hown, htb⟩ (c_Lv_has l dC dI cI cL cZ ad K F S D U V PT n hn x) (gV mw_124 mw_125 mw_126 mw_2 mc_Lv_has) rfl rfl (by decide +kernel) ⟨Nat.le_of_ble_eq_true rfl, Nat.le_of_ble_eq_true rfl⟩ (hP.sub [1, 2, 3, 4, 5, 6, 7, 8] rfl) hK (ci := 1) (q0 := 0) rfl rfl rfl rfl hl.1 rfl (Nat.le_of_ble_eq_true rfl) d_LR_checkLevel_5 ⟨Nat.zero_le _, Nat.zero_le _⟩ (fun r_1 hr_1 => ?_)
  subst hr_1
  refine W.eq (g2 := F0 m 8 ls [.int (hs x n)]) rfl ?_
  refine lv_if_ne (tgt := 21) hx hb d_LR_checkLevel_8 (by decide) (fun c_8 => ?_) (fun c_8 => ?_)
  · exact absurd hp c_8
  · exact wz_throw hx hb htr hown htb (Or.inr (Or.inr rfl)) mw_372 mw_373 mw_13 mw_382 hth hst.2.2.2.1 ht0 hlocks (by rw [hml]; exact hl.1) d_LR_checkLevel_11 d_LR_checkLevel_14 d_LR_checkLevel_15 d_LR_checkLevel_17 d_LR_checkLevel_20 ⟨Nat.le_of_ble_eq_true rfl, Nat.le_of_ble_eq_true rfl, Nat.le_of_ble_eq_true rfl, Nat.le_of_ble_eq_true rfl⟩ () rfl hP hK hD

set_option maxHeartbeats 4000000 in
set_option maxRecDepth 100000 in
theorem c_LR_checkParameter (l : Launch) (a : Nat) (ha : a < 5) : Met l y_LR_checkParameter (cw_LR_checkParameter :: tb) (rmH 1 0 0) (va_Pc [.int (nI a)] (fun _ => True)) (ry_S ry_v (fun _ => True)) 0 0 (fun _ => False) := by
  refine Met.ofW (cc := b_LR_checkParameter) (maxL := 1) (ret := none) (by decide +kernel) rfl ?_
  intro p e s m args below meth c s₁ B hml0 hv
  have C0 := cx_of B hml0 rfl
  obtain ⟨hx, hb, hr, hml, hown, htb, hlocks⟩ := id C0
  obtain ⟨rfl, -⟩ := hv
  have hl := lv_entry ([.int (nI a)]) (n := 1) (Nat.le_of_ble_eq_true rfl)
  rw [lg_entry_eq]
  generalize (lg_sl ([.int (nI a)]) ++ List.replicate (1 - (lg_sl ([.int (nI a)])).length) Slot.unset).toArray = ls at hl ⊢
  have hl : lv_has ls 1 [(0, .int (nI a))] := hl
  refine lv_iload_n hx hb d_LR_checkParameter_0 rfl (lv_at hl 0 rfl) ?_
  refine lv_if_lt (tgt := 9) hx hb d_LR_checkParameter_1 (by decide) (fun c_1 => ?_) (fun c_1 => ?_)
  · exact absurd c_1 (nI_pos (by omega))
  · refine lv_iload_n hx hb d_LR_checkParameter_4 rfl (lv_at hl 0 rfl) ?_
    refine lv_iconst (v := 5) hx hb d_LR_checkParameter_5 (by decide) ?_
    refine lv_icmp_lt (tgt := 19) hx hb d_LR_checkParameter_6 (by decide) (fun c_6 => ?_) (fun c_6 => ?_)
    · exact W.vret hx hb hr (fun t ht hW => ⟨(), rfl, trivial, ht⟩) (fun _ h => by cases h) d_LR_checkParameter_19
    · exact absurd ((nI_ltI (b := 5) (by omega) (by decide)).mpr ha) c_6

set_option maxHeartbeats 4000000 in
set_option maxRecDepth 100000 in
theorem c0_LR_checkParameter (l : Launch) (htr : ∀ e, l.admits e → e.platform.stackTraces = false) (dC : Nat → ClassId) (dI : Nat → Nat → Nat) (cI cL cZ : ClassId) (x : Int32) (hp : x < 0 ∨ 5 ≤ x) (sz : Nat) : wx_Met l y_LR_checkParameter (cw_LR_checkParameter :: tb) (rmH 6 1 6) (va_Pc [.int x] (wz_P (dC, dI) classes [] (tyI cI cL cZ) sz)) (wx_Q ry_v (fun _ (u : Unit) => False) (fun X (u : Unit) => X = "java/lang/IndexOutOfBoundsException") (wy_B (dC, dI) classes (tyI cI cL cZ) (va_A [] sz) (fun u : Unit => [])) (va_A [] sz)) (va_A [] sz) := by
  refine wx_ofW (cc := b_LR_checkParameter) (maxL := 1) (ret := none) (by decide +kernel) rfl ?_
  intro p e s m args below meth c s₁ B hml0 ht0 hv
  have C0 := cx_of B hml0 rfl
  obtain ⟨hx, hb, hr, hml, hown, htb, hlocks⟩ := id C0
  obtain ⟨rfl, ⟨hsz, hP, hK, hD0⟩, hth, hst⟩ := hv
  subst hsz
  have hD := hD0.self (sz := s.heap.size)
  generalize hAe : va_A [] s.heap.size = A at hD hth ⊢
  have hA : ∀ q : Nat, s.heap.size ≤ q → A q := fun q h => by rw [← hAe]; exact Or.inr h
  have hS : va_S A s.heap s.heap [] := va_S.rf
  have hl := lv_entry ([.int x]) (n := 1) (Nat.le_of_ble_eq_true rfl)
  rw [lg_entry_eq]
  generalize (lg_sl ([.int x]) ++ List.replicate (1 - (lg_sl ([.int x])).length) Slot.unset).toArray = ls at hl ⊢
  have hl : lv_has ls 1 [(0, .int x)] := hl
  have hP : va_P (dC, dI) classes [] s.heap := hP
  have hD : va_D A [] := hD
  refine lv_iload_n hx hb d_LR_checkParameter_0 rfl (lv_at hl 0 rfl) ?_
  refine lv_if_lt (tgt := 9) hx hb d_LR_checkParameter_1 (by decide) (fun c_1 => ?_) (fun c_1 => ?_)
  · exact wz_throw hx hb htr hown htb (Or.inr (Or.inr rfl)) mw_372 mw_373 mw_13 mw_382 hth hst.2.2.1 ht0 hlocks (by rw [hml]; exact hl.1) d_LR_checkParameter_9 d_LR_checkParameter_12 d_LR_checkParameter_13 d_LR_checkParameter_15 d_LR_checkParameter_18 ⟨Nat.le_of_ble_eq_true rfl, Nat.le_of_ble_eq_true rfl, Nat.le_of_ble_eq_true rfl, Nat.le_of_ble_eq_true rfl⟩ () rfl hP hK hD
  · refine lv_iload_n hx hb d_LR_checkParameter_4 rfl (lv_at hl 0 rfl) ?_
    refine lv_iconst (v := 5) hx hb d_LR_checkParameter_5 (by decide) ?_
    refine lv_icmp_lt (tgt := 19) hx hb d_LR_checkParameter_6 (by decide) (fun c_6 => ?_) (fun c_6 => ?_)
    · exact absurd hp (fun z => z.elim c_1 (fun y => absurd c_6 (Int32.not_lt.mpr y)))
    · exact wz_throw hx hb htr hown htb (Or.inr (Or.inr rfl)) mw_372 mw_373 mw_13 mw_382 hth hst.2.2.1 ht0 hlocks (by rw [hml]; exact hl.1) d_LR_checkParameter_9 d_LR_checkParameter_12 d_LR_checkParameter_13 d_LR_checkParameter_15 d_LR_checkParameter_18 ⟨Nat.le_of_ble_eq_true rfl, Nat.le_of_ble_eq_true rfl, Nat.le_of_ble_eq_true rfl, Nat.le_of_ble_eq_true rfl⟩ () rfl hP hK hD

set_option maxHeartbeats 4000000 in
set_option maxRecDepth 100000 in
theorem c_LR_zero (l : Launch) (htr : ∀ e, l.admits e → e.platform.stackTraces = false) (dC : Nat → ClassId) (dI : Nat → Nat → Nat) (cI cL cZ : ClassId) (ad : Nat → Nat) (K F S D U V : Nat → Int32) (PT : Nat → Int64) (n : Nat) (hn : n ≤ 120) (nd : Nat → Nat × Nat × Nat) (hok : LvOk nd n K F S D U PT) (sz : Nat) : wx_Met l y_LR_zero (cw_LR_zero :: tb) (rmH 8 1 6) (va_Pc [.ref (ad 0)] (wz_P (dC, dI) classes (wLL cI cL ad K F S D U V PT n) (tyI cI cL cZ) sz)) (wx_Q ry_i (fun r (u : LvS) => ∃ nd', mkd nd n (0, 0, 0) r nd' u.2.2.2.2.2.2 ∧ LvU nd' u) (fun X (u : LvS) => LvU nd u ∧ u.2.2.2.2.2.2 = n ∧ mkx nd n (0, 0, 0) X) (wy_B (dC, dI) classes (tyI cI cL cZ) (va_A (wLL cI cL ad K F S D U V PT n) sz) (fun u : LvS => wLL cI cL ad u.1 u.2.1 u.2.2.1 u.2.2.2.1 u.2.2.2.2.1 V u.2.2.2.2.2.1 u.2.2.2.2.2.2)) (va_A (wLL cI cL ad K F S D U V PT n) sz)) (va_A (wLL cI cL ad K F S D U V PT n) sz) := by
  refine wx_ofW (cc := b_LR_zero) (maxL := 1) (ret := (some .int)) (by decide +kernel) rfl ?_
  intro p e s m args below meth c s₁ B hml0 ht0 hv
  have C0 := cx_of B hml0 rfl
  obtain ⟨hx, hb, hr, hml, hown, htb, hlocks⟩ := id C0
  obtain ⟨rfl, ⟨hsz, hP, hK, hD0⟩, hth, hst⟩ := hv
  subst hsz
  have hD := hD0.self (sz := s.heap.size)
  generalize hAe : va_A (wLL cI cL ad K F S D U V PT n) s.heap.size = A at hD hth ⊢
  have hA : ∀ q : Nat, s.heap.size ≤ q → A q := fun q h => by rw [← hAe]; exact Or.inr h
  have hS : va_S A s.heap s.heap [] := va_S.rf
  have hl := lv_entry ([.ref (ad 0)]) (n := 1) (Nat.le_of_ble_eq_true rfl)
  rw [lg_entry_eq]
  generalize (lg_sl ([.ref (ad 0)]) ++ List.replicate (1 - (lg_sl ([.ref (ad 0)])).length) Slot.unset).toArray = ls at hl ⊢
  have hl : lv_has ls 1 [(0, .ref (ad 0))] := hl
  have hP : va_P (dC, dI) classes [((ad 0), .inr (0, [.ref (ad 1), .ref (ad 9), .ref (ad 12)])), ((ad 1), .inr (1, [.ref (ad 2), .ref (ad 3), .ref (ad 4), .ref (ad 5), .ref (ad 6), .ref (ad 7), .ref (ad 8), .int (nI n)])), ((ad 2), .inl (cI, 120, .inl K)), ((ad 3), .inl (cI, 120, .inl F)), ((ad 4), .inl (cI, 120, .inl S)), ((ad 5), .inl (cI, 120, .inl D)), ((ad 6), .inl (cI, 120, .inl U)), ((ad 7), .inl (cI, 120, .inl V)), ((ad 8), .inl (cL, 3840, .inr (.inl PT)))] s.heap := hP
  have hD : va_D A [((ad 0), .inr (0, [.ref (ad 1), .ref (ad 9), .ref (ad 12)])), ((ad 1), .inr (1, [.ref (ad 2), .ref (ad 3), .ref (ad 4), .ref (ad 5), .ref (ad 6), .ref (ad 7), .ref (ad 8), .int (nI n)])), ((ad 2), .inl (cI, 120, .inl K)), ((ad 3), .inl (cI, 120, .inl F)), ((ad 4), .inl (cI, 120, .inl S)), ((ad 5), .inl (cI, 120, .inl D)), ((ad 6), .inl (cI, 120, .inl U)), ((ad 7), .inl (cI, 120, .inl V)), ((ad 8), .inl (cL, 3840, .inr (.inl PT)))] := hD
  refine lv_aload_n hx hb d_LR_zero_0 rfl (lv_at hl 0 rfl) ?_
  refine va_get (D := (dC, dI)) (ci := 0) (v := .ref (ad 1)) (C := R_LR) (T := F_LR) (N := 3) hx hb htb ul_LR hown hK hP 0 rfl rfl 0 (by decide) (htb _ mw_110) (fun _ h9 => h9) rfl d_LR_zero_1 ?_
  refine lv_iconst (v := 0) hx hb d_LR_zero_4 (by decide) ?_
  refine lv_iconst (v := (-1)) hx hb d_LR_zero_5 (by decide) ?_
  refine lv_iconst (v := (-1)) hx hb d_LR_zero_6 (by decide) ?_
  refine wz_callV (n := 3) (wr := [((ad 0), .inr (0, [.ref (ad 1), .ref (ad 9), .ref (ad 12)]))]) (As := [.int 0, .int (-1), .int (-1)]) (rest := []) ⟨hx, hb, hml, hown, htb⟩ (c_Lv_made l htr dC dI cI cL cZ ad K F S D U V PT n hn nd hok (0, 0, 0) (row0 n) s.heap.size) (gV mw_231 mw_232 mw_233 mw_2 mc_Lv_made) rfl rfl (by decide +kernel) ⟨Nat.le_of_ble_eq_true rfl, Nat.le_of_ble_eq_true rfl⟩ hth hst hP hD hS hA hK [1, 2, 3, 4, 5, 6, 7, 8] [0] rfl rfl (by decide) (by decide) (hP.sub [1, 2, 3, 4, 5, 6, 7, 8] rfl) ((hD.sub [1, 2, 3, 4, 5, 6, 7, 8] (by decide) rfl).weaken (fun _ _ _ _ => trivial)) (ci := 1) (q0 := 0) rfl rfl rfl rfl hl.1 rfl (Nat.le_of_ble_eq_true rfl) d_LR_zero_7 ⟨Nat.le_of_ble_eq_true rfl, Nat.le_of_ble_eq_true rfl⟩ (fun r u H locs hpost hP hD hS => ?_) (fun x X u H locs hpt hex hP hD hS => ?_)
  · have hP : va_P (dC, dI) classes [((ad 0), .inr (0, [.ref (ad 1), .ref (ad 9), .ref (ad 12)])), ((ad 1), .inr (1, [.ref (ad 2), .ref (ad 3), .ref (ad 4), .ref (ad 5), .ref (ad 6), .ref (ad 7), .ref (ad 8), .int (nI u.2.2.2.2.2.2)])), ((ad 2), .inl (cI, 120, .inl u.1)), ((ad 3), .inl (cI, 120, .inl u.2.1)), ((ad 4), .inl (cI, 120, .inl u.2.2.1)), ((ad 5), .inl (cI, 120, .inl u.2.2.2.1)), ((ad 6), .inl (cI, 120, .inl u.2.2.2.2.1)), ((ad 7), .inl (cI, 120, .inl V)), ((ad 8), .inl (cL, 3840, .inr (.inl u.2.2.2.2.2.1)))] H := hP
    have hD : va_D A [((ad 0), .inr (0, [.ref (ad 1), .ref (ad 9), .ref (ad 12)])), ((ad 1), .inr (1, [.ref (ad 2), .ref (ad 3), .ref (ad 4), .ref (ad 5), .ref (ad 6), .ref (ad 7), .ref (ad 8), .int (nI u.2.2.2.2.2.2)])), ((ad 2), .inl (cI, 120, .inl u.1)), ((ad 3), .inl (cI, 120, .inl u.2.1)), ((ad 4), .inl (cI, 120, .inl u.2.2.1)), ((ad 5), .inl (cI, 120, .inl u.2.2.2.1)), ((ad 6), .inl (cI, 120, .inl u.2.2.2.2.1)), ((ad 7), .inl (cI, 120, .inl V)), ((ad 8), .inl (cL, 3840, .inr (.inl u.2.2.2.2.2.1)))] := hD
    refine W.eq (g2 := F0 m 10 ls [.int r]) rfl ?_
    exact wx_ret (W.iret (v := r) hx hb hr (fun t ht hW => ⟨Or.inl ⟨r, u, rfl, hpost, by rw [ht]; exact hP, va_K.moved hW.alike hK, hD⟩, hS.F ht⟩) hS.2.2 d_LR_zero_10)
  · exact wx_out ht0 hlocks (fun t ht hW => ⟨Or.inr ⟨x, X, u, rfl, hpt, ⟨by rw [ht]; exact hP, va_K.moved hW.alike hK, hD⟩, by obtain ⟨cell, g1, g2, g3⟩ := hex; exact ⟨cell, by rw [ht]; exact g1, g2, by rw [hW.alike.findClass]; exact g3⟩⟩, hS.F ht⟩) hS.2.2

set_option maxHeartbeats 4000000 in
set_option maxRecDepth 100000 in
theorem c0_LR_parameter (l : Launch) (htr : ∀ e, l.admits e → e.platform.stackTraces = false) (dC : Nat → ClassId) (dI : Nat → Nat → Nat) (cI cL cZ : ClassId) (ad : Nat → Nat) (K F S D U V : Nat → Int32) (PT : Nat → Int64) (n : Nat) (hn : n ≤ 120) (x : Int32) (hp : x < 0 ∨ 5 ≤ x) (sz : Nat) : wx_Met l y_LR_parameter (cw_LR_parameter :: tb) (rmH 8 1 6) (va_Pc [.ref (ad 0), .int x] (wz_P (dC, dI) classes (wLL cI cL ad K F S D U V PT n) (tyI cI cL cZ) sz)) (wx_Q ry_i (fun r (u : Unit) => False) (fun X (u : Unit) => X = "java/lang/IndexOutOfBoundsException") (wy_B (dC, dI) classes (tyI cI cL cZ) (va_A (wLL cI cL ad K F S D U V PT n) sz) (fun u : Unit => (wLL cI cL ad K F S D U V PT n))) (va_A (wLL cI cL ad K F S D U V PT n) sz)) (va_A (wLL cI cL ad K F S D U V PT n) sz) := by
  refine wx_ofW (cc := b_LR_parameter) (maxL := 2) (ret := (some .int)) (by decide +kernel) rfl ?_
  intro p e s m args below meth c s₁ B hml0 ht0 hv
  have C0 := cx_of B hml0 rfl
  obtain ⟨hx, hb, hr, hml, hown, htb, hlocks⟩ := id C0
  obtain ⟨rfl, ⟨hsz, hP, hK, hD0⟩, hth, hst⟩ := hv
  subst hsz
  have hD := hD0.self (sz := s.heap.size)
  generalize hAe : va_A (wLL cI cL ad K F S D U V PT n) s.heap.size = A at hD hth ⊢
  have hA : ∀ q : Nat, s.heap.size ≤ q → A q := fun q h => by rw [← hAe]; exact Or.inr h
  have hS : va_S A s.heap s.heap [] := va_S.rf
  have hl := lv_entry ([.ref (ad 0), .int x]) (n := 2) (Nat.le_of_ble_eq_true rfl)
  rw [lg_entry_eq]
  generalize (lg_sl ([.ref (ad 0), .int x]) ++ List.replicate (2 - (lg_sl ([.ref (ad 0), .int x])).length) Slot.unset).toArray = ls at hl ⊢
  have hl : lv_has ls 2 [(0, .ref (ad 0)), (1, .int x)] := hl
  have hP : va_P (dC, dI) classes [((ad 0), .inr (0, [.ref (ad 1), .ref (ad 9), .ref (ad 12)])), ((ad 1), .inr (1, [.ref (ad 2), .ref (ad 3), .ref (ad 4), .ref (ad 5), .ref (ad 6), .ref (ad 7), .ref (ad 8), .int (nI n)])), ((ad 2), .inl (cI, 120, .inl K)), ((ad 3), .inl (cI, 120, .inl F)), ((ad 4), .inl (cI, 120, .inl S)), ((ad 5), .inl (cI, 120, .inl D)), ((ad 6), .inl (cI, 120, .inl U)), ((ad 7), .inl (cI, 120, .inl V)), ((ad 8), .inl (cL, 3840, .inr (.inl PT)))] s.heap := hP
  have hD : va_D A [((ad 0), .inr (0, [.ref (ad 1), .ref (ad 9), .ref (ad 12)])), ((ad 1), .inr (1, [.ref (ad 2), .ref (ad 3), .ref (ad 4), .ref (ad 5), .ref (ad 6), .ref (ad 7), .ref (ad 8), .int (nI n)])), ((ad 2), .inl (cI, 120, .inl K)), ((ad 3), .inl (cI, 120, .inl F)), ((ad 4), .inl (cI, 120, .inl S)), ((ad 5), .inl (cI, 120, .inl D)), ((ad 6), .inl (cI, 120, .inl U)), ((ad 7), .inl (cI, 120, .inl V)), ((ad 8), .inl (cL, 3840, .inr (.inl PT)))] := hD
  refine lv_iload_n hx hb d_LR_parameter_0 rfl (lv_at hl 1 rfl) ?_
  refine wz_callS (n := 1) (wr := [((ad 0), .inr (0, [.ref (ad 1), .ref (ad 9), .ref (ad 12)])), ((ad 1), .inr (1, [.ref (ad 2), .ref (ad 3), .ref (ad 4), .ref (ad 5), .ref (ad 6), .ref (ad 7), .ref (ad 8), .int (nI n)])), ((ad 2), .inl (cI, 120, .inl K)), ((ad 3), .inl (cI, 120, .inl F)), ((ad 4), .inl (cI, 120, .inl S)), ((ad 5), .inl (cI, 120, .inl D)), ((ad 6), .inl (cI, 120, .inl U)), ((ad 7), .inl (cI, 120, .inl V)), ((ad 8), .inl (cL, 3840, .inr (.inl PT)))]) (As := [.int x]) (rest := []) ⟨hx, hb, hml, hown, htb⟩ (c0_LR_checkParameter l htr dC dI cI cL cZ x hp s.heap.size) (gL mw_369 mw_370 mw_1 mc_LR_checkParameter) rfl rfl (by decide +kernel) ⟨Nat.le_of_ble_eq_true rfl, Nat.le_of_ble_eq_true rfl⟩ hth hst hP hD hS hA hK [] [0, 1, 2, 3, 4, 5, 6, 7, 8] rfl rfl (by decide) (by decide) (hP.sub [] rfl) ((hD.sub [] (by decide) rfl).weaken (fun _ _ _ _ => trivial)) rfl hl.1 rfl (Nat.le_of_ble_eq_true rfl) d_LR_parameter_1 ⟨Nat.le_of_ble_eq_true rfl, Nat.le_of_ble_eq_true rfl⟩ (fun r u H locs hpost hP hD hS => ?_) (fun x X u H locs hpt hex hP hD hS => ?_)
  · exact hpost.elim
  · exact wx_out ht0 hlocks (fun t ht hW => ⟨Or.inr ⟨x, X, (), rfl, hpt, ⟨by rw [ht]; exact hP, va_K.moved hW.alike hK, hD⟩, by obtain ⟨cell, g1, g2, g3⟩ := hex; exact ⟨cell, by rw [ht]; exact g1, g2, by rw [hW.alike.findClass]; exact g3⟩⟩, hS.F ht⟩) hS.2.2

set_option maxHeartbeats 4000000 in
set_option maxRecDepth 100000 in
theorem c_LR_parameter (l : Launch) (htr : ∀ e, l.admits e → e.platform.stackTraces = false) (dC : Nat → ClassId) (dI : Nat → Nat → Nat) (cI cL cZ : ClassId) (ad : Nat → Nat) (K F S D U V : Nat → Int32) (PT : Nat → Int64) (n : Nat) (hn : n ≤ 120) (nd : Nat → Nat × Nat × Nat) (hok : LvOk nd n K F S D U PT) (a : Nat) (ha : a < 5) (sz : Nat) : wx_Met l y_LR_parameter (cw_LR_parameter :: tb) (rmH 8 1 6) (va_Pc [.ref (ad 0), .int (nI a)] (wz_P (dC, dI) classes (wLL cI cL ad K F S D U V PT n) (tyI cI cL cZ) sz)) (wx_Q ry_i (fun r (u : LvS) => ∃ nd', mkd nd n (1, a, 0) r nd' u.2.2.2.2.2.2 ∧ LvU nd' u) (fun X (u : LvS) => LvU nd u ∧ u.2.2.2.2.2.2 = n ∧ mkx nd n (1, a, 0) X) (wy_B (dC, dI) classes (tyI cI cL cZ) (va_A (wLL cI cL ad K F S D U V PT n) sz) (fun u : LvS => wLL cI cL ad u.1 u.2.1 u.2.2.1 u.2.2.2.1 u.2.2.2.2.1 V u.2.2.2.2.2.1 u.2.2.2.2.2.2)) (va_A (wLL cI cL ad K F S D U V PT n) sz)) (va_A (wLL cI cL ad K F S D U V PT n) sz) := by
  refine wx_ofW (cc := b_LR_parameter) (maxL := 2) (ret := (some .int)) (by decide +kernel) rfl ?_
  intro p e s m args below meth c s₁ B hml0 ht0 hv
  have C0 := cx_of B hml0 rfl
  obtain ⟨hx, hb, hr, hml, hown, htb, hlocks⟩ := id C0
  obtain ⟨rfl, ⟨hsz, hP, hK, hD0⟩, hth, hst⟩ := hv
  subst hsz
  have hD := hD0.self (sz := s.heap.size)
  generalize hAe : va_A (wLL cI cL ad K F S D U V PT n) s.heap.size = A at hD hth ⊢
  have hA : ∀ q : Nat, s.heap.size ≤ q → A q := fun q h => by rw [← hAe]; exact Or.inr h
  have hS : va_S A s.heap s.heap [] := va_S.rf
  have hl := lv_entry ([.ref (ad 0), .int (nI a)]) (n := 2) (Nat.le_of_ble_eq_true rfl)
  rw [lg_entry_eq]
  generalize (lg_sl ([.ref (ad 0), .int (nI a)]) ++ List.replicate (2 - (lg_sl ([.ref (ad 0), .int (nI a)])).length) Slot.unset).toArray = ls at hl ⊢
  have hl : lv_has ls 2 [(0, .ref (ad 0)), (1, .int (nI a))] := hl
  have hP : va_P (dC, dI) classes [((ad 0), .inr (0, [.ref (ad 1), .ref (ad 9), .ref (ad 12)])), ((ad 1), .inr (1, [.ref (ad 2), .ref (ad 3), .ref (ad 4), .ref (ad 5), .ref (ad 6), .ref (ad 7), .ref (ad 8), .int (nI n)])), ((ad 2), .inl (cI, 120, .inl K)), ((ad 3), .inl (cI, 120, .inl F)), ((ad 4), .inl (cI, 120, .inl S)), ((ad 5), .inl (cI, 120, .inl D)), ((ad 6), .inl (cI, 120, .inl U)), ((ad 7), .inl (cI, 120, .inl V)), ((ad 8), .inl (cL, 3840, .inr (.inl PT)))] s.heap := hP
  have hD : va_D A [((ad 0), .inr (0, [.ref (ad 1), .ref (ad 9), .ref (ad 12)])), ((ad 1), .inr (1, [.ref (ad 2), .ref (ad 3), .ref (ad 4), .ref (ad 5), .ref (ad 6), .ref (ad 7), .ref (ad 8), .int (nI n)])), ((ad 2), .inl (cI, 120, .inl K)), ((ad 3), .inl (cI, 120, .inl F)), ((ad 4), .inl (cI, 120, .inl S)), ((ad 5), .inl (cI, 120, .inl D)), ((ad 6), .inl (cI, 120, .inl U)), ((ad 7), .inl (cI, 120, .inl V)), ((ad 8), .inl (cL, 3840, .inr (.inl PT)))] := hD
  refine lv_iload_n hx hb d_LR_parameter_0 rfl (lv_at hl 1 rfl) ?_
  refine ry_callS (n := 1) (As := [.int (nI a)]) (rest := []) ⟨hx, hb, hml, hown, htb⟩ (c_LR_checkParameter l a ha) (gS mw_369 mw_370 mw_1 mc_LR_checkParameter) rfl rfl (by decide +kernel) ⟨Nat.le_of_ble_eq_true rfl, Nat.le_of_ble_eq_true rfl⟩ rfl hl.1 rfl (Nat.le_of_ble_eq_true rfl) d_LR_parameter_1 ⟨Nat.zero_le _, Nat.zero_le _⟩ (fun r_1 hr_1 => ?_)
  refine W.eq (g2 := F0 m 4 ls []) rfl ?_
  refine lv_aload_n hx hb d_LR_parameter_4 rfl (lv_at hl 0 rfl) ?_
  refine va_get (D := (dC, dI)) (ci := 0) (v := .ref (ad 1)) (C := R_LR) (T := F_LR) (N := 3) hx hb htb ul_LR hown hK hP 0 rfl rfl 0 (by decide) (htb _ mw_110) (fun _ h9 => h9) rfl d_LR_parameter_5 ?_
  refine lv_iconst (v := 1) hx hb d_LR_parameter_8 (by decide) ?_
  refine lv_iload_n hx hb d_LR_parameter_9 rfl (lv_at hl 1 rfl) ?_
  refine lv_iconst (v := (-1)) hx hb d_LR_parameter_10 (by decide) ?_
  refine wz_callV (n := 3) (wr := [((ad 0), .inr (0, [.ref (ad 1), .ref (ad 9), .ref (ad 12)]))]) (As := [.int 1, .int (nI a), .int (-1)]) (rest := []) ⟨hx, hb, hml, hown, htb⟩ (c_Lv_made l htr dC dI cI cL cZ ad K F S D U V PT n hn nd hok (1, a, 0) (row1 n ha) s.heap.size) (gV mw_231 mw_232 mw_233 mw_2 mc_Lv_made) rfl rfl (by decide +kernel) ⟨Nat.le_of_ble_eq_true rfl, Nat.le_of_ble_eq_true rfl⟩ hth hst hP hD hS hA hK [1, 2, 3, 4, 5, 6, 7, 8] [0] rfl rfl (by decide) (by decide) (hP.sub [1, 2, 3, 4, 5, 6, 7, 8] rfl) ((hD.sub [1, 2, 3, 4, 5, 6, 7, 8] (by decide) rfl).weaken (fun _ _ _ _ => trivial)) (ci := 1) (q0 := 0) rfl rfl rfl rfl hl.1 rfl (Nat.le_of_ble_eq_true rfl) d_LR_parameter_11 ⟨Nat.le_of_ble_eq_true rfl, Nat.le_of_ble_eq_true rfl⟩ (fun r u H locs hpost hP hD hS => ?_) (fun x X u H locs hpt hex hP hD hS => ?_)
  · have hP : va_P (dC, dI) classes [((ad 0), .inr (0, [.ref (ad 1), .ref (ad 9), .ref (ad 12)])), ((ad 1), .inr (1, [.ref (ad 2), .ref (ad 3), .ref (ad 4), .ref (ad 5), .ref (ad 6), .ref (ad 7), .ref (ad 8), .int (nI u.2.2.2.2.2.2)])), ((ad 2), .inl (cI, 120, .inl u.1)), ((ad 3), .inl (cI, 120, .inl u.2.1)), ((ad 4), .inl (cI, 120, .inl u.2.2.1)), ((ad 5), .inl (cI, 120, .inl u.2.2.2.1)), ((ad 6), .inl (cI, 120, .inl u.2.2.2.2.1)), ((ad 7), .inl (cI, 120, .inl V)), ((ad 8), .inl (cL, 3840, .inr (.inl u.2.2.2.2.2.1)))] H := hP
    have hD : va_D A [((ad 0), .inr (0, [.ref (ad 1), .ref (ad 9), .ref (ad 12)])), ((ad 1), .inr (1, [.ref (ad 2), .ref (ad 3), .ref (ad 4), .ref (ad 5), .ref (ad 6), .ref (ad 7), .ref (ad 8), .int (nI u.2.2.2.2.2.2)])), ((ad 2), .inl (cI, 120, .inl u.1)), ((ad 3), .inl (cI, 120, .inl u.2.1)), ((ad 4), .inl (cI, 120, .inl u.2.2.1)), ((ad 5), .inl (cI, 120, .inl u.2.2.2.1)), ((ad 6), .inl (cI, 120, .inl u.2.2.2.2.1)), ((ad 7), .inl (cI, 120, .inl V)), ((ad 8), .inl (cL, 3840, .inr (.inl u.2.2.2.2.2.1)))] := hD
    refine W.eq (g2 := F0 m 14 ls [.int r]) rfl ?_
    exact wx_ret (W.iret (v := r) hx hb hr (fun t ht hW => ⟨Or.inl ⟨r, u, rfl, hpost, by rw [ht]; exact hP, va_K.moved hW.alike hK, hD⟩, hS.F ht⟩) hS.2.2 d_LR_parameter_14)
  · exact wx_out ht0 hlocks (fun t ht hW => ⟨Or.inr ⟨x, X, u, rfl, hpt, ⟨by rw [ht]; exact hP, va_K.moved hW.alike hK, hD⟩, by obtain ⟨cell, g1, g2, g3⟩ := hex; exact ⟨cell, by rw [ht]; exact g1, g2, by rw [hW.alike.findClass]; exact g3⟩⟩, hS.F ht⟩) hS.2.2

set_option maxHeartbeats 4000000 in
set_option maxRecDepth 100000 in
theorem c0_LR_next (l : Launch) (htr : ∀ e, l.admits e → e.platform.stackTraces = false) (dC : Nat → ClassId) (dI : Nat → Nat → Nat) (cI cL cZ : ClassId) (ad : Nat → Nat) (K F S D U V : Nat → Int32) (PT : Nat → Int64) (n : Nat) (hn : n ≤ 120) (x : Int32) (hp : hs x n = 0) (sz : Nat) : wx_Met l y_LR_next (cw_LR_next :: tb) (rmH 8 1 6) (va_Pc [.ref (ad 0), .int x] (wz_P (dC, dI) classes (wLL cI cL ad K F S D U V PT n) (tyI cI cL cZ) sz)) (wx_Q ry_i (fun r (u : Unit) => False) (fun X (u : Unit) => X = "java/lang/IndexOutOfBoundsException") (wy_B (dC, dI) classes (tyI cI cL cZ) (va_A (wLL cI cL ad K F S D U V PT n) sz) (fun u : Unit => (wLL cI cL ad K F S D U V PT n))) (va_A (wLL cI cL ad K F S D U V PT n) sz)) (va_A (wLL cI cL ad K F S D U V PT n) sz) := by
  refine wx_ofW (cc := b_LR_next) (maxL := 2) (ret := (some .int)) (by decide +kernel) rfl ?_
  intro p e s m args below meth c s₁ B hml0 ht0 hv
  have C0 := cx_of B hml0 rfl
  obtain ⟨hx, hb, hr, hml, hown, htb, hlocks⟩ := id C0
  obtain ⟨rfl, ⟨hsz, hP, hK, hD0⟩, hth, hst⟩ := hv
  subst hsz
  have hD := hD0.self (sz := s.heap.size)
  generalize hAe : va_A (wLL cI cL ad K F S D U V PT n) s.heap.size = A at hD hth ⊢
  have hA : ∀ q : Nat, s.heap.size ≤ q → A q := fun q h => by rw [← hAe]; exact Or.inr h
  have hS : va_S A s.heap s.heap [] := va_S.rf
  have hl := lv_entry ([.ref (ad 0), .int x]) (n := 2) (Nat.le_of_ble_eq_true rfl)
  rw [lg_entry_eq]
  generalize (lg_sl ([.ref (ad 0), .int x]) ++ List.replicate (2 - (lg_sl ([.ref (ad 0), .int x])).length) Slot.unset).toArray = ls at hl ⊢
  have hl : lv_has ls 2 [(0, .ref (ad 0)), (1, .int x)] := hl
  have hP : va_P (dC, dI) classes [((ad 0), .inr (0, [.ref (ad 1), .ref (ad 9), .ref (ad 12)])), ((ad 1), .inr (1, [.ref (ad 2), .ref (ad 3), .ref (ad 4), .ref (ad 5), .ref (ad 6), .ref (ad 7), .ref (ad 8), .int (nI n)])), ((ad 2), .inl (cI, 120, .inl K)), ((ad 3), .inl (cI, 120, .inl F)), ((ad 4), .inl (cI, 120, .inl S)), ((ad 5), .inl (cI, 120, .inl D)), ((ad 6), .inl (cI, 120, .inl U)), ((ad 7), .inl (cI, 120, .inl V)), ((ad 8), .inl (cL, 3840, .inr (.inl PT)))] s.heap := hP
  have hD : va_D A [((ad 0), .inr (0, [.ref (ad 1), .ref (ad 9), .ref (ad 12)])), ((ad 1), .inr (1, [.ref (ad 2), .ref (ad 3), .ref (ad 4), .ref (ad 5), .ref (ad 6), .ref (ad 7), .ref (ad 8), .int (nI n)])), ((ad 2), .inl (cI, 120, .inl K)), ((ad 3), .inl (cI, 120, .inl F)), ((ad 4), .inl (cI, 120, .inl S)), ((ad 5), .inl (cI, 120, .inl D)), ((ad 6), .inl (cI, 120, .inl U)), ((ad 7), .inl (cI, 120, .inl V)), ((ad 8), .inl (cL, 3840, .inr (.inl PT)))] := hD
  refine lv_aload_n hx hb d_LR_next_0 rfl (lv_at hl 0 rfl) ?_
  refine lv_iload_n hx hb d_LR_next_1 rfl (lv_at hl 1 rfl) ?_
  refine wz_callV (n := 1) (wr := []) (As := [.int x]) (rest := []) ⟨hx, hb, hml, hown, htb⟩ (c0_LR_checkLevel l htr dC dI cI cL cZ ad K F S D U V PT n hn x hp s.heap.size) (gV mw_396 mw_398 mp_13 mw_1 mc_LR_checkLevel) rfl rfl (by decide +kernel) ⟨Nat.le_of_ble_eq_true rfl, Nat.le_of_ble_eq_true rfl⟩ hth hst hP hD hS hA hK [0, 1, 2, 3, 4, 5, 6, 7, 8] [] rfl rfl (by decide) (by decide) (hP.sub [0, 1, 2, 3, 4, 5, 6, 7, 8] rfl) ((hD.sub [0, 1, 2, 3, 4, 5, 6, 7, 8] (by decide) rfl).weaken (fun _ _ _ _ => trivial)) (ci := 0) (q0 := 0) rfl rfl rfl rfl hl.1 rfl (Nat.le_of_ble_eq_true rfl) d_LR_next_2 ⟨Nat.le_of_ble_eq_true rfl, Nat.le_of_ble_eq_true rfl⟩ (fun r u H locs hpost hP hD hS => ?_) (fun x X u H locs hpt hex hP hD hS => ?_)
  · exact hpost.elim
  · exact wx_out ht0 hlocks (fun t ht hW => ⟨Or.inr ⟨x, X, (), rfl, hpt, ⟨by rw [ht]; exact hP, va_K.moved hW.alike hK, hD⟩, by obtain ⟨cell, g1, g2, g3⟩ := hex; exact ⟨cell, by rw [ht]; exact g1, g2, by rw [hW.alike.findClass]; exact g3⟩⟩, hS.F ht⟩) hS.2.2

set_option maxHeartbeats 4000000 in
set_option maxRecDepth 100000 in
theorem c_LR_next (l : Launch) (htr : ∀ e, l.admits e → e.platform.stackTraces = false) (dC : Nat → ClassId) (dI : Nat → Nat → Nat) (cI cL cZ : ClassId) (ad : Nat → Nat) (K F S D U V : Nat → Int32) (PT : Nat → Int64) (n : Nat) (hn : n ≤ 120) (nd : Nat → Nat × Nat × Nat) (hok : LvOk nd n K F S D U PT) (a : Nat) (ha : a < n) (hp : hs (nI a) n = 1) (sz : Nat) : wx_Met l y_LR_next (cw_LR_next :: tb) (rmH 8 1 6) (va_Pc [.ref (ad 0), .int (nI a)] (wz_P (dC, dI) classes (wLL cI cL ad K F S D U V PT n) (tyI cI cL cZ) sz)) (wx_Q ry_i (fun r (u : LvS) => ∃ nd', mkd nd n (2, a, 0) r nd' u.2.2.2.2.2.2 ∧ LvU nd' u) (fun X (u : LvS) => LvU nd u ∧ u.2.2.2.2.2.2 = n ∧ mkx nd n (2, a, 0) X) (wy_B (dC, dI) classes (tyI cI cL cZ) (va_A (wLL cI cL ad K F S D U V PT n) sz) (fun u : LvS => wLL cI cL ad u.1 u.2.1 u.2.2.1 u.2.2.2.1 u.2.2.2.2.1 V u.2.2.2.2.2.1 u.2.2.2.2.2.2)) (va_A (wLL cI cL ad K F S D U V PT n) sz)) (va_A (wLL cI cL ad K F S D U V PT n) sz) := by
  refine wx_ofW (cc := b_LR_next) (maxL := 2) (ret := (some .int)) (by decide +kernel) rfl ?_
  intro p e s m args below meth c s₁ B hml0 ht0 hv
  have C0 := cx_of B hml0 rfl
  obtain ⟨hx, hb, hr, hml, hown, htb, hlocks⟩ := id C0
  obtain ⟨rfl, ⟨hsz, hP, hK, hD0⟩, hth, hst⟩ := hv
  subst hsz
  have hD := hD0.self (sz := s.heap.size)
  generalize hAe : va_A (wLL cI cL ad K F S D U V PT n) s.heap.size = A at hD hth ⊢
  have hA : ∀ q : Nat, s.heap.size ≤ q → A q := fun q h => by rw [← hAe]; exact Or.inr h
  have hS : va_S A s.heap s.heap [] := va_S.rf
  have hl := lv_entry ([.ref (ad 0), .int (nI a)]) (n := 2) (Nat.le_of_ble_eq_true rfl)
  rw [lg_entry_eq]
  generalize (lg_sl ([.ref (ad 0), .int (nI a)]) ++ List.replicate (2 - (lg_sl ([.ref (ad 0), .int (nI a)])).length) Slot.unset).toArray = ls at hl ⊢
  have hl : lv_has ls 2 [(0, .ref (ad 0)), (1, .int (nI a))] := hl
  have hP : va_P (dC, dI) classes [((ad 0), .inr (0, [.ref (ad 1), .ref (ad 9), .ref (ad 12)])), ((ad 1), .inr (1, [.ref (ad 2), .ref (ad 3), .ref (ad 4), .ref (ad 5), .ref (ad 6), .ref (ad 7), .ref (ad 8), .int (nI n)])), ((ad 2), .inl (cI, 120, .inl K)), ((ad 3), .inl (cI, 120, .inl F)), ((ad 4), .inl (cI, 120, .inl S)), ((ad 5), .inl (cI, 120, .inl D)), ((ad 6), .inl (cI, 120, .inl U)), ((ad 7), .inl (cI, 120, .inl V)), ((ad 8), .inl (cL, 3840, .inr (.inl PT)))] s.heap := hP
  have hD : va_D A [((ad 0), .inr (0, [.ref (ad 1), .ref (ad 9), .ref (ad 12)])), ((ad 1), .inr (1, [.ref (ad 2), .ref (ad 3), .ref (ad 4), .ref (ad 5), .ref (ad 6), .ref (ad 7), .ref (ad 8), .int (nI n)])), ((ad 2), .inl (cI, 120, .inl K)), ((ad 3), .inl (cI, 120, .inl F)), ((ad 4), .inl (cI, 120, .inl S)), ((ad 5), .inl (cI, 120, .inl D)), ((ad 6), .inl (cI, 120, .inl U)), ((ad 7), .inl (cI, 120, .inl V)), ((ad 8), .inl (cL, 3840, .inr (.inl PT)))] := hD
  refine lv_aload_n hx hb d_LR_next_0 rfl (lv_at hl 0 rfl) ?_
  refine lv_iload_n hx hb d_LR_next_1 rfl (lv_at hl 1 rfl) ?_
  refine ry_callV (n := 1) (As := [.int (nI a)]) (rest := []) ⟨hx, hb, hml, hown, htb⟩ (c_LR_checkLevel l dC dI cI cL cZ ad K F S D U V PT n hn (nI a) hp) (gV mw_396 mw_398 mp_13 mw_1 mc_LR_checkLevel) rfl rfl (by decide +kernel) ⟨Nat.le_of_ble_eq_true rfl, Nat.le_of_ble_eq_true rfl⟩ hP hK (ci := 0) (q0 := 0) rfl rfl rfl rfl hl.1 rfl (Nat.le_of_ble_eq_true rfl) d_LR_next_2 ⟨Nat.zero_le _, Nat.zero_le _⟩ (fun r_1 hr_1 => ?_)
  refine W.eq (g2 := F0 m 5 ls []) rfl ?_
  refine lv_aload_n hx hb d_LR_next_5 rfl (lv_at hl 0 rfl) ?_
  refine va_get (D := (dC, dI)) (ci := 0) (v := .ref (ad 1)) (C := R_LR) (T := F_LR) (N := 3) hx hb htb ul_LR hown hK hP 0 rfl rfl 0 (by decide) (htb _ mw_110) (fun _ h9 => h9) rfl d_LR_next_6 ?_
  refine lv_iconst (v := 2) hx hb d_LR_next_9 (by decide) ?_
  refine lv_iload_n hx hb d_LR_next_10 rfl (lv_at hl 1 rfl) ?_
  refine lv_iconst (v := (-1)) hx hb d_LR_next_11 (by decide) ?_
  refine wz_callV (n := 3) (wr := [((ad 0), .inr (0, [.ref (ad 1), .ref (ad 9), .ref (ad 12)]))]) (As := [.int 2, .int (nI a), .int (-1)]) (rest := []) ⟨hx, hb, hml, hown, htb⟩ (c_Lv_made l htr dC dI cI cL cZ ad K F S D U V PT n hn nd hok (2, a, 0) (row2 n ha) s.heap.size) (gV mw_231 mw_232 mw_233 mw_2 mc_Lv_made) rfl rfl (by decide +kernel) ⟨Nat.le_of_ble_eq_true rfl, Nat.le_of_ble_eq_true rfl⟩ hth hst hP hD hS hA hK [1, 2, 3, 4, 5, 6, 7, 8] [0] rfl rfl (by decide) (by decide) (hP.sub [1, 2, 3, 4, 5, 6, 7, 8] rfl) ((hD.sub [1, 2, 3, 4, 5, 6, 7, 8] (by decide) rfl).weaken (fun _ _ _ _ => trivial)) (ci := 1) (q0 := 0) rfl rfl rfl rfl hl.1 rfl (Nat.le_of_ble_eq_true rfl) d_LR_next_12 ⟨Nat.le_of_ble_eq_true rfl, Nat.le_of_ble_eq_true rfl⟩ (fun r u H locs hpost hP hD hS => ?_) (fun x X u H locs hpt hex hP hD hS => ?_)
  · have hP : va_P (dC, dI) classes [((ad 0), .inr (0, [.ref (ad 1), .ref (ad 9), .ref (ad 12)])), ((ad 1), .inr (1, [.ref (ad 2), .ref (ad 3), .ref (ad 4), .ref (ad 5), .ref (ad 6), .ref (ad 7), .ref (ad 8), .int (nI u.2.2.2.2.2.2)])), ((ad 2), .inl (cI, 120, .inl u.1)), ((ad 3), .inl (cI, 120, .inl u.2.1)), ((ad 4), .inl (cI, 120, .inl u.2.2.1)), ((ad 5), .inl (cI, 120, .inl u.2.2.2.1)), ((ad 6), .inl (cI, 120, .inl u.2.2.2.2.1)), ((ad 7), .inl (cI, 120, .inl V)), ((ad 8), .inl (cL, 3840, .inr (.inl u.2.2.2.2.2.1)))] H := hP
    have hD : va_D A [((ad 0), .inr (0, [.ref (ad 1), .ref (ad 9), .ref (ad 12)])), ((ad 1), .inr (1, [.ref (ad 2), .ref (ad 3), .ref (ad 4), .ref (ad 5), .ref (ad 6), .ref (ad 7), .ref (ad 8), .int (nI u.2.2.2.2.2.2)])), ((ad 2), .inl (cI, 120, .inl u.1)), ((ad 3), .inl (cI, 120, .inl u.2.1)), ((ad 4), .inl (cI, 120, .inl u.2.2.1)), ((ad 5), .inl (cI, 120, .inl u.2.2.2.1)), ((ad 6), .inl (cI, 120, .inl u.2.2.2.2.1)), ((ad 7), .inl (cI, 120, .inl V)), ((ad 8), .inl (cL, 3840, .inr (.inl u.2.2.2.2.2.1)))] := hD
    refine W.eq (g2 := F0 m 15 ls [.int r]) rfl ?_
    exact wx_ret (W.iret (v := r) hx hb hr (fun t ht hW => ⟨Or.inl ⟨r, u, rfl, hpost, by rw [ht]; exact hP, va_K.moved hW.alike hK, hD⟩, hS.F ht⟩) hS.2.2 d_LR_next_15)
  · exact wx_out ht0 hlocks (fun t ht hW => ⟨Or.inr ⟨x, X, u, rfl, hpt, ⟨by rw [ht]; exact hP, va_K.moved hW.alike hK, hD⟩, by obtain ⟨cell, g1, g2, g3⟩ := hex; exact ⟨cell, by rw [ht]; exact g1, g2, by rw [hW.alike.findClass]; exact g3⟩⟩, hS.F ht⟩) hS.2.2

set_option maxHeartbeats 4000000 in
set_option maxRecDepth 100000 in
theorem c0_LR_join (l : Launch) (htr : ∀ e, l.admits e → e.platform.stackTraces = false) (dC : Nat → ClassId) (dI : Nat → Nat → Nat) (cI cL cZ : ClassId) (ad : Nat → Nat) (K F S D U V : Nat → Int32) (PT : Nat → Int64) (n : Nat) (hn : n ≤ 120) (x y z : Int32) (hp : hs x n = 0) (sz : Nat) : wx_Met l y_LR_join (cw_LR_join :: tb) (rmH 8 1 6) (va_Pc [.ref (ad 0), .int x, .int y, .int z] (wz_P (dC, dI) classes (wLL cI cL ad K F S D U V PT n) (tyI cI cL cZ) sz)) (wx_Q ry_i (fun r (u : Unit) => False) (fun X (u : Unit) => X = "java/lang/IndexOutOfBoundsException") (wy_B (dC, dI) classes (tyI cI cL cZ) (va_A (wLL cI cL ad K F S D U V PT n) sz) (fun u : Unit => (wLL cI cL ad K F S D U V PT n))) (va_A (wLL cI cL ad K F S D U V PT n) sz)) (va_A (wLL cI cL ad K F S D U V PT n) sz) := by
  refine wx_ofW (cc := b_LR_join) (maxL := 4) (ret := (some .int)) (by decide +kernel) rfl ?_
  intro p e s m args below meth c s₁ B hml0 ht0 hv
  have C0 := cx_of B hml0 rfl
  obtain ⟨hx, hb, hr, hml, hown, htb, hlocks⟩ := id C0
  obtain ⟨rfl, ⟨hsz, hP, hK, hD0⟩, hth, hst⟩ := hv
  subst hsz
  have hD := hD0.self (sz := s.heap.size)
  generalize hAe : va_A (wLL cI cL ad K F S D U V PT n) s.heap.size = A at hD hth ⊢
  have hA : ∀ q : Nat, s.heap.size ≤ q → A q := fun q h => by rw [← hAe]; exact Or.inr h
  have hS : va_S A s.heap s.heap [] := va_S.rf
  have hl := lv_entry ([.ref (ad 0), .int x, .int y, .int z]) (n := 4) (Nat.le_of_ble_eq_true rfl)
  rw [lg_entry_eq]
  generalize (lg_sl ([.ref (ad 0), .int x, .int y, .int z]) ++ List.replicate (4 - (lg_sl ([.ref (ad 0), .int x, .int y, .int z])).length) Slot.unset).toArray = ls at hl ⊢
  have hl : lv_has ls 4 [(0, .ref (ad 0)), (1, .int x), (2, .int y), (3, .int z)] := hl
  have hP : va_P (dC, dI) classes [((ad 0), .inr (0, [.ref (ad 1), .ref (ad 9), .ref (ad 12)])), ((ad 1), .inr (1, [.ref (ad 2), .ref (ad 3), .ref (ad 4), .ref (ad 5), .ref (ad 6), .ref (ad 7), .ref (ad 8), .int (nI n)])), ((ad 2), .inl (cI, 120, .inl K)), ((ad 3), .inl (cI, 120, .inl F)), ((ad 4), .inl (cI, 120, .inl S)), ((ad 5), .inl (cI, 120, .inl D)), ((ad 6), .inl (cI, 120, .inl U)), ((ad 7), .inl (cI, 120, .inl V)), ((ad 8), .inl (cL, 3840, .inr (.inl PT)))] s.heap := hP
  have hD : va_D A [((ad 0), .inr (0, [.ref (ad 1), .ref (ad 9), .ref (ad 12)])), ((ad 1), .inr (1, [.ref (ad 2), .ref (ad 3), .ref (ad 4), .ref (ad 5), .ref (ad 6), .ref (ad 7), .ref (ad 8), .int (nI n)])), ((ad 2), .inl (cI, 120, .inl K)), ((ad 3), .inl (cI, 120, .inl F)), ((ad 4), .inl (cI, 120, .inl S)), ((ad 5), .inl (cI, 120, .inl D)), ((ad 6), .inl (cI, 120, .inl U)), ((ad 7), .inl (cI, 120, .inl V)), ((ad 8), .inl (cL, 3840, .inr (.inl PT)))] := hD
  refine lv_aload_n hx hb d_LR_join_0 rfl (lv_at hl 0 rfl) ?_
  refine lv_iload_n hx hb d_LR_join_1 rfl (lv_at hl 1 rfl) ?_
  refine wz_callV (n := 1) (wr := []) (As := [.int x]) (rest := []) ⟨hx, hb, hml, hown, htb⟩ (c0_LR_checkLevel l htr dC dI cI cL cZ ad K F S D U V PT n hn x hp s.heap.size) (gV mw_396 mw_398 mp_13 mw_1 mc_LR_checkLevel) rfl rfl (by decide +kernel) ⟨Nat.le_of_ble_eq_true rfl, Nat.le_of_ble_eq_true rfl⟩ hth hst hP hD hS hA hK [0, 1, 2, 3, 4, 5, 6, 7, 8] [] rfl rfl (by decide) (by decide) (hP.sub [0, 1, 2, 3, 4, 5, 6, 7, 8] rfl) ((hD.sub [0, 1, 2, 3, 4, 5, 6, 7, 8] (by decide) rfl).weaken (fun _ _ _ _ => trivial)) (ci := 0) (q0 := 0) rfl rfl rfl rfl hl.1 rfl (Nat.le_of_ble_eq_true rfl) d_LR_join_2 ⟨Nat.le_of_ble_eq_true rfl, Nat.le_of_ble_eq_true rfl⟩ (fun r u H locs hpost hP hD hS => ?_) (fun x X u H locs hpt hex hP hD hS => ?_)
  · exact hpost.elim
  · exact wx_out ht0 hlocks (fun t ht hW => ⟨Or.inr ⟨x, X, (), rfl, hpt, ⟨by rw [ht]; exact hP, va_K.moved hW.alike hK, hD⟩, by obtain ⟨cell, g1, g2, g3⟩ := hex; exact ⟨cell, by rw [ht]; exact g1, g2, by rw [hW.alike.findClass]; exact g3⟩⟩, hS.F ht⟩) hS.2.2

set_option maxHeartbeats 4000000 in
set_option maxRecDepth 100000 in
theorem c1_LR_join (l : Launch) (htr : ∀ e, l.admits e → e.platform.stackTraces = false) (dC : Nat → ClassId) (dI : Nat → Nat → Nat) (cI cL cZ : ClassId) (ad : Nat → Nat) (K F S D U V : Nat → Int32) (PT : Nat → Int64) (n : Nat) (hn : n ≤ 120) (x y z : Int32) (hp : hs x n = 1) (hp2 : hs y n = 0) (sz : Nat) : wx_Met l y_LR_join (cw_LR_join :: tb) (rmH 8 1 6) (va_Pc [.ref (ad 0), .int x, .int y, .int z] (wz_P (dC, dI) classes (wLL cI cL ad K F S D U V PT n) (tyI cI cL cZ) sz)) (wx_Q ry_i (fun r (u : Unit) => False) (fun X (u : Unit) => X = "java/lang/IndexOutOfBoundsException") (wy_B (dC, dI) classes (tyI cI cL cZ) (va_A (wLL cI cL ad K F S D U V PT n) sz) (fun u : Unit => (wLL cI cL ad K F S D U V PT n))) (va_A (wLL cI cL ad K F S D U V PT n) sz)) (va_A (wLL cI cL ad K F S D U V PT n) sz) := by
  refine wx_ofW (cc := b_LR_join) (maxL := 4) (ret := (some .int)) (by decide +kernel) rfl ?_
  intro p e s m args below meth c s₁ B hml0 ht0 hv
  have C0 := cx_of B hml0 rfl
  obtain ⟨hx, hb, hr, hml, hown, htb, hlocks⟩ := id C0
  obtain ⟨rfl, ⟨hsz, hP, hK, hD0⟩, hth, hst⟩ := hv
  subst hsz
  have hD := hD0.self (sz := s.heap.size)
  generalize hAe : va_A (wLL cI cL ad K F S D U V PT n) s.heap.size = A at hD hth ⊢
  have hA : ∀ q : Nat, s.heap.size ≤ q → A q := fun q h => by rw [← hAe]; exact Or.inr h
  have hS : va_S A s.heap s.heap [] := va_S.rf
  have hl := lv_entry ([.ref (ad 0), .int x, .int y, .int z]) (n := 4) (Nat.le_of_ble_eq_true rfl)
  rw [lg_entry_eq]
  generalize (lg_sl ([.ref (ad 0), .int x, .int y, .int z]) ++ List.replicate (4 - (lg_sl ([.ref (ad 0), .int x, .int y, .int z])).length) Slot.unset).toArray = ls at hl ⊢
  have hl : lv_has ls 4 [(0, .ref (ad 0)), (1, .int x), (2, .int y), (3, .int z)] := hl
  have hP : va_P (dC, dI) classes [((ad 0), .inr (0, [.ref (ad 1), .ref (ad 9), .ref (ad 12)])), ((ad 1), .inr (1, [.ref (ad 2), .ref (ad 3), .ref (ad 4), .ref (ad 5), .ref (ad 6), .ref (ad 7), .ref (ad 8), .int (nI n)])), ((ad 2), .inl (cI, 120, .inl K)), ((ad 3), .inl (cI, 120, .inl F)), ((ad 4), .inl (cI, 120, .inl S)), ((ad 5), .inl (cI, 120, .inl D)), ((ad 6), .inl (cI, 120, .inl U)), ((ad 7), .inl (cI, 120, .inl V)), ((ad 8), .inl (cL, 3840, .inr (.inl PT)))] s.heap := hP
  have hD : va_D A [((ad 0), .inr (0, [.ref (ad 1), .ref (ad 9), .ref (ad 12)])), ((ad 1), .inr (1, [.ref (ad 2), .ref (ad 3), .ref (ad 4), .ref (ad 5), .ref (ad 6), .ref (ad 7), .ref (ad 8), .int (nI n)])), ((ad 2), .inl (cI, 120, .inl K)), ((ad 3), .inl (cI, 120, .inl F)), ((ad 4), .inl (cI, 120, .inl S)), ((ad 5), .inl (cI, 120, .inl D)), ((ad 6), .inl (cI, 120, .inl U)), ((ad 7), .inl (cI, 120, .inl V)), ((ad 8), .inl (cL, 3840, .inr (.inl PT)))] := hD
  refine lv_aload_n hx hb d_LR_join_0 rfl (lv_at hl 0 rfl) ?_
  refine lv_iload_n hx hb d_LR_join_1 rfl (lv_at hl 1 rfl) ?_
  refine ry_callV (n := 1) (As := [.int x]) (rest := []) ⟨hx, hb, hml, hown, htb⟩ (c_LR_checkLevel l dC dI cI cL cZ ad K F S D U V PT n hn x hp) (gV mw_396 mw_398 mp_13 mw_1 mc_LR_checkLevel) rfl rfl (by decide +kernel) ⟨Nat.le_of_ble_eq_true rfl, Nat.le_of_ble_eq_true rfl⟩ hP hK (ci := 0) (q0 := 0) rfl rfl rfl rfl hl.1 rfl (Nat.le_of_ble_eq_true rfl) d_LR_join_2 ⟨Nat.zero_le _, Nat.zero_le _⟩ (fun r_1 hr_1 => ?_)
  refine W.eq (g2 := F0 m 5 ls []) rfl ?_
  refine lv_aload_n hx hb d_LR_join_5 rfl (lv_at hl 0 rfl) ?_
  refine lv_iload_n hx hb d_LR_join_6 rfl (lv_at hl 2 rfl) ?_
  refine wz_callV (n := 1) (wr := []) (As := [.int y]) (rest := []) ⟨hx, hb, hml, hown, htb⟩ (c0_LR_checkLevel l htr dC dI cI cL cZ ad K F S D U V PT n hn y hp2 s.heap.size) (gV mw_396 mw_398 mp_13 mw_1 mc_LR_checkLevel) rfl rfl (by decide +kernel) ⟨Nat.le_of_ble_eq_true rfl, Nat.le_of_ble_eq_true rfl⟩ hth hst hP hD hS hA hK [0, 1, 2, 3, 4, 5, 6, 7, 8] [] rfl rfl (by decide) (by decide) (hP.sub [0, 1, 2, 3, 4, 5, 6, 7, 8] rfl) ((hD.sub [0, 1, 2, 3, 4, 5, 6, 7, 8] (by decide) rfl).weaken (fun _ _ _ _ => trivial)) (ci := 0) (q0 := 0) rfl rfl rfl rfl hl.1 rfl (Nat.le_of_ble_eq_true rfl) d_LR_join_7 ⟨Nat.le_of_ble_eq_true rfl, Nat.le_of_ble_eq_true rfl⟩ (fun r u H locs hpost hP hD hS => ?_) (fun x X u H locs hpt hex hP hD hS => ?_)
  · exact hpost.elim
  · exact wx_out ht0 hlocks (fun t ht hW => ⟨Or.inr ⟨x, X, (), rfl, hpt, ⟨by rw [ht]; exact hP, va_K.moved hW.alike hK, hD⟩, by obtain ⟨cell, g1, g2, g3⟩ := hex; exact ⟨cell, by rw [ht]; exact g1, g2, by rw [hW.alike.findClass]; exact g3⟩⟩, hS.F ht⟩) hS.2.2

set_option maxHeartbeats 4000000 in
set_option maxRecDepth 100000 in
theorem c4_LR_join (l : Launch) (htr : ∀ e, l.admits e → e.platform.stackTraces = false) (dC : Nat → ClassId) (dI : Nat → Nat → Nat) (cI cL cZ : ClassId) (ad : Nat → Nat) (K F S D U V : Nat → Int32) (PT : Nat → Int64) (n : Nat) (hn : n ≤ 120) (nd : Nat → Nat × Nat × Nat) (hok : LvOk nd n K F S D U PT) (a b : Nat) (ha : a < n) (hb1 : b < n) (hp : hs (nI a) n = 1) (hp2 : hs (nI b) n = 1) (z : Int32) (hz : ¬ z = 0) (sz : Nat) : wx_Met l y_LR_join (cw_LR_join :: tb) (rmH 8 1 6) (va_Pc [.ref (ad 0), .int (nI a), .int (nI b), .int z] (wz_P (dC, dI) classes (wLL cI cL ad K F S D U V PT n) (tyI cI cL cZ) sz)) (wx_Q ry_i (fun r (u : LvS) => ∃ nd', mkd nd n (4, a, b) r nd' u.2.2.2.2.2.2 ∧ LvU nd' u) (fun X (u : LvS) => LvU nd u ∧ u.2.2.2.2.2.2 = n ∧ mkx nd n (4, a, b) X) (wy_B (dC, dI) classes (tyI cI cL cZ) (va_A (wLL cI cL ad K F S D U V PT n) sz) (fun u : LvS => wLL cI cL ad u.1 u.2.1 u.2.2.1 u.2.2.2.1 u.2.2.2.2.1 V u.2.2.2.2.2.1 u.2.2.2.2.2.2)) (va_A (wLL cI cL ad K F S D U V PT n) sz)) (va_A (wLL cI cL ad K F S D U V PT n) sz) := by
  refine wx_ofW (cc := b_LR_join) (maxL := 4) (ret := (some .int)) (by decide +kernel) rfl ?_
  intro p e s m args below meth c s₁ B hml0 ht0 hv
  have C0 := cx_of B hml0 rfl
  obtain ⟨hx, hb, hr, hml, hown, htb, hlocks⟩ := id C0
  obtain ⟨rfl, ⟨hsz, hP, hK, hD0⟩, hth, hst⟩ := hv
  subst hsz
  have hD := hD0.self (sz := s.heap.size)
  generalize hAe : va_A (wLL cI cL ad K F S D U V PT n) s.heap.size = A at hD hth ⊢
  have hA : ∀ q : Nat, s.heap.size ≤ q → A q := fun q h => by rw [← hAe]; exact Or.inr h
  have hS : va_S A s.heap s.heap [] := va_S.rf
  have hl := lv_entry ([.ref (ad 0), .int (nI a), .int (nI b), .int z]) (n := 4) (Nat.le_of_ble_eq_true rfl)
  rw [lg_entry_eq]
  generalize (lg_sl ([.ref (ad 0), .int (nI a), .int (nI b), .int z]) ++ List.replicate (4 - (lg_sl ([.ref (ad 0), .int (nI a), .int (nI b), .int z])).length) Slot.unset).toArray = ls at hl ⊢
  have hl : lv_has ls 4 [(0, .ref (ad 0)), (1, .int (nI a)), (2, .int (nI b)), (3, .int z)] := hl
  have hP : va_P (dC, dI) classes [((ad 0), .inr (0, [.ref (ad 1), .ref (ad 9), .ref (ad 12)])), ((ad 1), .inr (1, [.ref (ad 2), .ref (ad 3), .ref (ad 4), .ref (ad 5), .ref (ad 6), .ref (ad 7), .ref (ad 8), .int (nI n)])), ((ad 2), .inl (cI, 120, .inl K)), ((ad 3), .inl (cI, 120, .inl F)), ((ad 4), .inl (cI, 120, .inl S)), ((ad 5), .inl (cI, 120, .inl D)), ((ad 6), .inl (cI, 120, .inl U)), ((ad 7), .inl (cI, 120, .inl V)), ((ad 8), .inl (cL, 3840, .inr (.inl PT)))] s.heap := hP
  have hD : va_D A [((ad 0), .inr (0, [.ref (ad 1), .ref (ad 9), .ref (ad 12)])), ((ad 1), .inr (1, [.ref (ad 2), .ref (ad 3), .ref (ad 4), .ref (ad 5), .ref (ad 6), .ref (ad 7), .ref (ad 8), .int (nI n)])), ((ad 2), .inl (cI, 120, .inl K)), ((ad 3), .inl (cI, 120, .inl F)), ((ad 4), .inl (cI, 120, .inl S)), ((ad 5), .inl (cI, 120, .inl D)), ((ad 6), .inl (cI, 120, .inl U)), ((ad 7), .inl (cI, 120, .inl V)), ((ad 8), .inl (cL, 3840, .inr (.inl PT)))] := hD
  refine lv_aload_n hx hb d_LR_join_0 rfl (lv_at hl 0 rfl) ?_
  refine lv_iload_n hx hb d_LR_join_1 rfl (lv_at hl 1 rfl) ?_
  refine ry_callV (n := 1) (As := [.int (nI a)]) (rest := []) ⟨hx, hb, hml, hown, htb⟩ (c_LR_checkLevel l dC dI cI cL cZ ad K F S D U V PT n hn (nI a) hp) (gV mw_396 mw_398 mp_13 mw_1 mc_LR_checkLevel) rfl rfl (by decide +kernel) ⟨Nat.le_of_ble_eq_true rfl, Nat.le_of_ble_eq_true rfl⟩ hP hK (ci := 0) (q0 := 0) rfl rfl rfl rfl hl.1 rfl (Nat.le_of_ble_eq_true rfl) d_LR_join_2 ⟨Nat.zero_le _, Nat.zero_le _⟩ (fun r_1 hr_1 => ?_)
  refine W.eq (g2 := F0 m 5 ls []) rfl ?_
  refine lv_aload_n hx hb d_LR_join_5 rfl (lv_at hl 0 rfl) ?_
  refine lv_iload_n hx hb d_LR_join_6 rfl (lv_at hl 2 rfl) ?_
  refine ry_callV (n := 1) (As := [.int (nI b)]) (rest := []) ⟨hx, hb, hml, hown, htb⟩ (c_LR_checkLevel l dC dI cI cL cZ ad K F S D U V PT n hn (nI b) hp2) (gV mw_396 mw_398 mp_13 mw_1 mc_LR_checkLevel) rfl rfl (by decide +kernel) ⟨Nat.le_of_ble_eq_true rfl, Nat.le_of_ble_eq_true rfl⟩ hP hK (ci := 0) (q0 := 0) rfl rfl rfl rfl hl.1 rfl (Nat.le_of_ble_eq_true rfl) d_LR_join_7 ⟨Nat.zero_le _, Nat.zero_le _⟩ (fun r_2 hr_2 => ?_)
  refine W.eq (g2 := F0 m 10 ls []) rfl ?_
  refine lv_aload_n hx hb d_LR_join_10 rfl (lv_at hl 0 rfl) ?_
  refine va_get (D := (dC, dI)) (ci := 0) (v := .ref (ad 1)) (C := R_LR) (T := F_LR) (N := 3) hx hb htb ul_LR hown hK hP 0 rfl rfl 0 (by decide) (htb _ mw_110) (fun _ h9 => h9) rfl d_LR_join_11 ?_
  refine lv_iload_n hx hb d_LR_join_14 rfl (lv_at hl 3 rfl) ?_
  refine lv_if_eq (tgt := 22) hx hb d_LR_join_15 (by decide) (fun c_15 => ?_) (fun c_15 => ?_)
  · exact absurd c_15 hz
  · refine lv_iconst (v := 4) hx hb d_LR_join_18 (by decide) ?_
    refine lv_goto (tgt := 23) hx hb d_LR_join_19 (by decide) ?_
    refine lv_iload_n hx hb d_LR_join_23 rfl (lv_at hl 1 rfl) ?_
    refine lv_iload_n hx hb d_LR_join_24 rfl (lv_at hl 2 rfl) ?_
    refine wz_callV (n := 3) (wr := [((ad 0), .inr (0, [.ref (ad 1), .ref (ad 9), .ref (ad 12)]))]) (As := [.int 4, .int (nI a), .int (nI b)]) (rest := []) ⟨hx, hb, hml, hown, htb⟩ (c_Lv_made l htr dC dI cI cL cZ ad K F S D U V PT n hn nd hok (4, a, b) (row4 n ha hb1) s.heap.size) (gV mw_231 mw_232 mw_233 mw_2 mc_Lv_made) rfl rfl (by decide +kernel) ⟨Nat.le_of_ble_eq_true rfl, Nat.le_of_ble_eq_true rfl⟩ hth hst hP hD hS hA hK [1, 2, 3, 4, 5, 6, 7, 8] [0] rfl rfl (by decide) (by decide) (hP.sub [1, 2, 3, 4, 5, 6, 7, 8] rfl) ((hD.sub [1, 2, 3, 4, 5, 6, 7, 8] (by decide) rfl).weaken (fun _ _ _ _ => trivial)) (ci := 1) (q0 := 0) rfl rfl rfl rfl hl.1 rfl (Nat.le_of_ble_eq_true rfl) d_LR_join_25 ⟨Nat.le_of_ble_eq_true rfl, Nat.le_of_ble_eq_true rfl⟩ (fun r u H locs hpost hP hD hS => ?_) (fun x X u H locs hpt hex hP hD hS => ?_)
    · have hP : va_P (dC, dI) classes [((ad 0), .inr (0, [.ref (ad 1), .ref (ad 9), .ref (ad 12)])), ((ad 1), .inr (1, [.ref (ad 2), .ref (ad 3), .ref (ad 4), .ref (ad 5), .ref (ad 6), .ref (ad 7), .ref (ad 8), .int (nI u.2.2.2.2.2.2)])), ((ad 2), .inl (cI, 120, .inl u.1)), ((ad 3), .inl (cI, 120, .inl u.2.1)), ((ad 4), .inl (cI, 120, .inl u.2.2.1)), ((ad 5), .inl (cI, 120, .inl u.2.2.2.1)), ((ad 6), .inl (cI, 120, .inl u.2.2.2.2.1)), ((ad 7), .inl (cI, 120, .inl V)), ((ad 8), .inl (cL, 3840, .inr (.inl u.2.2.2.2.2.1)))] H := hP
      have hD : va_D A [((ad 0), .inr (0, [.ref (ad 1), .ref (ad 9), .ref (ad 12)])), ((ad 1), .inr (1, [.ref (ad 2), .ref (ad 3), .ref (ad 4), .ref (ad 5), .ref (ad 6), .ref (ad 7), .ref (ad 8), .int (nI u.2.2.2.2.2.2)])), ((ad 2), .inl (cI, 120, .inl u.1)), ((ad 3), .inl (cI, 120, .inl u.2.1)), ((ad 4), .inl (cI, 120, .inl u.2.2.1)), ((ad 5), .inl (cI, 120, .inl u.2.2.2.1)), ((ad 6), .inl (cI, 120, .inl u.2.2.2.2.1)), ((ad 7), .inl (cI, 120, .inl V)), ((ad 8), .inl (cL, 3840, .inr (.inl u.2.2.2.2.2.1)))] := hD
      refine W.eq (g2 := F0 m 28 ls [.int r]) rfl ?_
      exact wx_ret (W.iret (v := r) hx hb hr (fun t ht hW => ⟨Or.inl ⟨r, u, rfl, hpost, by rw [ht]; exact hP, va_K.moved hW.alike hK, hD⟩, hS.F ht⟩) hS.2.2 d_LR_join_28)
    · exact wx_out ht0 hlocks (fun t ht hW => ⟨Or.inr ⟨x, X, u, rfl, hpt, ⟨by rw [ht]; exact hP, va_K.moved hW.alike hK, hD⟩, by obtain ⟨cell, g1, g2, g3⟩ := hex; exact ⟨cell, by rw [ht]; exact g1, g2, by rw [hW.alike.findClass]; exact g3⟩⟩, hS.F ht⟩) hS.2.2

set_option maxHeartbeats 4000000 in
set_option maxRecDepth 100000 in
theorem c3_LR_join (l : Launch) (htr : ∀ e, l.admits e → e.platform.stackTraces = false) (dC : Nat → ClassId) (dI : Nat → Nat → Nat) (cI cL cZ : ClassId) (ad : Nat → Nat) (K F S D U V : Nat → Int32) (PT : Nat → Int64) (n : Nat) (hn : n ≤ 120) (nd : Nat → Nat × Nat × Nat) (hok : LvOk nd n K F S D U PT) (a b : Nat) (ha : a < n) (hb1 : b < n) (hp : hs (nI a) n = 1) (hp2 : hs (nI b) n = 1) (z : Int32) (hz : z = 0) (sz : Nat) : wx_Met l y_LR_join (cw_LR_join :: tb) (rmH 8 1 6) (va_Pc [.ref (ad 0), .int (nI a), .int (nI b), .int z] (wz_P (dC, dI) classes (wLL cI cL ad K F S D U V PT n) (tyI cI cL cZ) sz)) (wx_Q ry_i (fun r (u : LvS) => ∃ nd', mkd nd n (3, a, b) r nd' u.2.2.2.2.2.2 ∧ LvU nd' u) (fun X (u : LvS) => LvU nd u ∧ u.2.2.2.2.2.2 = n ∧ mkx nd n (3, a, b) X) (wy_B (dC, dI) classes (tyI cI cL cZ) (va_A (wLL cI cL ad K F S D U V PT n) sz) (fun u : LvS => wLL cI cL ad u.1 u.2.1 u.2.2.1 u.2.2.2.1 u.2.2.2.2.1 V u.2.2.2.2.2.1 u.2.2.2.2.2.2)) (va_A (wLL cI cL ad K F S D U V PT n) sz)) (va_A (wLL cI cL ad K F S D U V PT n) sz) := by
  refine wx_ofW (cc := b_LR_join) (maxL := 4) (ret := (some .int)) (by decide +kernel) rfl ?_
  intro p e s m args below meth c s₁ B hml0 ht0 hv
  have C0 := cx_of B hml0 rfl
  obtain ⟨hx, hb, hr, hml, hown, htb, hlocks⟩ := id C0
  obtain ⟨rfl, ⟨hsz, hP, hK, hD0⟩, hth, hst⟩ := hv
  subst hsz
  have hD := hD0.self (sz := s.heap.size)
  generalize hAe : va_A (wLL cI cL ad K F S D U V PT n) s.heap.size = A at hD hth ⊢
  have hA : ∀ q : Nat, s.heap.size ≤ q → A q := fun q h => by rw [← hAe]; exact Or.inr h
  have hS : va_S A s.heap s.heap [] := va_S.rf
  have hl := lv_entry ([.ref (ad 0), .int (nI a), .int (nI b), .int z]) (n := 4) (Nat.le_of_ble_eq_true rfl)
  rw [lg_entry_eq]
  generalize (lg_sl ([.ref (ad 0), .int (nI a), .int (nI b), .int z]) ++ List.replicate (4 - (lg_sl ([.ref (ad 0), .int (nI a), .int (nI b), .int z])).length) Slot.unset).toArray = ls at hl ⊢
  have hl : lv_has ls 4 [(0, .ref (ad 0)), (1, .int (nI a)), (2, .int (nI b)), (3, .int z)] := hl
  have hP : va_P (dC, dI) classes [((ad 0), .inr (0, [.ref (ad 1), .ref (ad 9), .ref (ad 12)])), ((ad 1), .inr (1, [.ref (ad 2), .ref (ad 3), .ref (ad 4), .ref (ad 5), .ref (ad 6), .ref (ad 7), .ref (ad 8), .int (nI n)])), ((ad 2), .inl (cI, 120, .inl K)), ((ad 3), .inl (cI, 120, .inl F)), ((ad 4), .inl (cI, 120, .inl S)), ((ad 5), .inl (cI, 120, .inl D)), ((ad 6), .inl (cI, 120, .inl U)), ((ad 7), .inl (cI, 120, .inl V)), ((ad 8), .inl (cL, 3840, .inr (.inl PT)))] s.heap := hP
  have hD : va_D A [((ad 0), .inr (0, [.ref (ad 1), .ref (ad 9), .ref (ad 12)])), ((ad 1), .inr (1, [.ref (ad 2), .ref (ad 3), .ref (ad 4), .ref (ad 5), .ref (ad 6), .ref (ad 7), .ref (ad 8), .int (nI n)])), ((ad 2), .inl (cI, 120, .inl K)), ((ad 3), .inl (cI, 120, .inl F)), ((ad 4), .inl (cI, 120, .inl S)), ((ad 5), .inl (cI, 120, .inl D)), ((ad 6), .inl (cI, 120, .inl U)), ((ad 7), .inl (cI, 120, .inl V)), ((ad 8), .inl (cL, 3840, .inr (.inl PT)))] := hD
  refine lv_aload_n hx hb d_LR_join_0 rfl (lv_at hl 0 rfl) ?_
  refine lv_iload_n hx hb d_LR_join_1 rfl (lv_at hl 1 rfl) ?_
  refine ry_callV (n := 1) (As := [.int (nI a)]) (rest := []) ⟨hx, hb, hml, hown, htb⟩ (c_LR_checkLevel l dC dI cI cL cZ ad K F S D U V PT n hn (nI a) hp) (gV mw_396 mw_398 mp_13 mw_1 mc_LR_checkLevel) rfl rfl (by decide +kernel) ⟨Nat.le_of_ble_eq_true rfl, Nat.le_of_ble_eq_true rfl⟩ hP hK (ci := 0) (q0 := 0) rfl rfl rfl rfl hl.1 rfl (Nat.le_of_ble_eq_true rfl) d_LR_join_2 ⟨Nat.zero_le _, Nat.zero_le _⟩ (fun r_1 hr_1 => ?_)
  refine W.eq (g2 := F0 m 5 ls []) rfl ?_
  refine lv_aload_n hx hb d_LR_join_5 rfl (lv_at hl 0 rfl) ?_
  refine lv_iload_n hx hb d_LR_join_6 rfl (lv_at hl 2 rfl) ?_
  refine ry_callV (n := 1) (As := [.int (nI b)]) (rest := []) ⟨hx, hb, hml, hown, htb⟩ (c_LR_checkLevel l dC dI cI cL cZ ad K F S D U V PT n hn (nI b) hp2) (gV mw_396 mw_398 mp_13 mw_1 mc_LR_checkLevel) rfl rfl (by decide +kernel) ⟨Nat.le_of_ble_eq_true rfl, Nat.le_of_ble_eq_true rfl⟩ hP hK (ci := 0) (q0 := 0) rfl rfl rfl rfl hl.1 rfl (Nat.le_of_ble_eq_true rfl) d_LR_join_7 ⟨Nat.zero_le _, Nat.zero_le _⟩ (fun r_2 hr_2 => ?_)
  refine W.eq (g2 := F0 m 10 ls []) rfl ?_
  refine lv_aload_n hx hb d_LR_join_10 rfl (lv_at hl 0 rfl) ?_
  refine va_get (D := (dC, dI)) (ci := 0) (v := .ref (ad 1)) (C := R_LR) (T := F_LR) (N := 3) hx hb htb ul_LR hown hK hP 0 rfl rfl 0 (by decide) (htb _ mw_110) (fun _ h9 => h9) rfl d_LR_join_11 ?_
  refine lv_iload_n hx hb d_LR_join_14 rfl (lv_at hl 3 rfl) ?_
  refine lv_if_eq (tgt := 22) hx hb d_LR_join_15 (by decide) (fun c_15 => ?_) (fun c_15 => ?_)
  · refine lv_iconst (v := 3) hx hb d_LR_join_22 (by decide) ?_
    refine lv_iload_n hx hb d_LR_join_23 rfl (lv_at hl 1 rfl) ?_
    refine lv_iload_n hx hb d_LR_join_24 rfl (lv_at hl 2 rfl) ?_
    refine wz_callV (n := 3) (wr := [((ad 0), .inr (0, [.ref (ad 1), .ref (ad 9), .ref (ad 12)]))]) (As := [.int 3, .int (nI a), .int (nI b)]) (rest := []) ⟨hx, hb, hml, hown, htb⟩ (c_Lv_made l htr dC dI cI cL cZ ad K F S D U V PT n hn nd hok (3, a, b) (row3 n ha hb1) s.heap.size) (gV mw_231 mw_232 mw_233 mw_2 mc_Lv_made) rfl rfl (by decide +kernel) ⟨Nat.le_of_ble_eq_true rfl, Nat.le_of_ble_eq_true rfl⟩ hth hst hP hD hS hA hK [1, 2, 3, 4, 5, 6, 7, 8] [0] rfl rfl (by decide) (by decide) (hP.sub [1, 2, 3, 4, 5, 6, 7, 8] rfl) ((hD.sub [1, 2, 3, 4, 5, 6, 7, 8] (by decide) rfl).weaken (fun _ _ _ _ => trivial)) (ci := 1) (q0 := 0) rfl rfl rfl rfl hl.1 rfl (Nat.le_of_ble_eq_true rfl) d_LR_join_25 ⟨Nat.le_of_ble_eq_true rfl, Nat.le_of_ble_eq_true rfl⟩ (fun r u H locs hpost hP hD hS => ?_) (fun x X u H locs hpt hex hP hD hS => ?_)
    · have hP : va_P (dC, dI) classes [((ad 0), .inr (0, [.ref (ad 1), .ref (ad 9), .ref (ad 12)])), ((ad 1), .inr (1, [.ref (ad 2), .ref (ad 3), .ref (ad 4), .ref (ad 5), .ref (ad 6), .ref (ad 7), .ref (ad 8), .int (nI u.2.2.2.2.2.2)])), ((ad 2), .inl (cI, 120, .inl u.1)), ((ad 3), .inl (cI, 120, .inl u.2.1)), ((ad 4), .inl (cI, 120, .inl u.2.2.1)), ((ad 5), .inl (cI, 120, .inl u.2.2.2.1)), ((ad 6), .inl (cI, 120, .inl u.2.2.2.2.1)), ((ad 7), .inl (cI, 120, .inl V)), ((ad 8), .inl (cL, 3840, .inr (.inl u.2.2.2.2.2.1)))] H := hP
      have hD : va_D A [((ad 0), .inr (0, [.ref (ad 1), .ref (ad 9), .ref (ad 12)])), ((ad 1), .inr (1, [.ref (ad 2), .ref (ad 3), .ref (ad 4), .ref (ad 5), .ref (ad 6), .ref (ad 7), .ref (ad 8), .int (nI u.2.2.2.2.2.2)])), ((ad 2), .inl (cI, 120, .inl u.1)), ((ad 3), .inl (cI, 120, .inl u.2.1)), ((ad 4), .inl (cI, 120, .inl u.2.2.1)), ((ad 5), .inl (cI, 120, .inl u.2.2.2.1)), ((ad 6), .inl (cI, 120, .inl u.2.2.2.2.1)), ((ad 7), .inl (cI, 120, .inl V)), ((ad 8), .inl (cL, 3840, .inr (.inl u.2.2.2.2.2.1)))] := hD
      refine W.eq (g2 := F0 m 28 ls [.int r]) rfl ?_
      exact wx_ret (W.iret (v := r) hx hb hr (fun t ht hW => ⟨Or.inl ⟨r, u, rfl, hpost, by rw [ht]; exact hP, va_K.moved hW.alike hK, hD⟩, hS.F ht⟩) hS.2.2 d_LR_join_28)
    · exact wx_out ht0 hlocks (fun t ht hW => ⟨Or.inr ⟨x, X, u, rfl, hpt, ⟨by rw [ht]; exact hP, va_K.moved hW.alike hK, hD⟩, by obtain ⟨cell, g1, g2, g3⟩ := hex; exact ⟨cell, by rw [ht]; exact g1, g2, by rw [hW.alike.findClass]; exact g3⟩⟩, hS.F ht⟩) hS.2.2
  · exact absurd hz c_15

set_option maxHeartbeats 4000000 in
set_option maxRecDepth 100000 in
theorem c0_LR_level (l : Launch) (dC : Nat → ClassId) (dI : Nat → Nat → Nat) (cI cL cZ : ClassId) (ad : Nat → Nat) (K F S D U V : Nat → Int32) (PT : Nat → Int64) (n : Nat) (hn : n ≤ 120) (x w9 : Int32) (hp : hs x n = 0) : Met l y_LR_level (cw_LR_level :: tb) (rmH 3 0 0) (va_Pc [.ref (ad 0), .int x, .int w9] (ry_P (dC, dI) classes (wLL cI cL ad K F S D U V PT n) (tyI cI cL cZ))) (ry_S ry_i (fun r => r = -1)) 0 0 (fun _ => False) := by
  refine Met.ofW (cc := b_LR_level) (maxL := 3) (ret := (some .int)) (by decide +kernel) rfl ?_
  intro p e s m args below meth c s₁ B hml0 hv
  have C0 := cx_of B hml0 rfl
  obtain ⟨hx, hb, hr, hml, hown, htb, hlocks⟩ := id C0
  obtain ⟨rfl, hP, hK⟩ := hv
  have hl := lv_entry ([.ref (ad 0), .int x, .int w9]) (n := 3) (Nat.le_of_ble_eq_true rfl)
  rw [lg_entry_eq]
  generalize (lg_sl ([.ref (ad 0), .int x, .int w9]) ++ List.replicate (3 - (lg_sl ([.ref (ad 0), .int x, .int w9])).length) Slot.unset).toArray = ls at hl ⊢
  have hl : lv_has ls 3 [(0, .ref (ad 0)), (1, .int x), (2, .int w9)] := hl
  have hP : va_P (dC, dI) classes [((ad 0), .inr (0, [.ref (ad 1), .ref (ad 9), .ref (ad 12)])), ((ad 1), .inr (1, [.ref (ad 2), .ref (ad 3), .ref (ad 4), .ref (ad 5), .ref (ad 6), .ref (ad 7), .ref (ad 8), .int (nI n)])), ((ad 2), .inl (cI, 120, .inl K)), ((ad 3), .inl (cI, 120, .inl F)), ((ad 4), .inl (cI, 120, .inl S)), ((ad 5), .inl (cI, 120, .inl D)), ((ad 6), .inl (cI, 120, .inl U)), ((ad 7), .inl (cI, 120, .inl V)), ((ad 8), .inl (cL, 3840, .inr (.inl PT)))] s.heap := hP
  refine lv_aload_n hx hb d_LR_level_0 rfl (lv_at hl 0 rfl) ?_
  refine va_get (D := (dC, dI)) (ci := 0) (v := .ref (ad 1)) (C := R_LR) (T := F_LR) (N := 3) hx hb htb ul_LR hown hK hP 0 rfl rfl 0 (by decide) (htb _ mw_110) (fun _ h9 => h9) rfl d_LR_level_1 ?_
  refine lv_iload_n hx hb d_LR_level_4 rfl (lv_at hl 1 rfl) ?_
  refine ry_callV (n := 1) (As := [.int x]) (rest := []) ⟨hx, hb, hml, hown, htb⟩ (c_Lv_has l dC dI cI cL cZ ad K F S D U V PT n hn x) (gV mw_124 mw_125 mw_126 mw_2 mc_Lv_has) rfl rfl (by decide +kernel) ⟨Nat.le_of_ble_eq_true rfl, Nat.le_of_ble_eq_true rfl⟩ (hP.sub [1, 2, 3, 4, 5, 6, 7, 8] rfl) hK (ci := 1) (q0 := 0) rfl rfl rfl rfl hl.1 rfl (Nat.le_of_ble_eq_true rfl) d_LR_level_5 ⟨Nat.zero_le _, Nat.zero_le _⟩ (fun r_1 hr_1 => ?_)
  subst hr_1
  refine W.eq (g2 := F0 m 8 ls [.int (hs x n)]) rfl ?_
  refine lv_if_ne (tgt := 13) hx hb d_LR_level_8 (by decide) (fun c_8 => ?_) (fun c_8 => ?_)
  · exact absurd hp c_8
  · refine lv_iconst (v := (-1)) hx hb d_LR_level_11 (by decide) ?_
    exact W.iret (v := (-1)) hx hb hr (fun t ht hW => ⟨(-1), rfl, rfl, ht⟩) (fun _ h => by cases h) d_LR_level_12

set_option maxHeartbeats 4000000 in
set_option maxRecDepth 100000 in
theorem c_LR_level (l : Launch) (dC : Nat → ClassId) (dI : Nat → Nat → Nat) (cI cL cZ : ClassId) (ad : Nat → Nat) (K F S D U V : Nat → Int32) (PT : Nat → Int64) (n : Nat) (hn : n ≤ 120) (j : Nat) (hj : j < n) (hp : hs (nI j) n = 1) (w9 : Int32) : Met l y_LR_level (cw_LR_level :: tb) (rmH 3 0 0) (va_Pc [.ref (ad 0), .int (nI j), .int w9] (ry_P (dC, dI) classes (wLL cI cL ad K F S D U V PT n) (tyI cI cL cZ))) (ry_S ry_i (fun r => r = det K F S j w9)) 0 0 (fun _ => False) := by
  refine Met.ofW (cc := b_LR_level) (maxL := 3) (ret := (some .int)) (by decide +kernel) rfl ?_
  intro p e s m args below meth c s₁ B hml0 hv
  have C0 := cx_of B hml0 rfl
  obtain ⟨hx, hb, hr, hml, hown, htb, hlocks⟩ := id C0
  obtain ⟨rfl, hP, hK⟩ := hv
  have hl := lv_entry ([.ref (ad 0), .int (nI j), .int w9]) (n := 3) (Nat.le_of_ble_eq_true rfl)
  rw [lg_entry_eq]
  generalize (lg_sl ([.ref (ad 0), .int (nI j), .int w9]) ++ List.replicate (3 - (lg_sl ([.ref (ad 0), .int (nI j), .int w9])).length) Slot.unset).toArray = ls at hl ⊢
  have hl : lv_has ls 3 [(0, .ref (ad 0)), (1, .int (nI j)), (2, .int w9)] := hl
  have hP : va_P (dC, dI) classes [((ad 0), .inr (0, [.ref (ad 1), .ref (ad 9), .ref (ad 12)])), ((ad 1), .inr (1, [.ref (ad 2), .ref (ad 3), .ref (ad 4), .ref (ad 5), .ref (ad 6), .ref (ad 7), .ref (ad 8), .int (nI n)])), ((ad 2), .inl (cI, 120, .inl K)), ((ad 3), .inl (cI, 120, .inl F)), ((ad 4), .inl (cI, 120, .inl S)), ((ad 5), .inl (cI, 120, .inl D)), ((ad 6), .inl (cI, 120, .inl U)), ((ad 7), .inl (cI, 120, .inl V)), ((ad 8), .inl (cL, 3840, .inr (.inl PT)))] s.heap := hP
  refine lv_aload_n hx hb d_LR_level_0 rfl (lv_at hl 0 rfl) ?_
  refine va_get (D := (dC, dI)) (ci := 0) (v := .ref (ad 1)) (C := R_LR) (T := F_LR) (N := 3) hx hb htb ul_LR hown hK hP 0 rfl rfl 0 (by decide) (htb _ mw_110) (fun _ h9 => h9) rfl d_LR_level_1 ?_
  refine lv_iload_n hx hb d_LR_level_4 rfl (lv_at hl 1 rfl) ?_
  refine ry_callV (n := 1) (As := [.int (nI j)]) (rest := []) ⟨hx, hb, hml, hown, htb⟩ (c_Lv_has l dC dI cI cL cZ ad K F S D U V PT n hn (nI j)) (gV mw_124 mw_125 mw_126 mw_2 mc_Lv_has) rfl rfl (by decide +kernel) ⟨Nat.le_of_ble_eq_true rfl, Nat.le_of_ble_eq_true rfl⟩ (hP.sub [1, 2, 3, 4, 5, 6, 7, 8] rfl) hK (ci := 1) (q0 := 0) rfl rfl rfl rfl hl.1 rfl (Nat.le_of_ble_eq_true rfl) d_LR_level_5 ⟨Nat.zero_le _, Nat.zero_le _⟩ (fun r_1 hr_1 => ?_)
  subst hr_1
  refine W.eq (g2 := F0 m 8 ls [.int (hs (nI j) n)]) rfl ?_
  refine lv_if_ne (tgt := 13) hx hb d_LR_level_8 (by decide) (fun c_8 => ?_) (fun c_8 => ?_)
  · refine lv_aload_n hx hb d_LR_level_13 rfl (lv_at hl 0 rfl) ?_
    refine va_get (D := (dC, dI)) (ci := 0) (v := .ref (ad 1)) (C := R_LR) (T := F_LR) (N := 3) hx hb htb ul_LR hown hK hP 0 rfl rfl 0 (by decide) (htb _ mw_110) (fun _ h9 => h9) rfl d_LR_level_14 ?_
    refine lv_iload_n hx hb d_LR_level_17 rfl (lv_at hl 1 rfl) ?_
    refine lv_iload_n hx hb d_LR_level_18 rfl (lv_at hl 2 rfl) ?_
    refine ry_callV (n := 2) (As := [.int (nI j), .int w9]) (rest := []) ⟨hx, hb, hml, hown, htb⟩ (c_Lv_detail l dC dI cI cL cZ ad K F S D U V PT n hn j (by omega) w9) (gV mw_128 mw_129 mw_130 mw_2 mc_Lv_detail) rfl rfl (by decide +kernel) ⟨Nat.le_of_ble_eq_true rfl, Nat.le_of_ble_eq_true rfl⟩ (hP.sub [1, 2, 3, 4, 5, 6, 7, 8] rfl) hK (ci := 1) (q0 := 0) rfl rfl rfl rfl hl.1 rfl (Nat.le_of_ble_eq_true rfl) d_LR_level_19 ⟨Nat.zero_le _, Nat.zero_le _⟩ (fun r_2 hr_2 => ?_)
    subst hr_2
    refine W.eq (g2 := F0 m 22 ls [.int (det K F S j w9)]) rfl ?_
    exact W.iret (v := (det K F S j w9)) hx hb hr (fun t ht hW => ⟨(det K F S j w9), rfl, rfl, ht⟩) (fun _ h => by cases h) d_LR_level_22
  · exact absurd (hp.symm.trans c_8) (by decide)

set_option maxHeartbeats 4000000 in
set_option maxRecDepth 100000 in
theorem c0_LR_value (l : Launch) (dC : Nat → ClassId) (dI : Nat → Nat → Nat) (cI cL cZ : ClassId) (ad : Nat → Nat) (K F S D U V : Nat → Int32) (PT : Nat → Int64) (n : Nat) (hn : n ≤ 120) (x : Int32) (v : Int64) (hp : hs x n = 0) : Met l y_LR_value (cw_LR_value :: tb) (rmH 5 0 0) (va_Pc [.ref (ad 0), .int x, .long v] (ry_P (dC, dI) classes (wLL cI cL ad K F S D U V PT n) (tyI cI cL cZ))) (ry_S ry_i (fun r => r = -1)) 0 0 (fun _ => False) := by
  refine Met.ofW (cc := b_LR_value) (maxL := 4) (ret := (some .int)) (by decide +kernel) rfl ?_
  intro p e s m args below meth c s₁ B hml0 hv
  have C0 := cx_of B hml0 rfl
  obtain ⟨hx, hb, hr, hml, hown, htb, hlocks⟩ := id C0
  obtain ⟨rfl, hP, hK⟩ := hv
  have hl := lv_entry ([.ref (ad 0), .int x, .long v]) (n := 4) (Nat.le_of_ble_eq_true rfl)
  rw [lg_entry_eq]
  generalize (lg_sl ([.ref (ad 0), .int x, .long v]) ++ List.replicate (4 - (lg_sl ([.ref (ad 0), .int x, .long v])).length) Slot.unset).toArray = ls at hl ⊢
  have hl : lv_has ls 4 [(0, .ref (ad 0)), (1, .int x), (2, .long v)] := hl
  have hP : va_P (dC, dI) classes [((ad 0), .inr (0, [.ref (ad 1), .ref (ad 9), .ref (ad 12)])), ((ad 1), .inr (1, [.ref (ad 2), .ref (ad 3), .ref (ad 4), .ref (ad 5), .ref (ad 6), .ref (ad 7), .ref (ad 8), .int (nI n)])), ((ad 2), .inl (cI, 120, .inl K)), ((ad 3), .inl (cI, 120, .inl F)), ((ad 4), .inl (cI, 120, .inl S)), ((ad 5), .inl (cI, 120, .inl D)), ((ad 6), .inl (cI, 120, .inl U)), ((ad 7), .inl (cI, 120, .inl V)), ((ad 8), .inl (cL, 3840, .inr (.inl PT)))] s.heap := hP
  refine lv_aload_n hx hb d_LR_value_0 rfl (lv_at hl 0 rfl) ?_
  refine va_get (D := (dC, dI)) (ci := 0) (v := .ref (ad 1)) (C := R_LR) (T := F_LR) (N := 3) hx hb htb ul_LR hown hK hP 0 rfl rfl 0 (by decide) (htb _ mw_110) (fun _ h9 => h9) rfl d_LR_value_1 ?_
  refine lv_iload_n hx hb d_LR_value_4 rfl (lv_at hl 1 rfl) ?_
  refine ry_callV (n := 1) (As := [.int x]) (rest := []) ⟨hx, hb, hml, hown, htb⟩ (c_Lv_has l dC dI cI cL cZ ad K F S D U V PT n hn x) (gV mw_124 mw_125 mw_126 mw_2 mc_Lv_has) rfl rfl (by decide +kernel) ⟨Nat.le_of_ble_eq_true rfl, Nat.le_of_ble_eq_true rfl⟩ (hP.sub [1, 2, 3, 4, 5, 6, 7, 8] rfl) hK (ci := 1) (q0 := 0) rfl rfl rfl rfl hl.1 rfl (Nat.le_of_ble_eq_true rfl) d_LR_value_5 ⟨Nat.zero_le _, Nat.zero_le _⟩ (fun r_1 hr_1 => ?_)
  subst hr_1
  refine W.eq (g2 := F0 m 8 ls [.int (hs x n)]) rfl ?_
  refine lv_if_ne (tgt := 13) hx hb d_LR_value_8 (by decide) (fun c_8 => ?_) (fun c_8 => ?_)
  · exact absurd hp c_8
  · refine lv_iconst (v := (-1)) hx hb d_LR_value_11 (by decide) ?_
    exact W.iret (v := (-1)) hx hb hr (fun t ht hW => ⟨(-1), rfl, rfl, ht⟩) (fun _ h => by cases h) d_LR_value_12

set_option maxHeartbeats 4000000 in
set_option maxRecDepth 100000 in
theorem c_LR_value (l : Launch) (dC : Nat → ClassId) (dI : Nat → Nat → Nat) (cI cL cZ : ClassId) (ad : Nat → Nat) (K F S D U V : Nat → Int32) (PT : Nat → Int64) (n : Nat) (hn : n ≤ 120) (nd : Nat → Nat × Nat × Nat) (hok : LvOk nd n K F S D U PT) (x : Nat) (hx1 : x < n) (hp : hs (nI x) n = 1) (v : Int64) (sz : Nat) : Met l y_LR_value (cw_LR_value :: tb) (rmH 5 0 0) (va_Pc [.ref (ad 0), .int (nI x), .long v] (wy_P (dC, dI) classes (wLL cI cL ad K F S D U V PT n) (tyI cI cL cZ) sz)) (wy_Q ry_i (fun r (u : Nat → Int32) => r = nI (vl (pvN v) nd x)) (wy_B (dC, dI) classes (tyI cI cL cZ) (va_A (wLL cI cL ad K F S D U V PT n) sz) (fun u : Nat → Int32 => (wLL cI cL ad K F S D U u PT n))) (va_A (wLL cI cL ad K F S D U V PT n) sz)) 0 0 (va_A (wLL cI cL ad K F S D U V PT n) sz) := by
  refine Met.ofW (cc := b_LR_value) (maxL := 4) (ret := (some .int)) (by decide +kernel) rfl ?_
  intro p e s m args below meth c s₁ B hml0 hv
  have C0 := cx_of B hml0 rfl
  obtain ⟨hx, hb, hr, hml, hown, htb, hlocks⟩ := id C0
  obtain ⟨rfl, hsz, hP, hK, hD0⟩ := hv
  subst hsz
  have hD := hD0.self (sz := s.heap.size)
  generalize hAe : va_A (wLL cI cL ad K F S D U V PT n) s.heap.size = A at hD ⊢
  have hA : ∀ q : Nat, s.heap.size ≤ q → A q := fun q h => by rw [← hAe]; exact Or.inr h
  have hS : va_S A s.heap s.heap [] := va_S.rf
  have hl := lv_entry ([.ref (ad 0), .int (nI x), .long v]) (n := 4) (Nat.le_of_ble_eq_true rfl)
  rw [lg_entry_eq]
  generalize (lg_sl ([.ref (ad 0), .int (nI x), .long v]) ++ List.replicate (4 - (lg_sl ([.ref (ad 0), .int (nI x), .long v])).length) Slot.unset).toArray = ls at hl ⊢
  have hl : lv_has ls 4 [(0, .ref (ad 0)), (1, .int (nI x)), (2, .long v)] := hl
  have hP : va_P (dC, dI) classes [((ad 0), .inr (0, [.ref (ad 1), .ref (ad 9), .ref (ad 12)])), ((ad 1), .inr (1, [.ref (ad 2), .ref (ad 3), .ref (ad 4), .ref (ad 5), .ref (ad 6), .ref (ad 7), .ref (ad 8), .int (nI n)])), ((ad 2), .inl (cI, 120, .inl K)), ((ad 3), .inl (cI, 120, .inl F)), ((ad 4), .inl (cI, 120, .inl S)), ((ad 5), .inl (cI, 120, .inl D)), ((ad 6), .inl (cI, 120, .inl U)), ((ad 7), .inl (cI, 120, .inl V)), ((ad 8), .inl (cL, 3840, .inr (.inl PT)))] s.heap := hP
  have hD : va_D A [((ad 0), .inr (0, [.ref (ad 1), .ref (ad 9), .ref (ad 12)])), ((ad 1), .inr (1, [.ref (ad 2), .ref (ad 3), .ref (ad 4), .ref (ad 5), .ref (ad 6), .ref (ad 7), .ref (ad 8), .int (nI n)])), ((ad 2), .inl (cI, 120, .inl K)), ((ad 3), .inl (cI, 120, .inl F)), ((ad 4), .inl (cI, 120, .inl S)), ((ad 5), .inl (cI, 120, .inl D)), ((ad 6), .inl (cI, 120, .inl U)), ((ad 7), .inl (cI, 120, .inl V)), ((ad 8), .inl (cL, 3840, .inr (.inl PT)))] := hD
  have hA0 := hA
  refine lv_aload_n hx hb d_LR_value_0 rfl (lv_at hl 0 rfl) ?_
  refine va_get (D := (dC, dI)) (ci := 0) (v := .ref (ad 1)) (C := R_LR) (T := F_LR) (N := 3) hx hb htb ul_LR hown hK hP 0 rfl rfl 0 (by decide) (htb _ mw_110) (fun _ h9 => h9) rfl d_LR_value_1 ?_
  refine lv_iload_n hx hb d_LR_value_4 rfl (lv_at hl 1 rfl) ?_
  refine ry_callV (n := 1) (As := [.int (nI x)]) (rest := []) ⟨hx, hb, hml, hown, htb⟩ (c_Lv_has l dC dI cI cL cZ ad K F S D U V PT n hn (nI x)) (gV mw_124 mw_125 mw_126 mw_2 mc_Lv_has) rfl rfl (by decide +kernel) ⟨Nat.le_of_ble_eq_true rfl, Nat.le_of_ble_eq_true rfl⟩ (hP.sub [1, 2, 3, 4, 5, 6, 7, 8] rfl) hK (ci := 1) (q0 := 0) rfl rfl rfl rfl hl.1 rfl (Nat.le_of_ble_eq_true rfl) d_LR_value_5 ⟨Nat.zero_le _, Nat.zero_le _⟩ (fun r_1 hr_1 => ?_)
  subst hr_1
  refine W.eq (g2 := F0 m 8 ls [.int (hs (nI x) n)]) rfl ?_
  refine lv_if_ne (tgt := 13) hx hb d_LR_value_8 (by decide) (fun c_8 => ?_) (fun c_8 => ?_)
  · refine lv_aload_n hx hb d_LR_value_13 rfl (lv_at hl 0 rfl) ?_
    refine va_get (D := (dC, dI)) (ci := 0) (v := .ref (ad 1)) (C := R_LR) (T := F_LR) (N := 3) hx hb htb ul_LR hown hK hP 0 rfl rfl 0 (by decide) (htb _ mw_110) (fun _ h9 => h9) rfl d_LR_value_14 ?_
    refine lv_iload_n hx hb d_LR_value_17 rfl (lv_at hl 1 rfl) ?_
    refine lv_lload_n hx hb d_LR_value_18 rfl (lv_at hl 2 rfl) ?_
    refine wy_callV (n := 2) (wr := [((ad 0), .inr (0, [.ref (ad 1), .ref (ad 9), .ref (ad 12)]))]) (As := [.int (nI x), .long v]) (rest := []) ⟨hx, hb, hml, hown, htb⟩ (c_Lv_valueFor l dC dI cI cL cZ ad K F S D U V PT n hn nd hok.1 hok.2.1 v x hx1 s.heap.size) (gV mw_136 mw_137 mw_138 mw_2 mc_Lv_valueFor) rfl rfl (by decide +kernel) ⟨Nat.le_of_ble_eq_true rfl, Nat.le_of_ble_eq_true rfl⟩ hP hD hS hA hK [1, 2, 3, 4, 5, 6, 7, 8] [0] rfl rfl (by decide) (by decide) (hP.sub [1, 2, 3, 4, 5, 6, 7, 8] rfl) ((hD.sub [1, 2, 3, 4, 5, 6, 7, 8] (by decide) rfl).weaken (fun _ _ _ _ => trivial)) (ci := 1) (q0 := 0) rfl rfl rfl rfl hl.1 rfl (Nat.le_of_ble_eq_true rfl) d_LR_value_19 ⟨Nat.le_of_ble_eq_true rfl, Nat.le_of_ble_eq_true rfl⟩ (fun r u H locs hpost hP hD hS => ?_)
    subst hpost
    have hP : va_P (dC, dI) classes [((ad 0), .inr (0, [.ref (ad 1), .ref (ad 9), .ref (ad 12)])), ((ad 1), .inr (1, [.ref (ad 2), .ref (ad 3), .ref (ad 4), .ref (ad 5), .ref (ad 6), .ref (ad 7), .ref (ad 8), .int (nI n)])), ((ad 2), .inl (cI, 120, .inl K)), ((ad 3), .inl (cI, 120, .inl F)), ((ad 4), .inl (cI, 120, .inl S)), ((ad 5), .inl (cI, 120, .inl D)), ((ad 6), .inl (cI, 120, .inl U)), ((ad 7), .inl (cI, 120, .inl u)), ((ad 8), .inl (cL, 3840, .inr (.inl PT)))] H := hP
    have hD : va_D A [((ad 0), .inr (0, [.ref (ad 1), .ref (ad 9), .ref (ad 12)])), ((ad 1), .inr (1, [.ref (ad 2), .ref (ad 3), .ref (ad 4), .ref (ad 5), .ref (ad 6), .ref (ad 7), .ref (ad 8), .int (nI n)])), ((ad 2), .inl (cI, 120, .inl K)), ((ad 3), .inl (cI, 120, .inl F)), ((ad 4), .inl (cI, 120, .inl S)), ((ad 5), .inl (cI, 120, .inl D)), ((ad 6), .inl (cI, 120, .inl U)), ((ad 7), .inl (cI, 120, .inl u)), ((ad 8), .inl (cL, 3840, .inr (.inl PT)))] := hD
    refine W.eq (g2 := F0 m 22 ls [.int (nI (vl (pvN v) nd x))]) rfl ?_
    exact W.iret (v := (nI (vl (pvN v) nd x))) hx hb hr (fun t ht hW => ⟨⟨(nI (vl (pvN v) nd x)), u, rfl, rfl, by rw [ht]; exact hP, va_K.moved hW.alike hK, hD⟩, hS.F ht⟩) hS.2.2 d_LR_value_22
  · exact absurd (hp.symm.trans c_8) (by decide)
