set_option maxHeartbeats 4000000 in
set_option maxRecDepth 100000 in
theorem c0_LR_part (l : Launch) (htr : ∀ e, l.admits e → e.platform.stackTraces = false) (dC : Nat → ClassId) (dI : Nat → Nat → Nat) (cI cL cZ : ClassId) (ad : Nat → Nat) (K F S D U V : Nat → Int32) (PT : Nat → Int64) (n : Nat) (hn : n ≤ 120) (x g p9 : Int32) (hp : hs x n = 0) (sz : Nat) : wx_Met l y_LR_part (cw_LR_part :: tb) (rmH 8 1 6) (va_Pc [.ref (ad 0), .int x, .int g, .int p9] (wz_P (dC, dI) classes (wLL cI cL ad K F S D U V PT n) (tyI cI cL cZ) sz)) (wx_Q ry_i (fun r (u : Unit) => False) (fun X (u : Unit) => X = "java/lang/IndexOutOfBoundsException") (wy_B (dC, dI) classes (tyI cI cL cZ) (va_A (wLL cI cL ad K F S D U V PT n) sz) (fun u : Unit => (wLL cI cL ad K F S D U V PT n))) (va_A (wLL cI cL ad K F S D U V PT n) sz)) (va_A (wLL cI cL ad K F S D U V PT n) sz) := by
  refine wx_ofW (cc := b_LR_part) (maxL := 4) (ret := (some .int)) (by decide +kernel) rfl ?_
  intro p e s m args below meth c s₁ B hml0 ht0 hv
  have C0 := cx_of B hml0 rfl
  obtain ⟨hx, hb, hr, hml, hown, htb, hlocks⟩ := id C0
  obtain ⟨rfl, ⟨hsz, hP, hK, hD0⟩, hth, hst⟩ := hv
  subst hsz
  have hD := hD0.self (sz := s.heap.size)
  generalize hAe : va_A (wLL cI cL ad K F S D U V PT n) s.heap.size = A at hD hth ⊢
  have hA : ∀ q : Nat, s.heap.size ≤ q → A q := fun q h => by rw [← hAe]; exact Or.inr h
  have hS : va_S A s.heap s.heap [] := va_S.rf
  have hl := lv_entry ([.ref (ad 0), .int x, .int g, .int p9]) (n := 4) (Nat.le_of_ble_eq_true rfl)
  rw [lg_entry_eq]
  generalize (lg_sl ([.ref (ad 0), .int x, .int g, .int p9]) ++ List.replicate (4 - (lg_sl ([.ref (ad 0), .int x, .int g, .int p9])).length) Slot.unset).toArray = ls at hl ⊢
  have hl : lv_has ls 4 [(0, .ref (ad 0)), (1, .int x), (2, .int g), (3, .int p9)] := hl
  have hP : va_P (dC, dI) classes [((ad 0), .inr (0, [.ref (ad 1), .ref (ad 9), .ref (ad 12)])), ((ad 1), .inr (1, [.ref (ad 2), .ref (ad 3), .ref (ad 4), .ref (ad 5), .ref (ad 6), .ref (ad 7), .ref (ad 8), .int (nI n)])), ((ad 2), .inl (cI, 120, .inl K)), ((ad 3), .inl (cI, 120, .inl F)), ((ad 4), .inl (cI, 120, .inl S)), ((ad 5), .inl (cI, 120, .inl D)), ((ad 6), .inl (cI, 120, .inl U)), ((ad 7), .inl (cI, 120, .inl V)), ((ad 8), .inl (cL, 3840, .inr (.inl PT)))] s.heap := hP
  have hD : va_D A [((ad 0), .inr (0, [.ref (ad 1), .ref (ad 9), .ref (ad 12)])), ((ad 1), .inr (1, [.ref (ad 2), .ref (ad 3), .ref (ad 4), .ref (ad 5), .ref (ad 6), .ref (ad 7), .ref (ad 8), .int (nI n)])), ((ad 2), .inl (cI, 120, .inl K)), ((ad 3), .inl (cI, 120, .inl F)), ((ad 4), .inl (cI, 120, .inl S)), ((ad 5), .inl (cI, 120, .inl D)), ((ad 6), .inl (cI, 120, .inl U)), ((ad 7), .inl (cI, 120, .inl V)), ((ad 8), .inl (cL, 3840, .inr (.inl PT)))] := hD
  refine lv_aload_n hx hb d_LR_part_0 rfl (lv_at hl 0 rfl) ?_
  refine lv_iload_n hx hb d_LR_part_1 rfl (lv_at hl 1 rfl) ?_
  refine wz_callV (n := 1) (wr := []) (As := [.int x]) (rest := []) ⟨hx, hb, hml, hown, htb⟩ (c0_LR_checkLevel l htr dC dI cI cL cZ ad K F S D U V PT n hn x hp s.heap.size) (gV mw_396 mw_398 mp_13 mw_1 mc_LR_checkLevel) rfl rfl (by decide +kernel) ⟨Nat.le_of_ble_eq_true rfl, Nat.le_of_ble_eq_true rfl⟩ hth hst hP hD hS hA hK [0, 1, 2, 3, 4, 5, 6, 7, 8] [] rfl rfl (by decide) (by decide) (hP.sub [0, 1, 2, 3, 4, 5, 6, 7, 8] rfl) ((hD.sub [0, 1, 2, 3, 4, 5, 6, 7, 8] (by decide) rfl).weaken (fun _ _ _ _ => trivial)) (ci := 0) (q0 := 0) rfl rfl rfl rfl hl.1 rfl (Nat.le_of_ble_eq_true rfl) d_LR_part_2 ⟨Nat.le_of_ble_eq_true rfl, Nat.le_of_ble_eq_true rfl⟩ (fun r u H locs hpost hP hD hS => ?_) (fun x X u H locs hpt hex hP hD hS => ?_)
  · exact hpost.elim
  · exact wx_out ht0 hlocks (fun t ht hW => ⟨Or.inr ⟨x, X, (), rfl, hpt, ⟨by rw [ht]; exact hP, va_K.moved hW.alike hK, hD⟩, by obtain ⟨cell, g1, g2, g3⟩ := hex; exact ⟨cell, by rw [ht]; exact g1, g2, by rw [hW.alike.findClass]; exact g3⟩⟩, hS.F ht⟩) hS.2.2

set_option maxHeartbeats 4000000 in
set_option maxRecDepth 100000 in
theorem c1_LR_part (l : Launch) (htr : ∀ e, l.admits e → e.platform.stackTraces = false) (dC : Nat → ClassId) (dI : Nat → Nat → Nat) (cI cL cZ : ClassId) (ad : Nat → Nat) (K F S D U V : Nat → Int32) (PT : Nat → Int64) (n : Nat) (hn : n ≤ 120) (x g p9 : Int32) (hp : hs x n = 1) (hg : g < 0 ∨ 31 < g) (sz : Nat) : wx_Met l y_LR_part (cw_LR_part :: tb) (rmH 8 1 6) (va_Pc [.ref (ad 0), .int x, .int g, .int p9] (wz_P (dC, dI) classes (wLL cI cL ad K F S D U V PT n) (tyI cI cL cZ) sz)) (wx_Q ry_i (fun r (u : Unit) => False) (fun X (u : Unit) => X = "java/lang/IndexOutOfBoundsException") (wy_B (dC, dI) classes (tyI cI cL cZ) (va_A (wLL cI cL ad K F S D U V PT n) sz) (fun u : Unit => (wLL cI cL ad K F S D U V PT n))) (va_A (wLL cI cL ad K F S D U V PT n) sz)) (va_A (wLL cI cL ad K F S D U V PT n) sz) := by
  refine wx_ofW (cc := b_LR_part) (maxL := 4) (ret := (some .int)) (by decide +kernel) rfl ?_
  intro p e s m args below meth c s₁ B hml0 ht0 hv
  have C0 := cx_of B hml0 rfl
  obtain ⟨hx, hb, hr, hml, hown, htb, hlocks⟩ := id C0
  obtain ⟨rfl, ⟨hsz, hP, hK, hD0⟩, hth, hst⟩ := hv
  subst hsz
  have hD := hD0.self (sz := s.heap.size)
  generalize hAe : va_A (wLL cI cL ad K F S D U V PT n) s.heap.size = A at hD hth ⊢
  have hA : ∀ q : Nat, s.heap.size ≤ q → A q := fun q h => by rw [← hAe]; exact Or.inr h
  have hS : va_S A s.heap s.heap [] := va_S.rf
  have hl := lv_entry ([.ref (ad 0), .int x, .int g, .int p9]) (n := 4) (Nat.le_of_ble_eq_true rfl)
  rw [lg_entry_eq]
  generalize (lg_sl ([.ref (ad 0), .int x, .int g, .int p9]) ++ List.replicate (4 - (lg_sl ([.ref (ad 0), .int x, .int g, .int p9])).length) Slot.unset).toArray = ls at hl ⊢
  have hl : lv_has ls 4 [(0, .ref (ad 0)), (1, .int x), (2, .int g), (3, .int p9)] := hl
  have hP : va_P (dC, dI) classes [((ad 0), .inr (0, [.ref (ad 1), .ref (ad 9), .ref (ad 12)])), ((ad 1), .inr (1, [.ref (ad 2), .ref (ad 3), .ref (ad 4), .ref (ad 5), .ref (ad 6), .ref (ad 7), .ref (ad 8), .int (nI n)])), ((ad 2), .inl (cI, 120, .inl K)), ((ad 3), .inl (cI, 120, .inl F)), ((ad 4), .inl (cI, 120, .inl S)), ((ad 5), .inl (cI, 120, .inl D)), ((ad 6), .inl (cI, 120, .inl U)), ((ad 7), .inl (cI, 120, .inl V)), ((ad 8), .inl (cL, 3840, .inr (.inl PT)))] s.heap := hP
  have hD : va_D A [((ad 0), .inr (0, [.ref (ad 1), .ref (ad 9), .ref (ad 12)])), ((ad 1), .inr (1, [.ref (ad 2), .ref (ad 3), .ref (ad 4), .ref (ad 5), .ref (ad 6), .ref (ad 7), .ref (ad 8), .int (nI n)])), ((ad 2), .inl (cI, 120, .inl K)), ((ad 3), .inl (cI, 120, .inl F)), ((ad 4), .inl (cI, 120, .inl S)), ((ad 5), .inl (cI, 120, .inl D)), ((ad 6), .inl (cI, 120, .inl U)), ((ad 7), .inl (cI, 120, .inl V)), ((ad 8), .inl (cL, 3840, .inr (.inl PT)))] := hD
  refine lv_aload_n hx hb d_LR_part_0 rfl (lv_at hl 0 rfl) ?_
  refine lv_iload_n hx hb d_LR_part_1 rfl (lv_at hl 1 rfl) ?_
  refine ry_callV (n := 1) (As := [.int x]) (rest := []) ⟨hx, hb, hml, hown, htb⟩ (c_LR_checkLevel l dC dI cI cL cZ ad K F S D U V PT n hn x hp) (gV mw_396 mw_398 mp_13 mw_1 mc_LR_checkLevel) rfl rfl (by decide +kernel) ⟨Nat.le_of_ble_eq_true rfl, Nat.le_of_ble_eq_true rfl⟩ hP hK (ci := 0) (q0 := 0) rfl rfl rfl rfl hl.1 rfl (Nat.le_of_ble_eq_true rfl) d_LR_part_2 ⟨Nat.zero_le _, Nat.zero_le _⟩ (fun r_1 hr_1 => ?_)
  refine W.eq (g2 := F0 m 5 ls []) rfl ?_
  refine lv_iload_n hx hb d_LR_part_5 rfl (lv_at hl 2 rfl) ?_
  refine lv_if_lt (tgt := 15) hx hb d_LR_part_6 (by decide) (fun c_6 => ?_) (fun c_6 => ?_)
  · exact wz_throw hx hb htr hown htb (Or.inr (Or.inr rfl)) mw_372 mw_373 mw_13 mw_382 hth hst.2.2.2.2.1 ht0 hlocks (by rw [hml]; exact hl.1) d_LR_part_15 d_LR_part_18 d_LR_part_19 d_LR_part_21 d_LR_part_24 ⟨Nat.le_of_ble_eq_true rfl, Nat.le_of_ble_eq_true rfl, Nat.le_of_ble_eq_true rfl, Nat.le_of_ble_eq_true rfl⟩ () rfl hP hK hD
  · refine lv_iload_n hx hb d_LR_part_9 rfl (lv_at hl 2 rfl) ?_
    refine lv_bipush (v := 32) hx hb d_LR_part_10 (by decide) ?_
    refine lv_icmp_lt (tgt := 25) hx hb d_LR_part_12 (by decide) (fun c_12 => ?_) (fun c_12 => ?_)
    · exact absurd hg (fun z => z.elim c_6 (fun y => i32_31 y c_12))
    · exact wz_throw hx hb htr hown htb (Or.inr (Or.inr rfl)) mw_372 mw_373 mw_13 mw_382 hth hst.2.2.2.2.1 ht0 hlocks (by rw [hml]; exact hl.1) d_LR_part_15 d_LR_part_18 d_LR_part_19 d_LR_part_21 d_LR_part_24 ⟨Nat.le_of_ble_eq_true rfl, Nat.le_of_ble_eq_true rfl, Nat.le_of_ble_eq_true rfl, Nat.le_of_ble_eq_true rfl⟩ () rfl hP hK hD

set_option maxHeartbeats 4000000 in
set_option maxRecDepth 100000 in
theorem c2_LR_part (l : Launch) (htr : ∀ e, l.admits e → e.platform.stackTraces = false) (dC : Nat → ClassId) (dI : Nat → Nat → Nat) (cI cL cZ : ClassId) (ad : Nat → Nat) (K F S D U V : Nat → Int32) (PT : Nat → Int64) (n : Nat) (hn : n ≤ 120) (x : Int32) (g : Nat) (p9 : Int32) (hp : hs x n = 1) (hg : g < 32) (hq1 : ¬ p9 = -1) (hq : p9 < 0 ∨ 5 ≤ p9) (sz : Nat) : wx_Met l y_LR_part (cw_LR_part :: tb) (rmH 8 1 6) (va_Pc [.ref (ad 0), .int x, .int (nI g), .int p9] (wz_P (dC, dI) classes (wLL cI cL ad K F S D U V PT n) (tyI cI cL cZ) sz)) (wx_Q ry_i (fun r (u : Unit) => False) (fun X (u : Unit) => X = "java/lang/IndexOutOfBoundsException") (wy_B (dC, dI) classes (tyI cI cL cZ) (va_A (wLL cI cL ad K F S D U V PT n) sz) (fun u : Unit => (wLL cI cL ad K F S D U V PT n))) (va_A (wLL cI cL ad K F S D U V PT n) sz)) (va_A (wLL cI cL ad K F S D U V PT n) sz) := by
  refine wx_ofW (cc := b_LR_part) (maxL := 4) (ret := (some .int)) (by decide +kernel) rfl ?_
  intro p e s m args below meth c s₁ B hml0 ht0 hv
  have C0 := cx_of B hml0 rfl
  obtain ⟨hx, hb, hr, hml, hown, htb, hlocks⟩ := id C0
  obtain ⟨rfl, ⟨hsz, hP, hK, hD0⟩, hth, hst⟩ := hv
  subst hsz
  have hD := hD0.self (sz := s.heap.size)
  generalize hAe : va_A (wLL cI cL ad K F S D U V PT n) s.heap.size = A at hD hth ⊢
  have hA : ∀ q : Nat, s.heap.size ≤ q → A q := fun q h => by rw [← hAe]; exact Or.inr h
  have hS : va_S A s.heap s.heap [] := va_S.rf
  have hl := lv_entry ([.ref (ad 0), .int x, .int (nI g), .int p9]) (n := 4) (Nat.le_of_ble_eq_true rfl)
  rw [lg_entry_eq]
  generalize (lg_sl ([.ref (ad 0), .int x, .int (nI g), .int p9]) ++ List.replicate (4 - (lg_sl ([.ref (ad 0), .int x, .int (nI g), .int p9])).length) Slot.unset).toArray = ls at hl ⊢
  have hl : lv_has ls 4 [(0, .ref (ad 0)), (1, .int x), (2, .int (nI g)), (3, .int p9)] := hl
  have hP : va_P (dC, dI) classes [((ad 0), .inr (0, [.ref (ad 1), .ref (ad 9), .ref (ad 12)])), ((ad 1), .inr (1, [.ref (ad 2), .ref (ad 3), .ref (ad 4), .ref (ad 5), .ref (ad 6), .ref (ad 7), .ref (ad 8), .int (nI n)])), ((ad 2), .inl (cI, 120, .inl K)), ((ad 3), .inl (cI, 120, .inl F)), ((ad 4), .inl (cI, 120, .inl S)), ((ad 5), .inl (cI, 120, .inl D)), ((ad 6), .inl (cI, 120, .inl U)), ((ad 7), .inl (cI, 120, .inl V)), ((ad 8), .inl (cL, 3840, .inr (.inl PT)))] s.heap := hP
  have hD : va_D A [((ad 0), .inr (0, [.ref (ad 1), .ref (ad 9), .ref (ad 12)])), ((ad 1), .inr (1, [.ref (ad 2), .ref (ad 3), .ref (ad 4), .ref (ad 5), .ref (ad 6), .ref (ad 7), .ref (ad 8), .int (nI n)])), ((ad 2), .inl (cI, 120, .inl K)), ((ad 3), .inl (cI, 120, .inl F)), ((ad 4), .inl (cI, 120, .inl S)), ((ad 5), .inl (cI, 120, .inl D)), ((ad 6), .inl (cI, 120, .inl U)), ((ad 7), .inl (cI, 120, .inl V)), ((ad 8), .inl (cL, 3840, .inr (.inl PT)))] := hD
  refine lv_aload_n hx hb d_LR_part_0 rfl (lv_at hl 0 rfl) ?_
  refine lv_iload_n hx hb d_LR_part_1 rfl (lv_at hl 1 rfl) ?_
  refine ry_callV (n := 1) (As := [.int x]) (rest := []) ⟨hx, hb, hml, hown, htb⟩ (c_LR_checkLevel l dC dI cI cL cZ ad K F S D U V PT n hn x hp) (gV mw_396 mw_398 mp_13 mw_1 mc_LR_checkLevel) rfl rfl (by decide +kernel) ⟨Nat.le_of_ble_eq_true rfl, Nat.le_of_ble_eq_true rfl⟩ hP hK (ci := 0) (q0 := 0) rfl rfl rfl rfl hl.1 rfl (Nat.le_of_ble_eq_true rfl) d_LR_part_2 ⟨Nat.zero_le _, Nat.zero_le _⟩ (fun r_1 hr_1 => ?_)
  refine W.eq (g2 := F0 m 5 ls []) rfl ?_
  refine lv_iload_n hx hb d_LR_part_5 rfl (lv_at hl 2 rfl) ?_
  refine lv_if_lt (tgt := 15) hx hb d_LR_part_6 (by decide) (fun c_6 => ?_) (fun c_6 => ?_)
  · exact absurd c_6 (nI_pos (by omega))
  · refine lv_iload_n hx hb d_LR_part_9 rfl (lv_at hl 2 rfl) ?_
    refine lv_bipush (v := 32) hx hb d_LR_part_10 (by decide) ?_
    refine lv_icmp_lt (tgt := 25) hx hb d_LR_part_12 (by decide) (fun c_12 => ?_) (fun c_12 => ?_)
    · refine lv_iload_n hx hb d_LR_part_25 rfl (lv_at hl 3 rfl) ?_
      refine lv_iconst (v := (-1)) hx hb d_LR_part_26 (by decide) ?_
      refine lv_icmp_ne (tgt := 44) hx hb d_LR_part_27 (by decide) (fun c_27 => ?_) (fun c_27 => ?_)
      · refine lv_iload_n hx hb d_LR_part_44 rfl (lv_at hl 3 rfl) ?_
        refine wz_callS (n := 1) (wr := [((ad 0), .inr (0, [.ref (ad 1), .ref (ad 9), .ref (ad 12)])), ((ad 1), .inr (1, [.ref (ad 2), .ref (ad 3), .ref (ad 4), .ref (ad 5), .ref (ad 6), .ref (ad 7), .ref (ad 8), .int (nI n)])), ((ad 2), .inl (cI, 120, .inl K)), ((ad 3), .inl (cI, 120, .inl F)), ((ad 4), .inl (cI, 120, .inl S)), ((ad 5), .inl (cI, 120, .inl D)), ((ad 6), .inl (cI, 120, .inl U)), ((ad 7), .inl (cI, 120, .inl V)), ((ad 8), .inl (cL, 3840, .inr (.inl PT)))]) (As := [.int p9]) (rest := []) ⟨hx, hb, hml, hown, htb⟩ (c0_LR_checkParameter l htr dC dI cI cL cZ p9 hq s.heap.size) (gL mw_369 mw_370 mw_1 mc_LR_checkParameter) rfl rfl (by decide +kernel) ⟨Nat.le_of_ble_eq_true rfl, Nat.le_of_ble_eq_true rfl⟩ hth hst hP hD hS hA hK [] [0, 1, 2, 3, 4, 5, 6, 7, 8] rfl rfl (by decide) (by decide) (hP.sub [] rfl) ((hD.sub [] (by decide) rfl).weaken (fun _ _ _ _ => trivial)) rfl hl.1 rfl (Nat.le_of_ble_eq_true rfl) d_LR_part_45 ⟨Nat.le_of_ble_eq_true rfl, Nat.le_of_ble_eq_true rfl⟩ (fun r u H locs hpost hP hD hS => ?_) (fun x X u H locs hpt hex hP hD hS => ?_)
        · exact hpost.elim
        · exact wx_out ht0 hlocks (fun t ht hW => ⟨Or.inr ⟨x, X, (), rfl, hpt, ⟨by rw [ht]; exact hP, va_K.moved hW.alike hK, hD⟩, by obtain ⟨cell, g1, g2, g3⟩ := hex; exact ⟨cell, by rw [ht]; exact g1, g2, by rw [hW.alike.findClass]; exact g3⟩⟩, hS.F ht⟩) hS.2.2
      · exact absurd c_27 hq1
    · exact absurd ((nI_ltI (b := 32) (by omega) (by decide)).mpr hg) c_12

set_option maxHeartbeats 4000000 in
set_option maxRecDepth 100000 in
theorem c5_LR_part (l : Launch) (dC : Nat → ClassId) (dI : Nat → Nat → Nat) (cI cL cZ : ClassId) (ad : Nat → Nat) (K F S D U V : Nat → Int32) (PT : Nat → Int64) (n : Nat) (hn : n ≤ 120) (nd : Nat → Nat × Nat × Nat) (hok : LvOk nd n K F S D U PT) (x g : Nat) (hx1 : x < n) (hp : hs (nI x) n = 1) (hg : g < 32) : Met l y_LR_part (cw_LR_part :: tb) (rmH 5 0 0) (va_Pc [.ref (ad 0), .int (nI x), .int (nI g), .int (-1)] (ry_P (dC, dI) classes (wLL cI cL ad K F S D U V PT n) (tyI cI cL cZ))) (ry_S ry_i (fun r => r = nI (pb g nd x 5) - 1)) 0 0 (fun _ => False) := by
  refine Met.ofW (cc := b_LR_part) (maxL := 4) (ret := (some .int)) (by decide +kernel) rfl ?_
  intro p e s m args below meth c s₁ B hml0 hv
  have C0 := cx_of B hml0 rfl
  obtain ⟨hx, hb, hr, hml, hown, htb, hlocks⟩ := id C0
  obtain ⟨rfl, hP, hK⟩ := hv
  have hl := lv_entry ([.ref (ad 0), .int (nI x), .int (nI g), .int (-1)]) (n := 4) (Nat.le_of_ble_eq_true rfl)
  rw [lg_entry_eq]
  generalize (lg_sl ([.ref (ad 0), .int (nI x), .int (nI g), .int (-1)]) ++ List.replicate (4 - (lg_sl ([.ref (ad 0), .int (nI x), .int (nI g), .int (-1)])).length) Slot.unset).toArray = ls at hl ⊢
  have hl : lv_has ls 4 [(0, .ref (ad 0)), (1, .int (nI x)), (2, .int (nI g)), (3, .int (-1))] := hl
  have hP : va_P (dC, dI) classes [((ad 0), .inr (0, [.ref (ad 1), .ref (ad 9), .ref (ad 12)])), ((ad 1), .inr (1, [.ref (ad 2), .ref (ad 3), .ref (ad 4), .ref (ad 5), .ref (ad 6), .ref (ad 7), .ref (ad 8), .int (nI n)])), ((ad 2), .inl (cI, 120, .inl K)), ((ad 3), .inl (cI, 120, .inl F)), ((ad 4), .inl (cI, 120, .inl S)), ((ad 5), .inl (cI, 120, .inl D)), ((ad 6), .inl (cI, 120, .inl U)), ((ad 7), .inl (cI, 120, .inl V)), ((ad 8), .inl (cL, 3840, .inr (.inl PT)))] s.heap := hP
  refine lv_aload_n hx hb d_LR_part_0 rfl (lv_at hl 0 rfl) ?_
  refine lv_iload_n hx hb d_LR_part_1 rfl (lv_at hl 1 rfl) ?_
  refine ry_callV (n := 1) (As := [.int (nI x)]) (rest := []) ⟨hx, hb, hml, hown, htb⟩ (c_LR_checkLevel l dC dI cI cL cZ ad K F S D U V PT n hn (nI x) hp) (gV mw_396 mw_398 mp_13 mw_1 mc_LR_checkLevel) rfl rfl (by decide +kernel) ⟨Nat.le_of_ble_eq_true rfl, Nat.le_of_ble_eq_true rfl⟩ hP hK (ci := 0) (q0 := 0) rfl rfl rfl rfl hl.1 rfl (Nat.le_of_ble_eq_true rfl) d_LR_part_2 ⟨Nat.zero_le _, Nat.zero_le _⟩ (fun r_1 hr_1 => ?_)
  refine W.eq (g2 := F0 m 5 ls []) rfl ?_
  refine lv_iload_n hx hb d_LR_part_5 rfl (lv_at hl 2 rfl) ?_
  refine lv_if_lt (tgt := 15) hx hb d_LR_part_6 (by decide) (fun c_6 => ?_) (fun c_6 => ?_)
  · exact absurd c_6 (nI_pos (by omega))
  · refine lv_iload_n hx hb d_LR_part_9 rfl (lv_at hl 2 rfl) ?_
    refine lv_bipush (v := 32) hx hb d_LR_part_10 (by decide) ?_
    refine lv_icmp_lt (tgt := 25) hx hb d_LR_part_12 (by decide) (fun c_12 => ?_) (fun c_12 => ?_)
    · refine lv_iload_n hx hb d_LR_part_25 rfl (lv_at hl 3 rfl) ?_
      refine lv_iconst (v := (-1)) hx hb d_LR_part_26 (by decide) ?_
      refine lv_icmp_ne (tgt := 44) hx hb d_LR_part_27 (by decide) (fun c_27 => ?_) (fun c_27 => ?_)
      · exact absurd rfl c_27
      · refine lv_aload_n hx hb d_LR_part_30 rfl (lv_at hl 0 rfl) ?_
        refine va_get (D := (dC, dI)) (ci := 0) (v := .ref (ad 1)) (C := R_LR) (T := F_LR) (N := 3) hx hb htb ul_LR hown hK hP 0 rfl rfl 0 (by decide) (htb _ mw_110) (fun _ h9 => h9) rfl d_LR_part_31 ?_
        refine lv_iload_n hx hb d_LR_part_34 rfl (lv_at hl 1 rfl) ?_
        refine lv_iload_n hx hb d_LR_part_35 rfl (lv_at hl 2 rfl) ?_
        refine ry_callV (n := 2) (As := [.int (nI x), .int (nI g)]) (rest := []) ⟨hx, hb, hml, hown, htb⟩ (c_Lv_partsIn l dC dI cI cL cZ ad K F S D U V PT n hn x g (by omega) (by omega)) (gV mw_449 mw_343 mw_344 mw_2 mc_Lv_partsIn) rfl rfl (by decide +kernel) ⟨Nat.le_of_ble_eq_true rfl, Nat.le_of_ble_eq_true rfl⟩ (hP.sub [1, 2, 3, 4, 5, 6, 7, 8] rfl) hK (ci := 1) (q0 := 0) rfl rfl rfl rfl hl.1 rfl (Nat.le_of_ble_eq_true rfl) d_LR_part_36 ⟨Nat.zero_le _, Nat.zero_le _⟩ (fun r_2 hr_2 => ?_)
        refine W.eq (g2 := F0 m 39 ls [.long r_2]) rfl ?_
        rw [hok.2.2.2.2 x hx1 g hg] at hr_2
        subst hr_2
        refine lv_iconst (v := 5) hx hb d_LR_part_39 (by decide) ?_
        refine ry_callS (n := 2) (As := [.long (en (pb g nd x)), .int 5]) (rest := []) ⟨hx, hb, hml, hown, htb⟩ (c_Pt_at l (pb g nd x) (pb_b hok.1 g hx1).2 5 (by decide)) (gS mw_450 mw_350 mw_12 mc_Pt_at) rfl rfl (by decide +kernel) ⟨Nat.le_of_ble_eq_true rfl, Nat.le_of_ble_eq_true rfl⟩ rfl hl.1 rfl (Nat.le_of_ble_eq_true rfl) d_LR_part_40 ⟨Nat.zero_le _, Nat.zero_le _⟩ (fun r_3 hr_3 => ?_)
        subst hr_3
        refine W.eq (g2 := F0 m 43 ls [.int (nI (pb g nd x 5) - 1)]) rfl ?_
        exact W.iret (v := (nI (pb g nd x 5) - 1)) hx hb hr (fun t ht hW => ⟨(nI (pb g nd x 5) - 1), rfl, rfl, ht⟩) (fun _ h => by cases h) d_LR_part_43
    · exact absurd ((nI_ltI (b := 32) (by omega) (by decide)).mpr hg) c_12

set_option maxHeartbeats 4000000 in
set_option maxRecDepth 100000 in
theorem c_LR_part (l : Launch) (dC : Nat → ClassId) (dI : Nat → Nat → Nat) (cI cL cZ : ClassId) (ad : Nat → Nat) (K F S D U V : Nat → Int32) (PT : Nat → Int64) (n : Nat) (hn : n ≤ 120) (nd : Nat → Nat × Nat × Nat) (hok : LvOk nd n K F S D U PT) (x g : Nat) (hx1 : x < n) (hp : hs (nI x) n = 1) (hg : g < 32) (p9 : Nat) (hp5 : p9 < 5) : Met l y_LR_part (cw_LR_part :: tb) (rmH 5 0 0) (va_Pc [.ref (ad 0), .int (nI x), .int (nI g), .int (nI p9)] (ry_P (dC, dI) classes (wLL cI cL ad K F S D U V PT n) (tyI cI cL cZ))) (ry_S ry_i (fun r => r = nI (pb g nd x p9) - 1)) 0 0 (fun _ => False) := by
  refine Met.ofW (cc := b_LR_part) (maxL := 4) (ret := (some .int)) (by decide +kernel) rfl ?_
  intro p e s m args below meth c s₁ B hml0 hv
  have C0 := cx_of B hml0 rfl
  obtain ⟨hx, hb, hr, hml, hown, htb, hlocks⟩ := id C0
  obtain ⟨rfl, hP, hK⟩ := hv
  have hl := lv_entry ([.ref (ad 0), .int (nI x), .int (nI g), .int (nI p9)]) (n := 4) (Nat.le_of_ble_eq_true rfl)
  rw [lg_entry_eq]
  generalize (lg_sl ([.ref (ad 0), .int (nI x), .int (nI g), .int (nI p9)]) ++ List.replicate (4 - (lg_sl ([.ref (ad 0), .int (nI x), .int (nI g), .int (nI p9)])).length) Slot.unset).toArray = ls at hl ⊢
  have hl : lv_has ls 4 [(0, .ref (ad 0)), (1, .int (nI x)), (2, .int (nI g)), (3, .int (nI p9))] := hl
  have hP : va_P (dC, dI) classes [((ad 0), .inr (0, [.ref (ad 1), .ref (ad 9), .ref (ad 12)])), ((ad 1), .inr (1, [.ref (ad 2), .ref (ad 3), .ref (ad 4), .ref (ad 5), .ref (ad 6), .ref (ad 7), .ref (ad 8), .int (nI n)])), ((ad 2), .inl (cI, 120, .inl K)), ((ad 3), .inl (cI, 120, .inl F)), ((ad 4), .inl (cI, 120, .inl S)), ((ad 5), .inl (cI, 120, .inl D)), ((ad 6), .inl (cI, 120, .inl U)), ((ad 7), .inl (cI, 120, .inl V)), ((ad 8), .inl (cL, 3840, .inr (.inl PT)))] s.heap := hP
  refine lv_aload_n hx hb d_LR_part_0 rfl (lv_at hl 0 rfl) ?_
  refine lv_iload_n hx hb d_LR_part_1 rfl (lv_at hl 1 rfl) ?_
  refine ry_callV (n := 1) (As := [.int (nI x)]) (rest := []) ⟨hx, hb, hml, hown, htb⟩ (c_LR_checkLevel l dC dI cI cL cZ ad K F S D U V PT n hn (nI x) hp) (gV mw_396 mw_398 mp_13 mw_1 mc_LR_checkLevel) rfl rfl (by decide +kernel) ⟨Nat.le_of_ble_eq_true rfl, Nat.le_of_ble_eq_true rfl⟩ hP hK (ci := 0) (q0 := 0) rfl rfl rfl rfl hl.1 rfl (Nat.le_of_ble_eq_true rfl) d_LR_part_2 ⟨Nat.zero_le _, Nat.zero_le _⟩ (fun r_1 hr_1 => ?_)
  refine W.eq (g2 := F0 m 5 ls []) rfl ?_
  refine lv_iload_n hx hb d_LR_part_5 rfl (lv_at hl 2 rfl) ?_
  refine lv_if_lt (tgt := 15) hx hb d_LR_part_6 (by decide) (fun c_6 => ?_) (fun c_6 => ?_)
  · exact absurd c_6 (nI_pos (by omega))
  · refine lv_iload_n hx hb d_LR_part_9 rfl (lv_at hl 2 rfl) ?_
    refine lv_bipush (v := 32) hx hb d_LR_part_10 (by decide) ?_
    refine lv_icmp_lt (tgt := 25) hx hb d_LR_part_12 (by decide) (fun c_12 => ?_) (fun c_12 => ?_)
    · refine lv_iload_n hx hb d_LR_part_25 rfl (lv_at hl 3 rfl) ?_
      refine lv_iconst (v := (-1)) hx hb d_LR_part_26 (by decide) ?_
      refine lv_icmp_ne (tgt := 44) hx hb d_LR_part_27 (by decide) (fun c_27 => ?_) (fun c_27 => ?_)
      · refine lv_iload_n hx hb d_LR_part_44 rfl (lv_at hl 3 rfl) ?_
        refine ry_callS (n := 1) (As := [.int (nI p9)]) (rest := []) ⟨hx, hb, hml, hown, htb⟩ (c_LR_checkParameter l p9 hp5) (gS mw_369 mw_370 mw_1 mc_LR_checkParameter) rfl rfl (by decide +kernel) ⟨Nat.le_of_ble_eq_true rfl, Nat.le_of_ble_eq_true rfl⟩ rfl hl.1 rfl (Nat.le_of_ble_eq_true rfl) d_LR_part_45 ⟨Nat.zero_le _, Nat.zero_le _⟩ (fun r_2 hr_2 => ?_)
        refine W.eq (g2 := F0 m 48 ls []) rfl ?_
        refine lv_aload_n hx hb d_LR_part_48 rfl (lv_at hl 0 rfl) ?_
        refine va_get (D := (dC, dI)) (ci := 0) (v := .ref (ad 1)) (C := R_LR) (T := F_LR) (N := 3) hx hb htb ul_LR hown hK hP 0 rfl rfl 0 (by decide) (htb _ mw_110) (fun _ h9 => h9) rfl d_LR_part_49 ?_
        refine lv_iload_n hx hb d_LR_part_52 rfl (lv_at hl 1 rfl) ?_
        refine lv_iload_n hx hb d_LR_part_53 rfl (lv_at hl 2 rfl) ?_
        refine ry_callV (n := 2) (As := [.int (nI x), .int (nI g)]) (rest := []) ⟨hx, hb, hml, hown, htb⟩ (c_Lv_partsIn l dC dI cI cL cZ ad K F S D U V PT n hn x g (by omega) (by omega)) (gV mw_449 mw_343 mw_344 mw_2 mc_Lv_partsIn) rfl rfl (by decide +kernel) ⟨Nat.le_of_ble_eq_true rfl, Nat.le_of_ble_eq_true rfl⟩ (hP.sub [1, 2, 3, 4, 5, 6, 7, 8] rfl) hK (ci := 1) (q0 := 0) rfl rfl rfl rfl hl.1 rfl (Nat.le_of_ble_eq_true rfl) d_LR_part_54 ⟨Nat.zero_le _, Nat.zero_le _⟩ (fun r_3 hr_3 => ?_)
        refine W.eq (g2 := F0 m 57 ls [.long r_3]) rfl ?_
        rw [hok.2.2.2.2 x hx1 g hg] at hr_3
        subst hr_3
        refine lv_iload_n hx hb d_LR_part_57 rfl (lv_at hl 3 rfl) ?_
        refine ry_callS (n := 2) (As := [.long (en (pb g nd x)), .int (nI p9)]) (rest := []) ⟨hx, hb, hml, hown, htb⟩ (c_Pt_at l (pb g nd x) (pb_b hok.1 g hx1).2 p9 (by omega)) (gS mw_450 mw_350 mw_12 mc_Pt_at) rfl rfl (by decide +kernel) ⟨Nat.le_of_ble_eq_true rfl, Nat.le_of_ble_eq_true rfl⟩ rfl hl.1 rfl (Nat.le_of_ble_eq_true rfl) d_LR_part_58 ⟨Nat.zero_le _, Nat.zero_le _⟩ (fun r_4 hr_4 => ?_)
        subst hr_4
        refine W.eq (g2 := F0 m 61 ls [.int (nI (pb g nd x p9) - 1)]) rfl ?_
        exact W.iret (v := (nI (pb g nd x p9) - 1)) hx hb hr (fun t ht hW => ⟨(nI (pb g nd x p9) - 1), rfl, rfl, ht⟩) (fun _ h => by cases h) d_LR_part_61
      · exact absurd c_27 (nI_m1 (by omega))
    · exact absurd ((nI_ltI (b := 32) (by omega) (by decide)).mpr hg) c_12

set_option maxHeartbeats 4000000 in
set_option maxRecDepth 100000 in
theorem c0_LR_isAtMost (l : Launch) (htr : ∀ e, l.admits e → e.platform.stackTraces = false) (dC : Nat → ClassId) (dI : Nat → Nat → Nat) (cI cL cZ : ClassId) (ad : Nat → Nat) (K F S D U V : Nat → Int32) (PT : Nat → Int64) (n : Nat) (hn : n ≤ 120) (x y : Int32) (hp : hs x n = 0) (sz : Nat) : wx_Met l y_LR_isAtMost (cw_LR_isAtMost :: tb) (rmH 8 1 6) (va_Pc [.ref (ad 0), .int x, .int y] (wz_P (dC, dI) classes (wLL cI cL ad K F S D U V PT n) (tyI cI cL cZ) sz)) (wx_Q ry_i (fun r (u : Unit) => False) (fun X (u : Unit) => X = "java/lang/IndexOutOfBoundsException") (wy_B (dC, dI) classes (tyI cI cL cZ) (va_A (wLL cI cL ad K F S D U V PT n) sz) (fun u : Unit => (wLL cI cL ad K F S D U V PT n))) (va_A (wLL cI cL ad K F S D U V PT n) sz)) (va_A (wLL cI cL ad K F S D U V PT n) sz) := by
  refine wx_ofW (cc := b_LR_isAtMost) (maxL := 3) (ret := (some .boolean)) (by decide +kernel) rfl ?_
  intro p e s m args below meth c s₁ B hml0 ht0 hv
  have C0 := cx_of B hml0 rfl
  obtain ⟨hx, hb, hr, hml, hown, htb, hlocks⟩ := id C0
  obtain ⟨rfl, ⟨hsz, hP, hK, hD0⟩, hth, hst⟩ := hv
  subst hsz
  have hD := hD0.self (sz := s.heap.size)
  generalize hAe : va_A (wLL cI cL ad K F S D U V PT n) s.heap.size = A at hD hth ⊢
  have hA : ∀ q : Nat, s.heap.size ≤ q → A q := fun q h => by rw [← hAe]; exact Or.inr h
  have hS : va_S A s.heap s.heap [] := va_S.rf
  have hl := lv_entry ([.ref (ad 0), .int x, .int y]) (n := 3) (Nat.le_of_ble_eq_true rfl)
  rw [lg_entry_eq]
  generalize (lg_sl ([.ref (ad 0), .int x, .int y]) ++ List.replicate (3 - (lg_sl ([.ref (ad 0), .int x, .int y])).length) Slot.unset).toArray = ls at hl ⊢
  have hl : lv_has ls 3 [(0, .ref (ad 0)), (1, .int x), (2, .int y)] := hl
  have hP : va_P (dC, dI) classes [((ad 0), .inr (0, [.ref (ad 1), .ref (ad 9), .ref (ad 12)])), ((ad 1), .inr (1, [.ref (ad 2), .ref (ad 3), .ref (ad 4), .ref (ad 5), .ref (ad 6), .ref (ad 7), .ref (ad 8), .int (nI n)])), ((ad 2), .inl (cI, 120, .inl K)), ((ad 3), .inl (cI, 120, .inl F)), ((ad 4), .inl (cI, 120, .inl S)), ((ad 5), .inl (cI, 120, .inl D)), ((ad 6), .inl (cI, 120, .inl U)), ((ad 7), .inl (cI, 120, .inl V)), ((ad 8), .inl (cL, 3840, .inr (.inl PT)))] s.heap := hP
  have hD : va_D A [((ad 0), .inr (0, [.ref (ad 1), .ref (ad 9), .ref (ad 12)])), ((ad 1), .inr (1, [.ref (ad 2), .ref (ad 3), .ref (ad 4), .ref (ad 5), .ref (ad 6), .ref (ad 7), .ref (ad 8), .int (nI n)])), ((ad 2), .inl (cI, 120, .inl K)), ((ad 3), .inl (cI, 120, .inl F)), ((ad 4), .inl (cI, 120, .inl S)), ((ad 5), .inl (cI, 120, .inl D)), ((ad 6), .inl (cI, 120, .inl U)), ((ad 7), .inl (cI, 120, .inl V)), ((ad 8), .inl (cL, 3840, .inr (.inl PT)))] := hD
  refine lv_aload_n hx hb d_LR_isAtMost_0 rfl (lv_at hl 0 rfl) ?_
  refine lv_iload_n hx hb d_LR_isAtMost_1 rfl (lv_at hl 1 rfl) ?_
  refine wz_callV (n := 1) (wr := []) (As := [.int x]) (rest := []) ⟨hx, hb, hml, hown, htb⟩ (c0_LR_checkLevel l htr dC dI cI cL cZ ad K F S D U V PT n hn x hp s.heap.size) (gV mw_396 mw_398 mp_13 mw_1 mc_LR_checkLevel) rfl rfl (by decide +kernel) ⟨Nat.le_of_ble_eq_true rfl, Nat.le_of_ble_eq_true rfl⟩ hth hst hP hD hS hA hK [0, 1, 2, 3, 4, 5, 6, 7, 8] [] rfl rfl (by decide) (by decide) (hP.sub [0, 1, 2, 3, 4, 5, 6, 7, 8] rfl) ((hD.sub [0, 1, 2, 3, 4, 5, 6, 7, 8] (by decide) rfl).weaken (fun _ _ _ _ => trivial)) (ci := 0) (q0 := 0) rfl rfl rfl rfl hl.1 rfl (Nat.le_of_ble_eq_true rfl) d_LR_isAtMost_2 ⟨Nat.le_of_ble_eq_true rfl, Nat.le_of_ble_eq_true rfl⟩ (fun r u H locs hpost hP hD hS => ?_) (fun x X u H locs hpt hex hP hD hS => ?_)
  · exact hpost.elim
  · exact wx_out ht0 hlocks (fun t ht hW => ⟨Or.inr ⟨x, X, (), rfl, hpt, ⟨by rw [ht]; exact hP, va_K.moved hW.alike hK, hD⟩, by obtain ⟨cell, g1, g2, g3⟩ := hex; exact ⟨cell, by rw [ht]; exact g1, g2, by rw [hW.alike.findClass]; exact g3⟩⟩, hS.F ht⟩) hS.2.2

set_option maxHeartbeats 4000000 in
set_option maxRecDepth 100000 in
theorem c1_LR_isAtMost (l : Launch) (htr : ∀ e, l.admits e → e.platform.stackTraces = false) (dC : Nat → ClassId) (dI : Nat → Nat → Nat) (cI cL cZ : ClassId) (ad : Nat → Nat) (K F S D U V : Nat → Int32) (PT : Nat → Int64) (n : Nat) (hn : n ≤ 120) (x y : Int32) (hp : hs x n = 1) (hp2 : hs y n = 0) (sz : Nat) : wx_Met l y_LR_isAtMost (cw_LR_isAtMost :: tb) (rmH 8 1 6) (va_Pc [.ref (ad 0), .int x, .int y] (wz_P (dC, dI) classes (wLL cI cL ad K F S D U V PT n) (tyI cI cL cZ) sz)) (wx_Q ry_i (fun r (u : Unit) => False) (fun X (u : Unit) => X = "java/lang/IndexOutOfBoundsException") (wy_B (dC, dI) classes (tyI cI cL cZ) (va_A (wLL cI cL ad K F S D U V PT n) sz) (fun u : Unit => (wLL cI cL ad K F S D U V PT n))) (va_A (wLL cI cL ad K F S D U V PT n) sz)) (va_A (wLL cI cL ad K F S D U V PT n) sz) := by
  refine wx_ofW (cc := b_LR_isAtMost) (maxL := 3) (ret := (some .boolean)) (by decide +kernel) rfl ?_
  intro p e s m args below meth c s₁ B hml0 ht0 hv
  have C0 := cx_of B hml0 rfl
  obtain ⟨hx, hb, hr, hml, hown, htb, hlocks⟩ := id C0
  obtain ⟨rfl, ⟨hsz, hP, hK, hD0⟩, hth, hst⟩ := hv
  subst hsz
  have hD := hD0.self (sz := s.heap.size)
  generalize hAe : va_A (wLL cI cL ad K F S D U V PT n) s.heap.size = A at hD hth ⊢
  have hA : ∀ q : Nat, s.heap.size ≤ q → A q := fun q h => by rw [← hAe]; exact Or.inr h
  have hS : va_S A s.heap s.heap [] := va_S.rf
  have hl := lv_entry ([.ref (ad 0), .int x, .int y]) (n := 3) (Nat.le_of_ble_eq_true rfl)
  rw [lg_entry_eq]
  generalize (lg_sl ([.ref (ad 0), .int x, .int y]) ++ List.replicate (3 - (lg_sl ([.ref (ad 0), .int x, .int y])).length) Slot.unset).toArray = ls at hl ⊢
  have hl : lv_has ls 3 [(0, .ref (ad 0)), (1, .int x), (2, .int y)] := hl
  have hP : va_P (dC, dI) classes [((ad 0), .inr (0, [.ref (ad 1), .ref (ad 9), .ref (ad 12)])), ((ad 1), .inr (1, [.ref (ad 2), .ref (ad 3), .ref (ad 4), .ref (ad 5), .ref (ad 6), .ref (ad 7), .ref (ad 8), .int (nI n)])), ((ad 2), .inl (cI, 120, .inl K)), ((ad 3), .inl (cI, 120, .inl F)), ((ad 4), .inl (cI, 120, .inl S)), ((ad 5), .inl (cI, 120, .inl D)), ((ad 6), .inl (cI, 120, .inl U)), ((ad 7), .inl (cI, 120, .inl V)), ((ad 8), .inl (cL, 3840, .inr (.inl PT)))] s.heap := hP
  have hD : va_D A [((ad 0), .inr (0, [.ref (ad 1), .ref (ad 9), .ref (ad 12)])), ((ad 1), .inr (1, [.ref (ad 2), .ref (ad 3), .ref (ad 4), .ref (ad 5), .ref (ad 6), .ref (ad 7), .ref (ad 8), .int (nI n)])), ((ad 2), .inl (cI, 120, .inl K)), ((ad 3), .inl (cI, 120, .inl F)), ((ad 4), .inl (cI, 120, .inl S)), ((ad 5), .inl (cI, 120, .inl D)), ((ad 6), .inl (cI, 120, .inl U)), ((ad 7), .inl (cI, 120, .inl V)), ((ad 8), .inl (cL, 3840, .inr (.inl PT)))] := hD
  refine lv_aload_n hx hb d_LR_isAtMost_0 rfl (lv_at hl 0 rfl) ?_
  refine lv_iload_n hx hb d_LR_isAtMost_1 rfl (lv_at hl 1 rfl) ?_
  refine ry_callV (n := 1) (As := [.int x]) (rest := []) ⟨hx, hb, hml, hown, htb⟩ (c_LR_checkLevel l dC dI cI cL cZ ad K F S D U V PT n hn x hp) (gV mw_396 mw_398 mp_13 mw_1 mc_LR_checkLevel) rfl rfl (by decide +kernel) ⟨Nat.le_of_ble_eq_true rfl, Nat.le_of_ble_eq_true rfl⟩ hP hK (ci := 0) (q0 := 0) rfl rfl rfl rfl hl.1 rfl (Nat.le_of_ble_eq_true rfl) d_LR_isAtMost_2 ⟨Nat.zero_le _, Nat.zero_le _⟩ (fun r_1 hr_1 => ?_)
  refine W.eq (g2 := F0 m 5 ls []) rfl ?_
  refine lv_aload_n hx hb d_LR_isAtMost_5 rfl (lv_at hl 0 rfl) ?_
  refine lv_iload_n hx hb d_LR_isAtMost_6 rfl (lv_at hl 2 rfl) ?_
  refine wz_callV (n := 1) (wr := []) (As := [.int y]) (rest := []) ⟨hx, hb, hml, hown, htb⟩ (c0_LR_checkLevel l htr dC dI cI cL cZ ad K F S D U V PT n hn y hp2 s.heap.size) (gV mw_396 mw_398 mp_13 mw_1 mc_LR_checkLevel) rfl rfl (by decide +kernel) ⟨Nat.le_of_ble_eq_true rfl, Nat.le_of_ble_eq_true rfl⟩ hth hst hP hD hS hA hK [0, 1, 2, 3, 4, 5, 6, 7, 8] [] rfl rfl (by decide) (by decide) (hP.sub [0, 1, 2, 3, 4, 5, 6, 7, 8] rfl) ((hD.sub [0, 1, 2, 3, 4, 5, 6, 7, 8] (by decide) rfl).weaken (fun _ _ _ _ => trivial)) (ci := 0) (q0 := 0) rfl rfl rfl rfl hl.1 rfl (Nat.le_of_ble_eq_true rfl) d_LR_isAtMost_7 ⟨Nat.le_of_ble_eq_true rfl, Nat.le_of_ble_eq_true rfl⟩ (fun r u H locs hpost hP hD hS => ?_) (fun x X u H locs hpt hex hP hD hS => ?_)
  · exact hpost.elim
  · exact wx_out ht0 hlocks (fun t ht hW => ⟨Or.inr ⟨x, X, (), rfl, hpt, ⟨by rw [ht]; exact hP, va_K.moved hW.alike hK, hD⟩, by obtain ⟨cell, g1, g2, g3⟩ := hex; exact ⟨cell, by rw [ht]; exact g1, g2, by rw [hW.alike.findClass]; exact g3⟩⟩, hS.F ht⟩) hS.2.2

set_option maxHeartbeats 4000000 in
set_option maxRecDepth 100000 in
theorem c0_LR_isSame (l : Launch) (htr : ∀ e, l.admits e → e.platform.stackTraces = false) (dC : Nat → ClassId) (dI : Nat → Nat → Nat) (cI cL cZ : ClassId) (ad : Nat → Nat) (K F S D U V : Nat → Int32) (PT : Nat → Int64) (n : Nat) (hn : n ≤ 120) (x y : Int32) (hp : hs x n = 0) (sz : Nat) : wx_Met l y_LR_isSame (cw_LR_isSame :: tb) (rmH 8 1 6) (va_Pc [.ref (ad 0), .int x, .int y] (wz_P (dC, dI) classes (wLL cI cL ad K F S D U V PT n) (tyI cI cL cZ) sz)) (wx_Q ry_i (fun r (u : Unit) => False) (fun X (u : Unit) => X = "java/lang/IndexOutOfBoundsException") (wy_B (dC, dI) classes (tyI cI cL cZ) (va_A (wLL cI cL ad K F S D U V PT n) sz) (fun u : Unit => (wLL cI cL ad K F S D U V PT n))) (va_A (wLL cI cL ad K F S D U V PT n) sz)) (va_A (wLL cI cL ad K F S D U V PT n) sz) := by
  refine wx_ofW (cc := b_LR_isSame) (maxL := 3) (ret := (some .boolean)) (by decide +kernel) rfl ?_
  intro p e s m args below meth c s₁ B hml0 ht0 hv
  have C0 := cx_of B hml0 rfl
  obtain ⟨hx, hb, hr, hml, hown, htb, hlocks⟩ := id C0
  obtain ⟨rfl, ⟨hsz, hP, hK, hD0⟩, hth, hst⟩ := hv
  subst hsz
  have hD := hD0.self (sz := s.heap.size)
  generalize hAe : va_A (wLL cI cL ad K F S D U V PT n) s.heap.size = A at hD hth ⊢
  have hA : ∀ q : Nat, s.heap.size ≤ q → A q := fun q h => by rw [← hAe]; exact Or.inr h
  have hS : va_S A s.heap s.heap [] := va_S.rf
  have hl := lv_entry ([.ref (ad 0), .int x, .int y]) (n := 3) (Nat.le_of_ble_eq_true rfl)
  rw [lg_entry_eq]
  generalize (lg_sl ([.ref (ad 0), .int x, .int y]) ++ List.replicate (3 - (lg_sl ([.ref (ad 0), .int x, .int y])).length) Slot.unset).toArray = ls at hl ⊢
  have hl : lv_has ls 3 [(0, .ref (ad 0)), (1, .int x), (2, .int y)] := hl
  have hP : va_P (dC, dI) classes [((ad 0), .inr (0, [.ref (ad 1), .ref (ad 9), .ref (ad 12)])), ((ad 1), .inr (1, [.ref (ad 2), .ref (ad 3), .ref (ad 4), .ref (ad 5), .ref (ad 6), .ref (ad 7), .ref (ad 8), .int (nI n)])), ((ad 2), .inl (cI, 120, .inl K)), ((ad 3), .inl (cI, 120, .inl F)), ((ad 4), .inl (cI, 120, .inl S)), ((ad 5), .inl (cI, 120, .inl D)), ((ad 6), .inl (cI, 120, .inl U)), ((ad 7), .inl (cI, 120, .inl V)), ((ad 8), .inl (cL, 3840, .inr (.inl PT)))] s.heap := hP
  have hD : va_D A [((ad 0), .inr (0, [.ref (ad 1), .ref (ad 9), .ref (ad 12)])), ((ad 1), .inr (1, [.ref (ad 2), .ref (ad 3), .ref (ad 4), .ref (ad 5), .ref (ad 6), .ref (ad 7), .ref (ad 8), .int (nI n)])), ((ad 2), .inl (cI, 120, .inl K)), ((ad 3), .inl (cI, 120, .inl F)), ((ad 4), .inl (cI, 120, .inl S)), ((ad 5), .inl (cI, 120, .inl D)), ((ad 6), .inl (cI, 120, .inl U)), ((ad 7), .inl (cI, 120, .inl V)), ((ad 8), .inl (cL, 3840, .inr (.inl PT)))] := hD
  refine lv_aload_n hx hb d_LR_isSame_0 rfl (lv_at hl 0 rfl) ?_
  refine lv_iload_n hx hb d_LR_isSame_1 rfl (lv_at hl 1 rfl) ?_
  refine wz_callV (n := 1) (wr := []) (As := [.int x]) (rest := []) ⟨hx, hb, hml, hown, htb⟩ (c0_LR_checkLevel l htr dC dI cI cL cZ ad K F S D U V PT n hn x hp s.heap.size) (gV mw_396 mw_398 mp_13 mw_1 mc_LR_checkLevel) rfl rfl (by decide +kernel) ⟨Nat.le_of_ble_eq_true rfl, Nat.le_of_ble_eq_true rfl⟩ hth hst hP hD hS hA hK [0, 1, 2, 3, 4, 5, 6, 7, 8] [] rfl rfl (by decide) (by decide) (hP.sub [0, 1, 2, 3, 4, 5, 6, 7, 8] rfl) ((hD.sub [0, 1, 2, 3, 4, 5, 6, 7, 8] (by decide) rfl).weaken (fun _ _ _ _ => trivial)) (ci := 0) (q0 := 0) rfl rfl rfl rfl hl.1 rfl (Nat.le_of_ble_eq_true rfl) d_LR_isSame_2 ⟨Nat.le_of_ble_eq_true rfl, Nat.le_of_ble_eq_true rfl⟩ (fun r u H locs hpost hP hD hS => ?_) (fun x X u H locs hpt hex hP hD hS => ?_)
  · exact hpost.elim
  · exact wx_out ht0 hlocks (fun t ht hW => ⟨Or.inr ⟨x, X, (), rfl, hpt, ⟨by rw [ht]; exact hP, va_K.moved hW.alike hK, hD⟩, by obtain ⟨cell, g1, g2, g3⟩ := hex; exact ⟨cell, by rw [ht]; exact g1, g2, by rw [hW.alike.findClass]; exact g3⟩⟩, hS.F ht⟩) hS.2.2

set_option maxHeartbeats 4000000 in
set_option maxRecDepth 100000 in
theorem c1_LR_isSame (l : Launch) (htr : ∀ e, l.admits e → e.platform.stackTraces = false) (dC : Nat → ClassId) (dI : Nat → Nat → Nat) (cI cL cZ : ClassId) (ad : Nat → Nat) (K F S D U V : Nat → Int32) (PT : Nat → Int64) (n : Nat) (hn : n ≤ 120) (x y : Int32) (hp : hs x n = 1) (hp2 : hs y n = 0) (sz : Nat) : wx_Met l y_LR_isSame (cw_LR_isSame :: tb) (rmH 8 1 6) (va_Pc [.ref (ad 0), .int x, .int y] (wz_P (dC, dI) classes (wLL cI cL ad K F S D U V PT n) (tyI cI cL cZ) sz)) (wx_Q ry_i (fun r (u : Unit) => False) (fun X (u : Unit) => X = "java/lang/IndexOutOfBoundsException") (wy_B (dC, dI) classes (tyI cI cL cZ) (va_A (wLL cI cL ad K F S D U V PT n) sz) (fun u : Unit => (wLL cI cL ad K F S D U V PT n))) (va_A (wLL cI cL ad K F S D U V PT n) sz)) (va_A (wLL cI cL ad K F S D U V PT n) sz) := by
  refine wx_ofW (cc := b_LR_isSame) (maxL := 3) (ret := (some .boolean)) (by decide +kernel) rfl ?_
  intro p e s m args below meth c s₁ B hml0 ht0 hv
  have C0 := cx_of B hml0 rfl
  obtain ⟨hx, hb, hr, hml, hown, htb, hlocks⟩ := id C0
  obtain ⟨rfl, ⟨hsz, hP, hK, hD0⟩, hth, hst⟩ := hv
  subst hsz
  have hD := hD0.self (sz := s.heap.size)
  generalize hAe : va_A (wLL cI cL ad K F S D U V PT n) s.heap.size = A at hD hth ⊢
  have hA : ∀ q : Nat, s.heap.size ≤ q → A q := fun q h => by rw [← hAe]; exact Or.inr h
  have hS : va_S A s.heap s.heap [] := va_S.rf
  have hl := lv_entry ([.ref (ad 0), .int x, .int y]) (n := 3) (Nat.le_of_ble_eq_true rfl)
  rw [lg_entry_eq]
  generalize (lg_sl ([.ref (ad 0), .int x, .int y]) ++ List.replicate (3 - (lg_sl ([.ref (ad 0), .int x, .int y])).length) Slot.unset).toArray = ls at hl ⊢
  have hl : lv_has ls 3 [(0, .ref (ad 0)), (1, .int x), (2, .int y)] := hl
  have hP : va_P (dC, dI) classes [((ad 0), .inr (0, [.ref (ad 1), .ref (ad 9), .ref (ad 12)])), ((ad 1), .inr (1, [.ref (ad 2), .ref (ad 3), .ref (ad 4), .ref (ad 5), .ref (ad 6), .ref (ad 7), .ref (ad 8), .int (nI n)])), ((ad 2), .inl (cI, 120, .inl K)), ((ad 3), .inl (cI, 120, .inl F)), ((ad 4), .inl (cI, 120, .inl S)), ((ad 5), .inl (cI, 120, .inl D)), ((ad 6), .inl (cI, 120, .inl U)), ((ad 7), .inl (cI, 120, .inl V)), ((ad 8), .inl (cL, 3840, .inr (.inl PT)))] s.heap := hP
  have hD : va_D A [((ad 0), .inr (0, [.ref (ad 1), .ref (ad 9), .ref (ad 12)])), ((ad 1), .inr (1, [.ref (ad 2), .ref (ad 3), .ref (ad 4), .ref (ad 5), .ref (ad 6), .ref (ad 7), .ref (ad 8), .int (nI n)])), ((ad 2), .inl (cI, 120, .inl K)), ((ad 3), .inl (cI, 120, .inl F)), ((ad 4), .inl (cI, 120, .inl S)), ((ad 5), .inl (cI, 120, .inl D)), ((ad 6), .inl (cI, 120, .inl U)), ((ad 7), .inl (cI, 120, .inl V)), ((ad 8), .inl (cL, 3840, .inr (.inl PT)))] := hD
  refine lv_aload_n hx hb d_LR_isSame_0 rfl (lv_at hl 0 rfl) ?_
  refine lv_iload_n hx hb d_LR_isSame_1 rfl (lv_at hl 1 rfl) ?_
  refine ry_callV (n := 1) (As := [.int x]) (rest := []) ⟨hx, hb, hml, hown, htb⟩ (c_LR_checkLevel l dC dI cI cL cZ ad K F S D U V PT n hn x hp) (gV mw_396 mw_398 mp_13 mw_1 mc_LR_checkLevel) rfl rfl (by decide +kernel) ⟨Nat.le_of_ble_eq_true rfl, Nat.le_of_ble_eq_true rfl⟩ hP hK (ci := 0) (q0 := 0) rfl rfl rfl rfl hl.1 rfl (Nat.le_of_ble_eq_true rfl) d_LR_isSame_2 ⟨Nat.zero_le _, Nat.zero_le _⟩ (fun r_1 hr_1 => ?_)
  refine W.eq (g2 := F0 m 5 ls []) rfl ?_
  refine lv_aload_n hx hb d_LR_isSame_5 rfl (lv_at hl 0 rfl) ?_
  refine lv_iload_n hx hb d_LR_isSame_6 rfl (lv_at hl 2 rfl) ?_
  refine wz_callV (n := 1) (wr := []) (As := [.int y]) (rest := []) ⟨hx, hb, hml, hown, htb⟩ (c0_LR_checkLevel l htr dC dI cI cL cZ ad K F S D U V PT n hn y hp2 s.heap.size) (gV mw_396 mw_398 mp_13 mw_1 mc_LR_checkLevel) rfl rfl (by decide +kernel) ⟨Nat.le_of_ble_eq_true rfl, Nat.le_of_ble_eq_true rfl⟩ hth hst hP hD hS hA hK [0, 1, 2, 3, 4, 5, 6, 7, 8] [] rfl rfl (by decide) (by decide) (hP.sub [0, 1, 2, 3, 4, 5, 6, 7, 8] rfl) ((hD.sub [0, 1, 2, 3, 4, 5, 6, 7, 8] (by decide) rfl).weaken (fun _ _ _ _ => trivial)) (ci := 0) (q0 := 0) rfl rfl rfl rfl hl.1 rfl (Nat.le_of_ble_eq_true rfl) d_LR_isSame_7 ⟨Nat.le_of_ble_eq_true rfl, Nat.le_of_ble_eq_true rfl⟩ (fun r u H locs hpost hP hD hS => ?_) (fun x X u H locs hpt hex hP hD hS => ?_)
  · exact hpost.elim
  · exact wx_out ht0 hlocks (fun t ht hW => ⟨Or.inr ⟨x, X, (), rfl, hpt, ⟨by rw [ht]; exact hP, va_K.moved hW.alike hK, hD⟩, by obtain ⟨cell, g1, g2, g3⟩ := hex; exact ⟨cell, by rw [ht]; exact g1, g2, by rw [hW.alike.findClass]; exact g3⟩⟩, hS.F ht⟩) hS.2.2

set_option maxHeartbeats 4000000 in
set_option maxRecDepth 100000 in
theorem c0_LR_above (l : Launch) (htr : ∀ e, l.admits e → e.platform.stackTraces = false) (dC : Nat → ClassId) (dI : Nat → Nat → Nat) (cI cL cZ : ClassId) (ad : Nat → Nat) (K F S D U V : Nat → Int32) (PT : Nat → Int64) (n : Nat) (hn : n ≤ 120) (x y : Int32) (hp : hs x n = 0) (sz : Nat) : wx_Met l y_LR_above (cw_LR_above :: tb) (rmH 8 1 6) (va_Pc [.ref (ad 0), .int x, .int y] (wz_P (dC, dI) classes (wLL cI cL ad K F S D U V PT n) (tyI cI cL cZ) sz)) (wx_Q ry_l (fun r (u : Unit) => False) (fun X (u : Unit) => X = "java/lang/IndexOutOfBoundsException") (wy_B (dC, dI) classes (tyI cI cL cZ) (va_A (wLL cI cL ad K F S D U V PT n) sz) (fun u : Unit => (wLL cI cL ad K F S D U V PT n))) (va_A (wLL cI cL ad K F S D U V PT n) sz)) (va_A (wLL cI cL ad K F S D U V PT n) sz) := by
  refine wx_ofW (cc := b_LR_above) (maxL := 4) (ret := (some .long)) (by decide +kernel) rfl ?_
  intro p e s m args below meth c s₁ B hml0 ht0 hv
  have C0 := cx_of B hml0 rfl
  obtain ⟨hx, hb, hr, hml, hown, htb, hlocks⟩ := id C0
  obtain ⟨rfl, ⟨hsz, hP, hK, hD0⟩, hth, hst⟩ := hv
  subst hsz
  have hD := hD0.self (sz := s.heap.size)
  generalize hAe : va_A (wLL cI cL ad K F S D U V PT n) s.heap.size = A at hD hth ⊢
  have hA : ∀ q : Nat, s.heap.size ≤ q → A q := fun q h => by rw [← hAe]; exact Or.inr h
  have hS : va_S A s.heap s.heap [] := va_S.rf
  have hl := lv_entry ([.ref (ad 0), .int x, .int y]) (n := 4) (Nat.le_of_ble_eq_true rfl)
  rw [lg_entry_eq]
  generalize (lg_sl ([.ref (ad 0), .int x, .int y]) ++ List.replicate (4 - (lg_sl ([.ref (ad 0), .int x, .int y])).length) Slot.unset).toArray = ls at hl ⊢
  have hl : lv_has ls 4 [(0, .ref (ad 0)), (1, .int x), (2, .int y)] := hl
  have hP : va_P (dC, dI) classes [((ad 0), .inr (0, [.ref (ad 1), .ref (ad 9), .ref (ad 12)])), ((ad 1), .inr (1, [.ref (ad 2), .ref (ad 3), .ref (ad 4), .ref (ad 5), .ref (ad 6), .ref (ad 7), .ref (ad 8), .int (nI n)])), ((ad 2), .inl (cI, 120, .inl K)), ((ad 3), .inl (cI, 120, .inl F)), ((ad 4), .inl (cI, 120, .inl S)), ((ad 5), .inl (cI, 120, .inl D)), ((ad 6), .inl (cI, 120, .inl U)), ((ad 7), .inl (cI, 120, .inl V)), ((ad 8), .inl (cL, 3840, .inr (.inl PT)))] s.heap := hP
  have hD : va_D A [((ad 0), .inr (0, [.ref (ad 1), .ref (ad 9), .ref (ad 12)])), ((ad 1), .inr (1, [.ref (ad 2), .ref (ad 3), .ref (ad 4), .ref (ad 5), .ref (ad 6), .ref (ad 7), .ref (ad 8), .int (nI n)])), ((ad 2), .inl (cI, 120, .inl K)), ((ad 3), .inl (cI, 120, .inl F)), ((ad 4), .inl (cI, 120, .inl S)), ((ad 5), .inl (cI, 120, .inl D)), ((ad 6), .inl (cI, 120, .inl U)), ((ad 7), .inl (cI, 120, .inl V)), ((ad 8), .inl (cL, 3840, .inr (.inl PT)))] := hD
  refine lv_aload_n hx hb d_LR_above_0 rfl (lv_at hl 0 rfl) ?_
  refine lv_iload_n hx hb d_LR_above_1 rfl (lv_at hl 1 rfl) ?_
  refine wz_callV (n := 1) (wr := []) (As := [.int x]) (rest := []) ⟨hx, hb, hml, hown, htb⟩ (c0_LR_checkLevel l htr dC dI cI cL cZ ad K F S D U V PT n hn x hp s.heap.size) (gV mw_396 mw_398 mp_13 mw_1 mc_LR_checkLevel) rfl rfl (by decide +kernel) ⟨Nat.le_of_ble_eq_true rfl, Nat.le_of_ble_eq_true rfl⟩ hth hst hP hD hS hA hK [0, 1, 2, 3, 4, 5, 6, 7, 8] [] rfl rfl (by decide) (by decide) (hP.sub [0, 1, 2, 3, 4, 5, 6, 7, 8] rfl) ((hD.sub [0, 1, 2, 3, 4, 5, 6, 7, 8] (by decide) rfl).weaken (fun _ _ _ _ => trivial)) (ci := 0) (q0 := 0) rfl rfl rfl rfl hl.1 rfl (Nat.le_of_ble_eq_true rfl) d_LR_above_2 ⟨Nat.le_of_ble_eq_true rfl, Nat.le_of_ble_eq_true rfl⟩ (fun r u H locs hpost hP hD hS => ?_) (fun x X u H locs hpt hex hP hD hS => ?_)
  · exact hpost.elim
  · exact wx_out ht0 hlocks (fun t ht hW => ⟨Or.inr ⟨x, X, (), rfl, hpt, ⟨by rw [ht]; exact hP, va_K.moved hW.alike hK, hD⟩, by obtain ⟨cell, g1, g2, g3⟩ := hex; exact ⟨cell, by rw [ht]; exact g1, g2, by rw [hW.alike.findClass]; exact g3⟩⟩, hS.F ht⟩) hS.2.2

set_option maxHeartbeats 4000000 in
set_option maxRecDepth 100000 in
theorem c1_LR_above (l : Launch) (htr : ∀ e, l.admits e → e.platform.stackTraces = false) (dC : Nat → ClassId) (dI : Nat → Nat → Nat) (cI cL cZ : ClassId) (ad : Nat → Nat) (K F S D U V : Nat → Int32) (PT : Nat → Int64) (n : Nat) (hn : n ≤ 120) (x y : Int32) (hp : hs x n = 1) (hp2 : hs y n = 0) (sz : Nat) : wx_Met l y_LR_above (cw_LR_above :: tb) (rmH 8 1 6) (va_Pc [.ref (ad 0), .int x, .int y] (wz_P (dC, dI) classes (wLL cI cL ad K F S D U V PT n) (tyI cI cL cZ) sz)) (wx_Q ry_l (fun r (u : Unit) => False) (fun X (u : Unit) => X = "java/lang/IndexOutOfBoundsException") (wy_B (dC, dI) classes (tyI cI cL cZ) (va_A (wLL cI cL ad K F S D U V PT n) sz) (fun u : Unit => (wLL cI cL ad K F S D U V PT n))) (va_A (wLL cI cL ad K F S D U V PT n) sz)) (va_A (wLL cI cL ad K F S D U V PT n) sz) := by
  refine wx_ofW (cc := b_LR_above) (maxL := 4) (ret := (some .long)) (by decide +kernel) rfl ?_
  intro p e s m args below meth c s₁ B hml0 ht0 hv
  have C0 := cx_of B hml0 rfl
  obtain ⟨hx, hb, hr, hml, hown, htb, hlocks⟩ := id C0
  obtain ⟨rfl, ⟨hsz, hP, hK, hD0⟩, hth, hst⟩ := hv
  subst hsz
  have hD := hD0.self (sz := s.heap.size)
  generalize hAe : va_A (wLL cI cL ad K F S D U V PT n) s.heap.size = A at hD hth ⊢
  have hA : ∀ q : Nat, s.heap.size ≤ q → A q := fun q h => by rw [← hAe]; exact Or.inr h
  have hS : va_S A s.heap s.heap [] := va_S.rf
  have hl := lv_entry ([.ref (ad 0), .int x, .int y]) (n := 4) (Nat.le_of_ble_eq_true rfl)
  rw [lg_entry_eq]
  generalize (lg_sl ([.ref (ad 0), .int x, .int y]) ++ List.replicate (4 - (lg_sl ([.ref (ad 0), .int x, .int y])).length) Slot.unset).toArray = ls at hl ⊢
  have hl : lv_has ls 4 [(0, .ref (ad 0)), (1, .int x), (2, .int y)] := hl
  have hP : va_P (dC, dI) classes [((ad 0), .inr (0, [.ref (ad 1), .ref (ad 9), .ref (ad 12)])), ((ad 1), .inr (1, [.ref (ad 2), .ref (ad 3), .ref (ad 4), .ref (ad 5), .ref (ad 6), .ref (ad 7), .ref (ad 8), .int (nI n)])), ((ad 2), .inl (cI, 120, .inl K)), ((ad 3), .inl (cI, 120, .inl F)), ((ad 4), .inl (cI, 120, .inl S)), ((ad 5), .inl (cI, 120, .inl D)), ((ad 6), .inl (cI, 120, .inl U)), ((ad 7), .inl (cI, 120, .inl V)), ((ad 8), .inl (cL, 3840, .inr (.inl PT)))] s.heap := hP
  have hD : va_D A [((ad 0), .inr (0, [.ref (ad 1), .ref (ad 9), .ref (ad 12)])), ((ad 1), .inr (1, [.ref (ad 2), .ref (ad 3), .ref (ad 4), .ref (ad 5), .ref (ad 6), .ref (ad 7), .ref (ad 8), .int (nI n)])), ((ad 2), .inl (cI, 120, .inl K)), ((ad 3), .inl (cI, 120, .inl F)), ((ad 4), .inl (cI, 120, .inl S)), ((ad 5), .inl (cI, 120, .inl D)), ((ad 6), .inl (cI, 120, .inl U)), ((ad 7), .inl (cI, 120, .inl V)), ((ad 8), .inl (cL, 3840, .inr (.inl PT)))] := hD
  refine lv_aload_n hx hb d_LR_above_0 rfl (lv_at hl 0 rfl) ?_
  refine lv_iload_n hx hb d_LR_above_1 rfl (lv_at hl 1 rfl) ?_
  refine ry_callV (n := 1) (As := [.int x]) (rest := []) ⟨hx, hb, hml, hown, htb⟩ (c_LR_checkLevel l dC dI cI cL cZ ad K F S D U V PT n hn x hp) (gV mw_396 mw_398 mp_13 mw_1 mc_LR_checkLevel) rfl rfl (by decide +kernel) ⟨Nat.le_of_ble_eq_true rfl, Nat.le_of_ble_eq_true rfl⟩ hP hK (ci := 0) (q0 := 0) rfl rfl rfl rfl hl.1 rfl (Nat.le_of_ble_eq_true rfl) d_LR_above_2 ⟨Nat.zero_le _, Nat.zero_le _⟩ (fun r_1 hr_1 => ?_)
  refine W.eq (g2 := F0 m 5 ls []) rfl ?_
  refine lv_aload_n hx hb d_LR_above_5 rfl (lv_at hl 0 rfl) ?_
  refine lv_iload_n hx hb d_LR_above_6 rfl (lv_at hl 2 rfl) ?_
  refine wz_callV (n := 1) (wr := []) (As := [.int y]) (rest := []) ⟨hx, hb, hml, hown, htb⟩ (c0_LR_checkLevel l htr dC dI cI cL cZ ad K F S D U V PT n hn y hp2 s.heap.size) (gV mw_396 mw_398 mp_13 mw_1 mc_LR_checkLevel) rfl rfl (by decide +kernel) ⟨Nat.le_of_ble_eq_true rfl, Nat.le_of_ble_eq_true rfl⟩ hth hst hP hD hS hA hK [0, 1, 2, 3, 4, 5, 6, 7, 8] [] rfl rfl (by decide) (by decide) (hP.sub [0, 1, 2, 3, 4, 5, 6, 7, 8] rfl) ((hD.sub [0, 1, 2, 3, 4, 5, 6, 7, 8] (by decide) rfl).weaken (fun _ _ _ _ => trivial)) (ci := 0) (q0 := 0) rfl rfl rfl rfl hl.1 rfl (Nat.le_of_ble_eq_true rfl) d_LR_above_7 ⟨Nat.le_of_ble_eq_true rfl, Nat.le_of_ble_eq_true rfl⟩ (fun r u H locs hpost hP hD hS => ?_) (fun x X u H locs hpt hex hP hD hS => ?_)
  · exact hpost.elim
  · exact wx_out ht0 hlocks (fun t ht hW => ⟨Or.inr ⟨x, X, (), rfl, hpt, ⟨by rw [ht]; exact hP, va_K.moved hW.alike hK, hD⟩, by obtain ⟨cell, g1, g2, g3⟩ := hex; exact ⟨cell, by rw [ht]; exact g1, g2, by rw [hW.alike.findClass]; exact g3⟩⟩, hS.F ht⟩) hS.2.2

set_option maxHeartbeats 4000000 in
set_option maxRecDepth 100000 in
theorem c_LR_isAtMost (l : Launch) (dC : Nat → ClassId) (dI : Nat → Nat → Nat) (cI cL cZ : ClassId) (ad : Nat → Nat) (K F S D U V : Nat → Int32) (PT : Nat → Int64) (n : Nat) (hn : n ≤ 120) (nd : Nat → Nat × Nat × Nat) (hok : LvOk nd n K F S D U PT) (x y : Nat) (hx1 : x < n) (hy1 : y < n) (hp : hs (nI x) n = 1) (hp2 : hs (nI y) n = 1) : Met l y_LR_isAtMost (cw_LR_isAtMost :: tb) (rmH 5 0 0) (va_Pc [.ref (ad 0), .int (nI x), .int (nI y)] (ry_P (dC, dI) classes (wLL cI cL ad K F S D U V PT n) (tyI cI cL cZ))) (ry_S ry_i (fun r => r = if fra nd x y = -1 then 1 else 0)) 0 0 (fun _ => False) := by
  refine Met.ofW (cc := b_LR_isAtMost) (maxL := 3) (ret := (some .boolean)) (by decide +kernel) rfl ?_
  intro p e s m args below meth c s₁ B hml0 hv
  have C0 := cx_of B hml0 rfl
  obtain ⟨hx, hb, hr, hml, hown, htb, hlocks⟩ := id C0
  obtain ⟨rfl, hP, hK⟩ := hv
  have hl := lv_entry ([.ref (ad 0), .int (nI x), .int (nI y)]) (n := 3) (Nat.le_of_ble_eq_true rfl)
  rw [lg_entry_eq]
  generalize (lg_sl ([.ref (ad 0), .int (nI x), .int (nI y)]) ++ List.replicate (3 - (lg_sl ([.ref (ad 0), .int (nI x), .int (nI y)])).length) Slot.unset).toArray = ls at hl ⊢
  have hl : lv_has ls 3 [(0, .ref (ad 0)), (1, .int (nI x)), (2, .int (nI y))] := hl
  have hP : va_P (dC, dI) classes [((ad 0), .inr (0, [.ref (ad 1), .ref (ad 9), .ref (ad 12)])), ((ad 1), .inr (1, [.ref (ad 2), .ref (ad 3), .ref (ad 4), .ref (ad 5), .ref (ad 6), .ref (ad 7), .ref (ad 8), .int (nI n)])), ((ad 2), .inl (cI, 120, .inl K)), ((ad 3), .inl (cI, 120, .inl F)), ((ad 4), .inl (cI, 120, .inl S)), ((ad 5), .inl (cI, 120, .inl D)), ((ad 6), .inl (cI, 120, .inl U)), ((ad 7), .inl (cI, 120, .inl V)), ((ad 8), .inl (cL, 3840, .inr (.inl PT)))] s.heap := hP
  refine lv_aload_n hx hb d_LR_isAtMost_0 rfl (lv_at hl 0 rfl) ?_
  refine lv_iload_n hx hb d_LR_isAtMost_1 rfl (lv_at hl 1 rfl) ?_
  refine ry_callV (n := 1) (As := [.int (nI x)]) (rest := []) ⟨hx, hb, hml, hown, htb⟩ (c_LR_checkLevel l dC dI cI cL cZ ad K F S D U V PT n hn (nI x) hp) (gV mw_396 mw_398 mp_13 mw_1 mc_LR_checkLevel) rfl rfl (by decide +kernel) ⟨Nat.le_of_ble_eq_true rfl, Nat.le_of_ble_eq_true rfl⟩ hP hK (ci := 0) (q0 := 0) rfl rfl rfl rfl hl.1 rfl (Nat.le_of_ble_eq_true rfl) d_LR_isAtMost_2 ⟨Nat.zero_le _, Nat.zero_le _⟩ (fun r_1 hr_1 => ?_)
  refine W.eq (g2 := F0 m 5 ls []) rfl ?_
  refine lv_aload_n hx hb d_LR_isAtMost_5 rfl (lv_at hl 0 rfl) ?_
  refine lv_iload_n hx hb d_LR_isAtMost_6 rfl (lv_at hl 2 rfl) ?_
  refine ry_callV (n := 1) (As := [.int (nI y)]) (rest := []) ⟨hx, hb, hml, hown, htb⟩ (c_LR_checkLevel l dC dI cI cL cZ ad K F S D U V PT n hn (nI y) hp2) (gV mw_396 mw_398 mp_13 mw_1 mc_LR_checkLevel) rfl rfl (by decide +kernel) ⟨Nat.le_of_ble_eq_true rfl, Nat.le_of_ble_eq_true rfl⟩ hP hK (ci := 0) (q0 := 0) rfl rfl rfl rfl hl.1 rfl (Nat.le_of_ble_eq_true rfl) d_LR_isAtMost_7 ⟨Nat.zero_le _, Nat.zero_le _⟩ (fun r_2 hr_2 => ?_)
  refine W.eq (g2 := F0 m 10 ls []) rfl ?_
  refine lv_aload_n hx hb d_LR_isAtMost_10 rfl (lv_at hl 0 rfl) ?_
  refine va_get (D := (dC, dI)) (ci := 0) (v := .ref (ad 1)) (C := R_LR) (T := F_LR) (N := 3) hx hb htb ul_LR hown hK hP 0 rfl rfl 0 (by decide) (htb _ mw_110) (fun _ h9 => h9) rfl d_LR_isAtMost_11 ?_
  refine lv_iload_n hx hb d_LR_isAtMost_14 rfl (lv_at hl 1 rfl) ?_
  refine lv_iload_n hx hb d_LR_isAtMost_15 rfl (lv_at hl 2 rfl) ?_
  refine ry_callV (n := 2) (As := [.int (nI x), .int (nI y)]) (rest := []) ⟨hx, hb, hml, hown, htb⟩ (c_Lv_firstRegionAbove l dC dI cI cL cZ ad K F S D U V PT n hn x y (by omega) (by omega) (fun g => pb g nd x) (fun g => pb g nd y) (fun g => (pb_b hok.1 g hx1).2) (fun g => (pb_b hok.1 g hy1).2) (fun g hg => hok.2.2.2.2 x hx1 g hg) (fun g hg => hok.2.2.2.2 y hy1 g hg)) (gV mw_458 mw_459 mw_460 mw_2 mc_Lv_firstRegionAbove) rfl rfl (by decide +kernel) ⟨Nat.le_of_ble_eq_true rfl, Nat.le_of_ble_eq_true rfl⟩ (hP.sub [1, 2, 3, 4, 5, 6, 7, 8] rfl) hK (ci := 1) (q0 := 0) rfl rfl rfl rfl hl.1 rfl (Nat.le_of_ble_eq_true rfl) d_LR_isAtMost_16 ⟨Nat.zero_le _, Nat.zero_le _⟩ (fun r_3 hr_3 => ?_)
  refine W.eq (g2 := F0 m 19 ls [.int r_3]) rfl ?_
  have hr_3 : r_3 = fra nd x y := hr_3
  subst hr_3
  refine lv_iconst (v := (-1)) hx hb d_LR_isAtMost_19 (by decide) ?_
  refine lv_icmp_ne (tgt := 27) hx hb d_LR_isAtMost_20 (by decide) (fun c_20 => ?_) (fun c_20 => ?_)
  · refine lv_iconst (v := 0) hx hb d_LR_isAtMost_27 (by decide) ?_
    exact W.zret (v := 0) hx hb hr rfl (fun t ht hW => ⟨0, rfl, (by rw [if_neg c_20]), ht⟩) (fun _ h => by cases h) d_LR_isAtMost_28
  · refine lv_iconst (v := 1) hx hb d_LR_isAtMost_23 (by decide) ?_
    refine lv_goto (tgt := 28) hx hb d_LR_isAtMost_24 (by decide) ?_
    exact W.zret (v := 1) hx hb hr rfl (fun t ht hW => ⟨1, rfl, (by rw [if_pos c_20]), ht⟩) (fun _ h => by cases h) d_LR_isAtMost_28

set_option maxHeartbeats 4000000 in
set_option maxRecDepth 100000 in
theorem c_LR_isSame (l : Launch) (dC : Nat → ClassId) (dI : Nat → Nat → Nat) (cI cL cZ : ClassId) (ad : Nat → Nat) (K F S D U V : Nat → Int32) (PT : Nat → Int64) (n : Nat) (hn : n ≤ 120) (x y : Nat) (hx1 : x < n) (hy1 : y < n) (hp : hs (nI x) n = 1) (hp2 : hs (nI y) n = 1) : Met l y_LR_isSame (cw_LR_isSame :: tb) (rmH 5 0 0) (va_Pc [.ref (ad 0), .int (nI x), .int (nI y)] (ry_P (dC, dI) classes (wLL cI cL ad K F S D U V PT n) (tyI cI cL cZ))) (ry_S ry_i (fun r => r = if smP PT x y = -1 then 1 else 0)) 0 0 (fun _ => False) := by
  refine Met.ofW (cc := b_LR_isSame) (maxL := 3) (ret := (some .boolean)) (by decide +kernel) rfl ?_
  intro p e s m args below meth c s₁ B hml0 hv
  have C0 := cx_of B hml0 rfl
  obtain ⟨hx, hb, hr, hml, hown, htb, hlocks⟩ := id C0
  obtain ⟨rfl, hP, hK⟩ := hv
  have hl := lv_entry ([.ref (ad 0), .int (nI x), .int (nI y)]) (n := 3) (Nat.le_of_ble_eq_true rfl)
  rw [lg_entry_eq]
  generalize (lg_sl ([.ref (ad 0), .int (nI x), .int (nI y)]) ++ List.replicate (3 - (lg_sl ([.ref (ad 0), .int (nI x), .int (nI y)])).length) Slot.unset).toArray = ls at hl ⊢
  have hl : lv_has ls 3 [(0, .ref (ad 0)), (1, .int (nI x)), (2, .int (nI y))] := hl
  have hP : va_P (dC, dI) classes [((ad 0), .inr (0, [.ref (ad 1), .ref (ad 9), .ref (ad 12)])), ((ad 1), .inr (1, [.ref (ad 2), .ref (ad 3), .ref (ad 4), .ref (ad 5), .ref (ad 6), .ref (ad 7), .ref (ad 8), .int (nI n)])), ((ad 2), .inl (cI, 120, .inl K)), ((ad 3), .inl (cI, 120, .inl F)), ((ad 4), .inl (cI, 120, .inl S)), ((ad 5), .inl (cI, 120, .inl D)), ((ad 6), .inl (cI, 120, .inl U)), ((ad 7), .inl (cI, 120, .inl V)), ((ad 8), .inl (cL, 3840, .inr (.inl PT)))] s.heap := hP
  refine lv_aload_n hx hb d_LR_isSame_0 rfl (lv_at hl 0 rfl) ?_
  refine lv_iload_n hx hb d_LR_isSame_1 rfl (lv_at hl 1 rfl) ?_
  refine ry_callV (n := 1) (As := [.int (nI x)]) (rest := []) ⟨hx, hb, hml, hown, htb⟩ (c_LR_checkLevel l dC dI cI cL cZ ad K F S D U V PT n hn (nI x) hp) (gV mw_396 mw_398 mp_13 mw_1 mc_LR_checkLevel) rfl rfl (by decide +kernel) ⟨Nat.le_of_ble_eq_true rfl, Nat.le_of_ble_eq_true rfl⟩ hP hK (ci := 0) (q0 := 0) rfl rfl rfl rfl hl.1 rfl (Nat.le_of_ble_eq_true rfl) d_LR_isSame_2 ⟨Nat.zero_le _, Nat.zero_le _⟩ (fun r_1 hr_1 => ?_)
  refine W.eq (g2 := F0 m 5 ls []) rfl ?_
  refine lv_aload_n hx hb d_LR_isSame_5 rfl (lv_at hl 0 rfl) ?_
  refine lv_iload_n hx hb d_LR_isSame_6 rfl (lv_at hl 2 rfl) ?_
  refine ry_callV (n := 1) (As := [.int (nI y)]) (rest := []) ⟨hx, hb, hml, hown, htb⟩ (c_LR_checkLevel l dC dI cI cL cZ ad K F S D U V PT n hn (nI y) hp2) (gV mw_396 mw_398 mp_13 mw_1 mc_LR_checkLevel) rfl rfl (by decide +kernel) ⟨Nat.le_of_ble_eq_true rfl, Nat.le_of_ble_eq_true rfl⟩ hP hK (ci := 0) (q0 := 0) rfl rfl rfl rfl hl.1 rfl (Nat.le_of_ble_eq_true rfl) d_LR_isSame_7 ⟨Nat.zero_le _, Nat.zero_le _⟩ (fun r_2 hr_2 => ?_)
  refine W.eq (g2 := F0 m 10 ls []) rfl ?_
  refine lv_aload_n hx hb d_LR_isSame_10 rfl (lv_at hl 0 rfl) ?_
  refine va_get (D := (dC, dI)) (ci := 0) (v := .ref (ad 1)) (C := R_LR) (T := F_LR) (N := 3) hx hb htb ul_LR hown hK hP 0 rfl rfl 0 (by decide) (htb _ mw_110) (fun _ h9 => h9) rfl d_LR_isSame_11 ?_
  refine lv_iload_n hx hb d_LR_isSame_14 rfl (lv_at hl 1 rfl) ?_
  refine lv_iload_n hx hb d_LR_isSame_15 rfl (lv_at hl 2 rfl) ?_
  refine ry_callV (n := 2) (As := [.int (nI x), .int (nI y)]) (rest := []) ⟨hx, hb, hml, hown, htb⟩ (c_Lv_haveSameParts l dC dI cI cL cZ ad K F S D U V PT n hn x y (by omega) (by omega)) (gV mw_478 mw_479 mw_480 mw_2 mc_Lv_haveSameParts) rfl rfl (by decide +kernel) ⟨Nat.le_of_ble_eq_true rfl, Nat.le_of_ble_eq_true rfl⟩ (hP.sub [1, 2, 3, 4, 5, 6, 7, 8] rfl) hK (ci := 1) (q0 := 0) rfl rfl rfl rfl hl.1 rfl (Nat.le_of_ble_eq_true rfl) d_LR_isSame_16 ⟨Nat.zero_le _, Nat.zero_le _⟩ (fun r_3 hr_3 => ?_)
  subst hr_3
  refine W.eq (g2 := F0 m 19 ls [.int (if smP PT x y = -1 then 1 else 0)]) rfl ?_
  exact W.zret (v := (if smP PT x y = -1 then 1 else 0)) hx hb hr (bn (if01 _)) (fun t ht hW => ⟨(if smP PT x y = -1 then 1 else 0), rfl, rfl, ht⟩) (fun _ h => by cases h) d_LR_isSame_19

set_option maxHeartbeats 4000000 in
set_option maxRecDepth 100000 in
theorem c0_LR_least (l : Launch) (htr : ∀ e, l.admits e → e.platform.stackTraces = false) (dC : Nat → ClassId) (dI : Nat → Nat → Nat) (cI cL cZ : ClassId) (ad : Nat → Nat) (K F S D U V : Nat → Int32) (PT : Nat → Int64) (n : Nat) (hn : n ≤ 120) (x : Int32) (hp : hs x n = 0) (sz : Nat) : wx_Met l y_LR_least (cw_LR_least :: tb) (rmH 8 1 6) (va_Pc [.ref (ad 0), .int x] (wz_P (dC, dI) classes (wLL cI cL ad K F S D U V PT n) (tyI cI cL cZ) sz)) (wx_Q ry_i (fun r (u : Unit) => False) (fun X (u : Unit) => X = "java/lang/IndexOutOfBoundsException") (wy_B (dC, dI) classes (tyI cI cL cZ) (va_A (wLL cI cL ad K F S D U V PT n) sz) (fun u : Unit => (wLL cI cL ad K F S D U V PT n))) (va_A (wLL cI cL ad K F S D U V PT n) sz)) (va_A (wLL cI cL ad K F S D U V PT n) sz) := by
  refine wx_ofW (cc := b_LR_least) (maxL := 2) (ret := (some .int)) (by decide +kernel) rfl ?_
  intro p e s m args below meth c s₁ B hml0 ht0 hv
  have C0 := cx_of B hml0 rfl
  obtain ⟨hx, hb, hr, hml, hown, htb, hlocks⟩ := id C0
  obtain ⟨rfl, ⟨hsz, hP, hK, hD0⟩, hth, hst⟩ := hv
  subst hsz
  have hD := hD0.self (sz := s.heap.size)
  generalize hAe : va_A (wLL cI cL ad K F S D U V PT n) s.heap.size = A at hD hth ⊢
  have hA : ∀ q : Nat, s.heap.size ≤ q → A q := fun q h => by rw [← hAe]; exact Or.inr h
  have hS : va_S A s.heap s.heap [] := va_S.rf
  have hl := lv_entry ([.ref (ad 0), .int x]) (n := 2) (Nat.le_of_ble_eq_true rfl)
  rw [lg_entry_eq]
  generalize (lg_sl ([.ref (ad 0), .int x]) ++ List.replicate (2 - (lg_sl ([.ref (ad 0), .int x])).length) Slot.unset).toArray = ls at hl ⊢
  have hl : lv_has ls 2 [(0, .ref (ad 0)), (1, .int x)] := hl
  have hP : va_P (dC, dI) classes [((ad 0), .inr (0, [.ref (ad 1), .ref (ad 9), .ref (ad 12)])), ((ad 1), .inr (1, [.ref (ad 2), .ref (ad 3), .ref (ad 4), .ref (ad 5), .ref (ad 6), .ref (ad 7), .ref (ad 8), .int (nI n)])), ((ad 2), .inl (cI, 120, .inl K)), ((ad 3), .inl (cI, 120, .inl F)), ((ad 4), .inl (cI, 120, .inl S)), ((ad 5), .inl (cI, 120, .inl D)), ((ad 6), .inl (cI, 120, .inl U)), ((ad 7), .inl (cI, 120, .inl V)), ((ad 8), .inl (cL, 3840, .inr (.inl PT)))] s.heap := hP
  have hD : va_D A [((ad 0), .inr (0, [.ref (ad 1), .ref (ad 9), .ref (ad 12)])), ((ad 1), .inr (1, [.ref (ad 2), .ref (ad 3), .ref (ad 4), .ref (ad 5), .ref (ad 6), .ref (ad 7), .ref (ad 8), .int (nI n)])), ((ad 2), .inl (cI, 120, .inl K)), ((ad 3), .inl (cI, 120, .inl F)), ((ad 4), .inl (cI, 120, .inl S)), ((ad 5), .inl (cI, 120, .inl D)), ((ad 6), .inl (cI, 120, .inl U)), ((ad 7), .inl (cI, 120, .inl V)), ((ad 8), .inl (cL, 3840, .inr (.inl PT)))] := hD
  refine lv_aload_n hx hb d_LR_least_0 rfl (lv_at hl 0 rfl) ?_
  refine lv_iload_n hx hb d_LR_least_1 rfl (lv_at hl 1 rfl) ?_
  refine wz_callV (n := 1) (wr := []) (As := [.int x]) (rest := []) ⟨hx, hb, hml, hown, htb⟩ (c0_LR_checkLevel l htr dC dI cI cL cZ ad K F S D U V PT n hn x hp s.heap.size) (gV mw_396 mw_398 mp_13 mw_1 mc_LR_checkLevel) rfl rfl (by decide +kernel) ⟨Nat.le_of_ble_eq_true rfl, Nat.le_of_ble_eq_true rfl⟩ hth hst hP hD hS hA hK [0, 1, 2, 3, 4, 5, 6, 7, 8] [] rfl rfl (by decide) (by decide) (hP.sub [0, 1, 2, 3, 4, 5, 6, 7, 8] rfl) ((hD.sub [0, 1, 2, 3, 4, 5, 6, 7, 8] (by decide) rfl).weaken (fun _ _ _ _ => trivial)) (ci := 0) (q0 := 0) rfl rfl rfl rfl hl.1 rfl (Nat.le_of_ble_eq_true rfl) d_LR_least_2 ⟨Nat.le_of_ble_eq_true rfl, Nat.le_of_ble_eq_true rfl⟩ (fun r u H locs hpost hP hD hS => ?_) (fun x X u H locs hpt hex hP hD hS => ?_)
  · exact hpost.elim
  · exact wx_out ht0 hlocks (fun t ht hW => ⟨Or.inr ⟨x, X, (), rfl, hpt, ⟨by rw [ht]; exact hP, va_K.moved hW.alike hK, hD⟩, by obtain ⟨cell, g1, g2, g3⟩ := hex; exact ⟨cell, by rw [ht]; exact g1, g2, by rw [hW.alike.findClass]; exact g3⟩⟩, hS.F ht⟩) hS.2.2

set_option maxHeartbeats 4000000 in
set_option maxRecDepth 100000 in
theorem c_LR_least (l : Launch) (dC : Nat → ClassId) (dI : Nat → Nat → Nat) (cI cL cZ : ClassId) (ad : Nat → Nat) (K F S D U V : Nat → Int32) (PT : Nat → Int64) (n : Nat) (hn : n ≤ 120) (x : Nat) (hx1 : x < n) (hp : hs (nI x) n = 1) : Met l y_LR_least (cw_LR_least :: tb) (rmH 5 0 0) (va_Pc [.ref (ad 0), .int (nI x)] (ry_P (dC, dI) classes (wLL cI cL ad K F S D U V PT n) (tyI cI cL cZ))) (ry_S ry_i (fun r => r = lsP PT x)) 0 0 (fun _ => False) := by
  refine Met.ofW (cc := b_LR_least) (maxL := 2) (ret := (some .int)) (by decide +kernel) rfl ?_
  intro p e s m args below meth c s₁ B hml0 hv
  have C0 := cx_of B hml0 rfl
  obtain ⟨hx, hb, hr, hml, hown, htb, hlocks⟩ := id C0
  obtain ⟨rfl, hP, hK⟩ := hv
  have hl := lv_entry ([.ref (ad 0), .int (nI x)]) (n := 2) (Nat.le_of_ble_eq_true rfl)
  rw [lg_entry_eq]
  generalize (lg_sl ([.ref (ad 0), .int (nI x)]) ++ List.replicate (2 - (lg_sl ([.ref (ad 0), .int (nI x)])).length) Slot.unset).toArray = ls at hl ⊢
  have hl : lv_has ls 2 [(0, .ref (ad 0)), (1, .int (nI x))] := hl
  have hP : va_P (dC, dI) classes [((ad 0), .inr (0, [.ref (ad 1), .ref (ad 9), .ref (ad 12)])), ((ad 1), .inr (1, [.ref (ad 2), .ref (ad 3), .ref (ad 4), .ref (ad 5), .ref (ad 6), .ref (ad 7), .ref (ad 8), .int (nI n)])), ((ad 2), .inl (cI, 120, .inl K)), ((ad 3), .inl (cI, 120, .inl F)), ((ad 4), .inl (cI, 120, .inl S)), ((ad 5), .inl (cI, 120, .inl D)), ((ad 6), .inl (cI, 120, .inl U)), ((ad 7), .inl (cI, 120, .inl V)), ((ad 8), .inl (cL, 3840, .inr (.inl PT)))] s.heap := hP
  refine lv_aload_n hx hb d_LR_least_0 rfl (lv_at hl 0 rfl) ?_
  refine lv_iload_n hx hb d_LR_least_1 rfl (lv_at hl 1 rfl) ?_
  refine ry_callV (n := 1) (As := [.int (nI x)]) (rest := []) ⟨hx, hb, hml, hown, htb⟩ (c_LR_checkLevel l dC dI cI cL cZ ad K F S D U V PT n hn (nI x) hp) (gV mw_396 mw_398 mp_13 mw_1 mc_LR_checkLevel) rfl rfl (by decide +kernel) ⟨Nat.le_of_ble_eq_true rfl, Nat.le_of_ble_eq_true rfl⟩ hP hK (ci := 0) (q0 := 0) rfl rfl rfl rfl hl.1 rfl (Nat.le_of_ble_eq_true rfl) d_LR_least_2 ⟨Nat.zero_le _, Nat.zero_le _⟩ (fun r_1 hr_1 => ?_)
  refine W.eq (g2 := F0 m 5 ls []) rfl ?_
  refine lv_aload_n hx hb d_LR_least_5 rfl (lv_at hl 0 rfl) ?_
  refine va_get (D := (dC, dI)) (ci := 0) (v := .ref (ad 1)) (C := R_LR) (T := F_LR) (N := 3) hx hb htb ul_LR hown hK hP 0 rfl rfl 0 (by decide) (htb _ mw_110) (fun _ h9 => h9) rfl d_LR_least_6 ?_
  refine lv_iload_n hx hb d_LR_least_9 rfl (lv_at hl 1 rfl) ?_
  refine ry_callV (n := 1) (As := [.int (nI x)]) (rest := []) ⟨hx, hb, hml, hown, htb⟩ (c_Lv_leastLike l dC dI cI cL cZ ad K F S D U V PT n hn x (by omega)) (gV mw_489 mw_490 mw_491 mw_2 mc_Lv_leastLike) rfl rfl (by decide +kernel) ⟨Nat.le_of_ble_eq_true rfl, Nat.le_of_ble_eq_true rfl⟩ (hP.sub [1, 2, 3, 4, 5, 6, 7, 8] rfl) hK (ci := 1) (q0 := 0) rfl rfl rfl rfl hl.1 rfl (Nat.le_of_ble_eq_true rfl) d_LR_least_10 ⟨Nat.zero_le _, Nat.zero_le _⟩ (fun r_2 hr_2 => ?_)
  subst hr_2
  refine W.eq (g2 := F0 m 13 ls [.int (lsP PT x)]) rfl ?_
  exact W.iret (v := (lsP PT x)) hx hb hr (fun t ht hW => ⟨(lsP PT x), rfl, rfl, ht⟩) (fun _ h => by cases h) d_LR_least_13

set_option maxHeartbeats 4000000 in
set_option maxRecDepth 100000 in
theorem c2_LR_above (l : Launch) (dC : Nat → ClassId) (dI : Nat → Nat → Nat) (cI cL cZ : ClassId) (ad : Nat → Nat) (K F S D U V : Nat → Int32) (PT : Nat → Int64) (n : Nat) (hn : n ≤ 120) (nd : Nat → Nat × Nat × Nat) (hok : LvOk nd n K F S D U PT) (x y : Nat) (hx1 : x < n) (hy1 : y < n) (hp : hs (nI x) n = 1) (hp2 : hs (nI y) n = 1) (hfr : fra nd x y = -1) : Met l y_LR_above (cw_LR_above :: tb) (rmH 5 0 0) (va_Pc [.ref (ad 0), .int (nI x), .int (nI y)] (ry_P (dC, dI) classes (wLL cI cL ad K F S D U V PT n) (tyI cI cL cZ))) (ry_S ry_l (fun r => r = -1)) 0 0 (fun _ => False) := by
  refine Met.ofW (cc := b_LR_above) (maxL := 4) (ret := (some .long)) (by decide +kernel) rfl ?_
  intro p e s m args below meth c s₁ B hml0 hv
  have C0 := cx_of B hml0 rfl
  obtain ⟨hx, hb, hr, hml, hown, htb, hlocks⟩ := id C0
  obtain ⟨rfl, hP, hK⟩ := hv
  have hl := lv_entry ([.ref (ad 0), .int (nI x), .int (nI y)]) (n := 4) (Nat.le_of_ble_eq_true rfl)
  rw [lg_entry_eq]
  generalize (lg_sl ([.ref (ad 0), .int (nI x), .int (nI y)]) ++ List.replicate (4 - (lg_sl ([.ref (ad 0), .int (nI x), .int (nI y)])).length) Slot.unset).toArray = ls at hl ⊢
  have hl : lv_has ls 4 [(0, .ref (ad 0)), (1, .int (nI x)), (2, .int (nI y))] := hl
  have hP : va_P (dC, dI) classes [((ad 0), .inr (0, [.ref (ad 1), .ref (ad 9), .ref (ad 12)])), ((ad 1), .inr (1, [.ref (ad 2), .ref (ad 3), .ref (ad 4), .ref (ad 5), .ref (ad 6), .ref (ad 7), .ref (ad 8), .int (nI n)])), ((ad 2), .inl (cI, 120, .inl K)), ((ad 3), .inl (cI, 120, .inl F)), ((ad 4), .inl (cI, 120, .inl S)), ((ad 5), .inl (cI, 120, .inl D)), ((ad 6), .inl (cI, 120, .inl U)), ((ad 7), .inl (cI, 120, .inl V)), ((ad 8), .inl (cL, 3840, .inr (.inl PT)))] s.heap := hP
  refine lv_aload_n hx hb d_LR_above_0 rfl (lv_at hl 0 rfl) ?_
  refine lv_iload_n hx hb d_LR_above_1 rfl (lv_at hl 1 rfl) ?_
  refine ry_callV (n := 1) (As := [.int (nI x)]) (rest := []) ⟨hx, hb, hml, hown, htb⟩ (c_LR_checkLevel l dC dI cI cL cZ ad K F S D U V PT n hn (nI x) hp) (gV mw_396 mw_398 mp_13 mw_1 mc_LR_checkLevel) rfl rfl (by decide +kernel) ⟨Nat.le_of_ble_eq_true rfl, Nat.le_of_ble_eq_true rfl⟩ hP hK (ci := 0) (q0 := 0) rfl rfl rfl rfl hl.1 rfl (Nat.le_of_ble_eq_true rfl) d_LR_above_2 ⟨Nat.zero_le _, Nat.zero_le _⟩ (fun r_1 hr_1 => ?_)
  refine W.eq (g2 := F0 m 5 ls []) rfl ?_
  refine lv_aload_n hx hb d_LR_above_5 rfl (lv_at hl 0 rfl) ?_
  refine lv_iload_n hx hb d_LR_above_6 rfl (lv_at hl 2 rfl) ?_
  refine ry_callV (n := 1) (As := [.int (nI y)]) (rest := []) ⟨hx, hb, hml, hown, htb⟩ (c_LR_checkLevel l dC dI cI cL cZ ad K F S D U V PT n hn (nI y) hp2) (gV mw_396 mw_398 mp_13 mw_1 mc_LR_checkLevel) rfl rfl (by decide +kernel) ⟨Nat.le_of_ble_eq_true rfl, Nat.le_of_ble_eq_true rfl⟩ hP hK (ci := 0) (q0 := 0) rfl rfl rfl rfl hl.1 rfl (Nat.le_of_ble_eq_true rfl) d_LR_above_7 ⟨Nat.zero_le _, Nat.zero_le _⟩ (fun r_2 hr_2 => ?_)
  refine W.eq (g2 := F0 m 10 ls []) rfl ?_
  refine lv_aload_n hx hb d_LR_above_10 rfl (lv_at hl 0 rfl) ?_
  refine va_get (D := (dC, dI)) (ci := 0) (v := .ref (ad 1)) (C := R_LR) (T := F_LR) (N := 3) hx hb htb ul_LR hown hK hP 0 rfl rfl 0 (by decide) (htb _ mw_110) (fun _ h9 => h9) rfl d_LR_above_11 ?_
  refine lv_iload_n hx hb d_LR_above_14 rfl (lv_at hl 1 rfl) ?_
  refine lv_iload_n hx hb d_LR_above_15 rfl (lv_at hl 2 rfl) ?_
  refine ry_callV (n := 2) (As := [.int (nI x), .int (nI y)]) (rest := []) ⟨hx, hb, hml, hown, htb⟩ (c_Lv_firstRegionAbove l dC dI cI cL cZ ad K F S D U V PT n hn x y (by omega) (by omega) (fun g => pb g nd x) (fun g => pb g nd y) (fun g => (pb_b hok.1 g hx1).2) (fun g => (pb_b hok.1 g hy1).2) (fun g hg => hok.2.2.2.2 x hx1 g hg) (fun g hg => hok.2.2.2.2 y hy1 g hg)) (gV mw_458 mw_459 mw_460 mw_2 mc_Lv_firstRegionAbove) rfl rfl (by decide +kernel) ⟨Nat.le_of_ble_eq_true rfl, Nat.le_of_ble_eq_true rfl⟩ (hP.sub [1, 2, 3, 4, 5, 6, 7, 8] rfl) hK (ci := 1) (q0 := 0) rfl rfl rfl rfl hl.1 rfl (Nat.le_of_ble_eq_true rfl) d_LR_above_16 ⟨Nat.zero_le _, Nat.zero_le _⟩ (fun r_3 hr_3 => ?_)
  refine W.eq (g2 := F0 m 19 ls [.int r_3]) rfl ?_
  have hr_3 : r_3 = (-1) := Eq.trans hr_3 hfr
  subst hr_3
  refine lv_istore_n (lv' := [(3, .int (-1)), (0, .ref (ad 0)), (1, .int (nI x)), (2, .int (nI y))]) hx hb d_LR_above_19 rfl hl (by decide) rfl (fun ls hl => ?_)
  refine lv_iload_n hx hb d_LR_above_20 rfl (lv_at hl 0 rfl) ?_
  refine lv_iconst (v := (-1)) hx hb d_LR_above_21 (by decide) ?_
  refine lv_icmp_ne (tgt := 29) hx hb d_LR_above_22 (by decide) (fun c_22 => ?_) (fun c_22 => ?_)
  · exact absurd rfl c_22
  · refine lv_ldc2 (v := (-1)) hx hb hown (htb _ mw_501) d_LR_above_25 ?_
    exact W.lret (v := (-1)) hx hb hr (fun t ht hW => ⟨(-1), rfl, rfl, ht⟩) (fun _ h => by cases h) d_LR_above_28

set_option maxHeartbeats 4000000 in
set_option maxRecDepth 100000 in
theorem c_LR_above (l : Launch) (dC : Nat → ClassId) (dI : Nat → Nat → Nat) (cI cL cZ : ClassId) (ad : Nat → Nat) (K F S D U V : Nat → Int32) (PT : Nat → Int64) (n : Nat) (hn : n ≤ 120) (nd : Nat → Nat × Nat × Nat) (hok : LvOk nd n K F S D U PT) (x y : Nat) (hx1 : x < n) (hy1 : y < n) (hp : hs (nI x) n = 1) (hp2 : hs (nI y) n = 1) (g : Nat) (hg : g < 32) (hfr : fra nd x y = nI g) : Met l y_LR_above (cw_LR_above :: tb) (rmH 5 0 0) (va_Pc [.ref (ad 0), .int (nI x), .int (nI y)] (ry_P (dC, dI) classes (wLL cI cL ad K F S D U V PT n) (tyI cI cL cZ))) (ry_S ry_l (fun r => r = pab (pb g nd x) (pb g nd y) g)) 0 0 (fun _ => False) := by
  refine Met.ofW (cc := b_LR_above) (maxL := 4) (ret := (some .long)) (by decide +kernel) rfl ?_
  intro p e s m args below meth c s₁ B hml0 hv
  have C0 := cx_of B hml0 rfl
  obtain ⟨hx, hb, hr, hml, hown, htb, hlocks⟩ := id C0
  obtain ⟨rfl, hP, hK⟩ := hv
  have hl := lv_entry ([.ref (ad 0), .int (nI x), .int (nI y)]) (n := 4) (Nat.le_of_ble_eq_true rfl)
  rw [lg_entry_eq]
  generalize (lg_sl ([.ref (ad 0), .int (nI x), .int (nI y)]) ++ List.replicate (4 - (lg_sl ([.ref (ad 0), .int (nI x), .int (nI y)])).length) Slot.unset).toArray = ls at hl ⊢
  have hl : lv_has ls 4 [(0, .ref (ad 0)), (1, .int (nI x)), (2, .int (nI y))] := hl
  have hP : va_P (dC, dI) classes [((ad 0), .inr (0, [.ref (ad 1), .ref (ad 9), .ref (ad 12)])), ((ad 1), .inr (1, [.ref (ad 2), .ref (ad 3), .ref (ad 4), .ref (ad 5), .ref (ad 6), .ref (ad 7), .ref (ad 8), .int (nI n)])), ((ad 2), .inl (cI, 120, .inl K)), ((ad 3), .inl (cI, 120, .inl F)), ((ad 4), .inl (cI, 120, .inl S)), ((ad 5), .inl (cI, 120, .inl D)), ((ad 6), .inl (cI, 120, .inl U)), ((ad 7), .inl (cI, 120, .inl V)), ((ad 8), .inl (cL, 3840, .inr (.inl PT)))] s.heap := hP
  refine lv_aload_n hx hb d_LR_above_0 rfl (lv_at hl 0 rfl) ?_
  refine lv_iload_n hx hb d_LR_above_1 rfl (lv_at hl 1 rfl) ?_
  refine ry_callV (n := 1) (As := [.int (nI x)]) (rest := []) ⟨hx, hb, hml, hown, htb⟩ (c_LR_checkLevel l dC dI cI cL cZ ad K F S D U V PT n hn (nI x) hp) (gV mw_396 mw_398 mp_13 mw_1 mc_LR_checkLevel) rfl rfl (by decide +kernel) ⟨Nat.le_of_ble_eq_true rfl, Nat.le_of_ble_eq_true rfl⟩ hP hK (ci := 0) (q0 := 0) rfl rfl rfl rfl hl.1 rfl (Nat.le_of_ble_eq_true rfl) d_LR_above_2 ⟨Nat.zero_le _, Nat.zero_le _⟩ (fun r_1 hr_1 => ?_)
  refine W.eq (g2 := F0 m 5 ls []) rfl ?_
  refine lv_aload_n hx hb d_LR_above_5 rfl (lv_at hl 0 rfl) ?_
  refine lv_iload_n hx hb d_LR_above_6 rfl (lv_at hl 2 rfl) ?_
  refine ry_callV (n := 1) (As := [.int (nI y)]) (rest := []) ⟨hx, hb, hml, hown, htb⟩ (c_LR_checkLevel l dC dI cI cL cZ ad K F S D U V PT n hn (nI y) hp2) (gV mw_396 mw_398 mp_13 mw_1 mc_LR_checkLevel) rfl rfl (by decide +kernel) ⟨Nat.le_of_ble_eq_true rfl, Nat.le_of_ble_eq_true rfl⟩ hP hK (ci := 0) (q0 := 0) rfl rfl rfl rfl hl.1 rfl (Nat.le_of_ble_eq_true rfl) d_LR_above_7 ⟨Nat.zero_le _, Nat.zero_le _⟩ (fun r_2 hr_2 => ?_)
  refine W.eq (g2 := F0 m 10 ls []) rfl ?_
  refine lv_aload_n hx hb d_LR_above_10 rfl (lv_at hl 0 rfl) ?_
  refine va_get (D := (dC, dI)) (ci := 0) (v := .ref (ad 1)) (C := R_LR) (T := F_LR) (N := 3) hx hb htb ul_LR hown hK hP 0 rfl rfl 0 (by decide) (htb _ mw_110) (fun _ h9 => h9) rfl d_LR_above_11 ?_
  refine lv_iload_n hx hb d_LR_above_14 rfl (lv_at hl 1 rfl) ?_
  refine lv_iload_n hx hb d_LR_above_15 rfl (lv_at hl 2 rfl) ?_
  refine ry_callV (n := 2) (As := [.int (nI x), .int (nI y)]) (rest := []) ⟨hx, hb, hml, hown, htb⟩ (c_Lv_firstRegionAbove l dC dI cI cL cZ ad K F S D U V PT n hn x y (by omega) (by omega) (fun g => pb g nd x) (fun g => pb g nd y) (fun g => (pb_b hok.1 g hx1).2) (fun g => (pb_b hok.1 g hy1).2) (fun g hg => hok.2.2.2.2 x hx1 g hg) (fun g hg => hok.2.2.2.2 y hy1 g hg)) (gV mw_458 mw_459 mw_460 mw_2 mc_Lv_firstRegionAbove) rfl rfl (by decide +kernel) ⟨Nat.le_of_ble_eq_true rfl, Nat.le_of_ble_eq_true rfl⟩ (hP.sub [1, 2, 3, 4, 5, 6, 7, 8] rfl) hK (ci := 1) (q0 := 0) rfl rfl rfl rfl hl.1 rfl (Nat.le_of_ble_eq_true rfl) d_LR_above_16 ⟨Nat.zero_le _, Nat.zero_le _⟩ (fun r_3 hr_3 => ?_)
  refine W.eq (g2 := F0 m 19 ls [.int r_3]) rfl ?_
  have hr_3 : r_3 = (nI g) := Eq.trans hr_3 hfr
  subst hr_3
  refine lv_istore_n (lv' := [(3, .int (nI g)), (0, .ref (ad 0)), (1, .int (nI x)), (2, .int (nI y))]) hx hb d_LR_above_19 rfl hl (by decide) rfl (fun ls hl => ?_)
  refine lv_iload_n hx hb d_LR_above_20 rfl (lv_at hl 0 rfl) ?_
  refine lv_iconst (v := (-1)) hx hb d_LR_above_21 (by decide) ?_
  refine lv_icmp_ne (tgt := 29) hx hb d_LR_above_22 (by decide) (fun c_22 => ?_) (fun c_22 => ?_)
  · refine lv_aload_n hx hb d_LR_above_29 rfl (lv_at hl 1 rfl) ?_
    refine va_get (D := (dC, dI)) (ci := 0) (v := .ref (ad 1)) (C := R_LR) (T := F_LR) (N := 3) hx hb htb ul_LR hown hK hP 0 rfl rfl 0 (by decide) (htb _ mw_110) (fun _ h9 => h9) rfl d_LR_above_30 ?_
    refine lv_iload_n hx hb d_LR_above_33 rfl (lv_at hl 2 rfl) ?_
    refine lv_iload_n hx hb d_LR_above_34 rfl (lv_at hl 0 rfl) ?_
    refine ry_callV (n := 2) (As := [.int (nI x), .int (nI g)]) (rest := []) ⟨hx, hb, hml, hown, htb⟩ (c_Lv_partsIn l dC dI cI cL cZ ad K F S D U V PT n hn x g (by omega) (by omega)) (gV mw_449 mw_343 mw_344 mw_2 mc_Lv_partsIn) rfl rfl (by decide +kernel) ⟨Nat.le_of_ble_eq_true rfl, Nat.le_of_ble_eq_true rfl⟩ (hP.sub [1, 2, 3, 4, 5, 6, 7, 8] rfl) hK (ci := 1) (q0 := 0) rfl rfl rfl rfl hl.1 rfl (Nat.le_of_ble_eq_true rfl) d_LR_above_35 ⟨Nat.zero_le _, Nat.zero_le _⟩ (fun r_4 hr_4 => ?_)
    refine W.eq (g2 := F0 m 38 ls [.long r_4]) rfl ?_
    rw [hok.2.2.2.2 x hx1 g hg] at hr_4
    subst hr_4
    refine lv_aload_n hx hb d_LR_above_38 rfl (lv_at hl 1 rfl) ?_
    refine va_get (D := (dC, dI)) (ci := 0) (v := .ref (ad 1)) (C := R_LR) (T := F_LR) (N := 3) hx hb htb ul_LR hown hK hP 0 rfl rfl 0 (by decide) (htb _ mw_110) (fun _ h9 => h9) rfl d_LR_above_39 ?_
    refine lv_iload_n hx hb d_LR_above_42 rfl (lv_at hl 3 rfl) ?_
    refine lv_iload_n hx hb d_LR_above_43 rfl (lv_at hl 0 rfl) ?_
    refine ry_callV (n := 2) (As := [.int (nI y), .int (nI g)]) (rest := [.long (en (pb g nd x))]) ⟨hx, hb, hml, hown, htb⟩ (c_Lv_partsIn l dC dI cI cL cZ ad K F S D U V PT n hn y g (by omega) (by omega)) (gV mw_449 mw_343 mw_344 mw_2 mc_Lv_partsIn) rfl rfl (by decide +kernel) ⟨Nat.le_of_ble_eq_true rfl, Nat.le_of_ble_eq_true rfl⟩ (hP.sub [1, 2, 3, 4, 5, 6, 7, 8] rfl) hK (ci := 1) (q0 := 0) rfl rfl rfl rfl hl.1 rfl (Nat.le_of_ble_eq_true rfl) d_LR_above_44 ⟨Nat.zero_le _, Nat.zero_le _⟩ (fun r_5 hr_5 => ?_)
    refine W.eq (g2 := F0 m 47 ls [.long r_5, .long (en (pb g nd x))]) rfl ?_
    rw [hok.2.2.2.2 y hy1 g hg] at hr_5
    subst hr_5
    refine lv_iload_n hx hb d_LR_above_47 rfl (lv_at hl 0 rfl) ?_
    refine ry_callS (n := 3) (As := [.long (en (pb g nd x)), .long (en (pb g nd y)), .int (nI g)]) (rest := []) ⟨hx, hb, hml, hown, htb⟩ (c_Pt_pointAbove l (pb g nd x) (pb g nd y) (pb_b hok.1 g hx1).2 (pb_b hok.1 g hy1).2 g hg) (gS mw_502 mw_503 mw_12 mc_Pt_pointAbove) rfl rfl (by decide +kernel) ⟨Nat.le_of_ble_eq_true rfl, Nat.le_of_ble_eq_true rfl⟩ rfl hl.1 rfl (Nat.le_of_ble_eq_true rfl) d_LR_above_48 ⟨Nat.zero_le _, Nat.zero_le _⟩ (fun r_6 hr_6 => ?_)
    subst hr_6
    refine W.eq (g2 := F0 m 51 ls [.long (pab (pb g nd x) (pb g nd y) g)]) rfl ?_
    exact W.lret (v := (pab (pb g nd x) (pb g nd y) g)) hx hb hr (fun t ht hW => ⟨(pab (pb g nd x) (pb g nd y) g), rfl, rfl, ht⟩) (fun _ h => by cases h) d_LR_above_51
  · exact absurd c_22 (nI_m1 (by omega))

set_option maxHeartbeats 4000000 in
set_option maxRecDepth 100000 in
theorem c0_LR_put (l : Launch) (htr : ∀ e, l.admits e → e.platform.stackTraces = false) (dC : Nat → ClassId) (dI : Nat → Nat → Nat) (cI cL cZ : ClassId) (ad : Nat → Nat) (RS OP K F S D U V : Nat → Int32) (PT : Nat → Int64) (n : Nat) (hn : n ≤ 120) (x p9 y : Int32) (hp : hs x n = 0) (sz : Nat) : wx_Met l y_LR_put (cw_LR_put :: tb) (rmH 10 1 6) (va_Pc [.ref (ad 0), .int x, .int p9, .int y] (wz_P (dC, dI) classes (wLP cI cL ad RS OP K F S D U V PT n) (tyI cI cL cZ) sz)) (wx_Q ry_i (fun r (u : Unit) => False) (fun X (u : Unit) => X = "java/lang/IndexOutOfBoundsException") (wy_B (dC, dI) classes (tyI cI cL cZ) (va_A (wLP cI cL ad RS OP K F S D U V PT n) sz) (fun u : Unit => (wLP cI cL ad RS OP K F S D U V PT n))) (va_A (wLP cI cL ad RS OP K F S D U V PT n) sz)) (va_A (wLP cI cL ad RS OP K F S D U V PT n) sz) := by
  refine wx_ofW (cc := b_LR_put) (maxL := 4) (ret := (some .int)) (by decide +kernel) rfl ?_
  intro p e s m args below meth c s₁ B hml0 ht0 hv
  have C0 := cx_of B hml0 rfl
  obtain ⟨hx, hb, hr, hml, hown, htb, hlocks⟩ := id C0
  obtain ⟨rfl, ⟨hsz, hP, hK, hD0⟩, hth, hst⟩ := hv
  subst hsz
  have hD := hD0.self (sz := s.heap.size)
  generalize hAe : va_A (wLP cI cL ad RS OP K F S D U V PT n) s.heap.size = A at hD hth ⊢
  have hA : ∀ q : Nat, s.heap.size ≤ q → A q := fun q h => by rw [← hAe]; exact Or.inr h
  have hS : va_S A s.heap s.heap [] := va_S.rf
  have hl := lv_entry ([.ref (ad 0), .int x, .int p9, .int y]) (n := 4) (Nat.le_of_ble_eq_true rfl)
  rw [lg_entry_eq]
  generalize (lg_sl ([.ref (ad 0), .int x, .int p9, .int y]) ++ List.replicate (4 - (lg_sl ([.ref (ad 0), .int x, .int p9, .int y])).length) Slot.unset).toArray = ls at hl ⊢
  have hl : lv_has ls 4 [(0, .ref (ad 0)), (1, .int x), (2, .int p9), (3, .int y)] := hl
  have hP : va_P (dC, dI) classes [((ad 0), .inr (0, [.ref (ad 1), .ref (ad 9), .ref (ad 12)])), ((ad 9), .inr (2, [.ref (ad 1), .ref (ad 10), .ref (ad 11)])), ((ad 10), .inl (cI, 120, .inl RS)), ((ad 11), .inl (cI, 120, .inl OP)), ((ad 1), .inr (1, [.ref (ad 2), .ref (ad 3), .ref (ad 4), .ref (ad 5), .ref (ad 6), .ref (ad 7), .ref (ad 8), .int (nI n)])), ((ad 2), .inl (cI, 120, .inl K)), ((ad 3), .inl (cI, 120, .inl F)), ((ad 4), .inl (cI, 120, .inl S)), ((ad 5), .inl (cI, 120, .inl D)), ((ad 6), .inl (cI, 120, .inl U)), ((ad 7), .inl (cI, 120, .inl V)), ((ad 8), .inl (cL, 3840, .inr (.inl PT)))] s.heap := hP
  have hD : va_D A [((ad 0), .inr (0, [.ref (ad 1), .ref (ad 9), .ref (ad 12)])), ((ad 9), .inr (2, [.ref (ad 1), .ref (ad 10), .ref (ad 11)])), ((ad 10), .inl (cI, 120, .inl RS)), ((ad 11), .inl (cI, 120, .inl OP)), ((ad 1), .inr (1, [.ref (ad 2), .ref (ad 3), .ref (ad 4), .ref (ad 5), .ref (ad 6), .ref (ad 7), .ref (ad 8), .int (nI n)])), ((ad 2), .inl (cI, 120, .inl K)), ((ad 3), .inl (cI, 120, .inl F)), ((ad 4), .inl (cI, 120, .inl S)), ((ad 5), .inl (cI, 120, .inl D)), ((ad 6), .inl (cI, 120, .inl U)), ((ad 7), .inl (cI, 120, .inl V)), ((ad 8), .inl (cL, 3840, .inr (.inl PT)))] := hD
  refine lv_aload_n hx hb d_LR_put_0 rfl (lv_at hl 0 rfl) ?_
  refine lv_iload_n hx hb d_LR_put_1 rfl (lv_at hl 1 rfl) ?_
  refine wz_callV (n := 1) (wr := [((ad 9), .inr (2, [.ref (ad 1), .ref (ad 10), .ref (ad 11)])), ((ad 10), .inl (cI, 120, .inl RS)), ((ad 11), .inl (cI, 120, .inl OP))]) (As := [.int x]) (rest := []) ⟨hx, hb, hml, hown, htb⟩ (c0_LR_checkLevel l htr dC dI cI cL cZ ad K F S D U V PT n hn x hp s.heap.size) (gV mw_396 mw_398 mp_13 mw_1 mc_LR_checkLevel) rfl rfl (by decide +kernel) ⟨Nat.le_of_ble_eq_true rfl, Nat.le_of_ble_eq_true rfl⟩ hth hst hP hD hS hA hK [0, 4, 5, 6, 7, 8, 9, 10, 11] [1, 2, 3] rfl rfl (by decide) (by decide) (hP.sub [0, 4, 5, 6, 7, 8, 9, 10, 11] rfl) ((hD.sub [0, 4, 5, 6, 7, 8, 9, 10, 11] (by decide) rfl).weaken (fun _ _ _ _ => trivial)) (ci := 0) (q0 := 0) rfl rfl rfl rfl hl.1 rfl (Nat.le_of_ble_eq_true rfl) d_LR_put_2 ⟨Nat.le_of_ble_eq_true rfl, Nat.le_of_ble_eq_true rfl⟩ (fun r u H locs hpost hP hD hS => ?_) (fun x X u H locs hpt hex hP hD hS => ?_)
  · exact hpost.elim
  · exact wx_out ht0 hlocks (fun t ht hW => ⟨Or.inr ⟨x, X, (), rfl, hpt, ⟨by rw [ht]; exact hP.sub [3, 0, 1, 2, 4, 5, 6, 7, 8, 9, 10, 11] rfl, va_K.moved hW.alike hK, hD.sub [3, 0, 1, 2, 4, 5, 6, 7, 8, 9, 10, 11] (by decide) rfl⟩, by obtain ⟨cell, g1, g2, g3⟩ := hex; exact ⟨cell, by rw [ht]; exact g1, g2, by rw [hW.alike.findClass]; exact g3⟩⟩, hS.F ht⟩) hS.2.2

set_option maxHeartbeats 4000000 in
set_option maxRecDepth 100000 in
theorem c1_LR_put (l : Launch) (htr : ∀ e, l.admits e → e.platform.stackTraces = false) (dC : Nat → ClassId) (dI : Nat → Nat → Nat) (cI cL cZ : ClassId) (ad : Nat → Nat) (RS OP K F S D U V : Nat → Int32) (PT : Nat → Int64) (n : Nat) (hn : n ≤ 120) (x p9 y : Int32) (hp : hs x n = 1) (hq : p9 < 0 ∨ 5 ≤ p9) (sz : Nat) : wx_Met l y_LR_put (cw_LR_put :: tb) (rmH 10 1 6) (va_Pc [.ref (ad 0), .int x, .int p9, .int y] (wz_P (dC, dI) classes (wLP cI cL ad RS OP K F S D U V PT n) (tyI cI cL cZ) sz)) (wx_Q ry_i (fun r (u : Unit) => False) (fun X (u : Unit) => X = "java/lang/IndexOutOfBoundsException") (wy_B (dC, dI) classes (tyI cI cL cZ) (va_A (wLP cI cL ad RS OP K F S D U V PT n) sz) (fun u : Unit => (wLP cI cL ad RS OP K F S D U V PT n))) (va_A (wLP cI cL ad RS OP K F S D U V PT n) sz)) (va_A (wLP cI cL ad RS OP K F S D U V PT n) sz) := by
  refine wx_ofW (cc := b_LR_put) (maxL := 4) (ret := (some .int)) (by decide +kernel) rfl ?_
  intro p e s m args below meth c s₁ B hml0 ht0 hv
  have C0 := cx_of B hml0 rfl
  obtain ⟨hx, hb, hr, hml, hown, htb, hlocks⟩ := id C0
  obtain ⟨rfl, ⟨hsz, hP, hK, hD0⟩, hth, hst⟩ := hv
  subst hsz
  have hD := hD0.self (sz := s.heap.size)
  generalize hAe : va_A (wLP cI cL ad RS OP K F S D U V PT n) s.heap.size = A at hD hth ⊢
  have hA : ∀ q : Nat, s.heap.size ≤ q → A q := fun q h => by rw [← hAe]; exact Or.inr h
  have hS : va_S A s.heap s.heap [] := va_S.rf
  have hl := lv_entry ([.ref (ad 0), .int x, .int p9, .int y]) (n := 4) (Nat.le_of_ble_eq_true rfl)
  rw [lg_entry_eq]
  generalize (lg_sl ([.ref (ad 0), .int x, .int p9, .int y]) ++ List.replicate (4 - (lg_sl ([.ref (ad 0), .int x, .int p9, .int y])).length) Slot.unset).toArray = ls at hl ⊢
  have hl : lv_has ls 4 [(0, .ref (ad 0)), (1, .int x), (2, .int p9), (3, .int y)] := hl
  have hP : va_P (dC, dI) classes [((ad 0), .inr (0, [.ref (ad 1), .ref (ad 9), .ref (ad 12)])), ((ad 9), .inr (2, [.ref (ad 1), .ref (ad 10), .ref (ad 11)])), ((ad 10), .inl (cI, 120, .inl RS)), ((ad 11), .inl (cI, 120, .inl OP)), ((ad 1), .inr (1, [.ref (ad 2), .ref (ad 3), .ref (ad 4), .ref (ad 5), .ref (ad 6), .ref (ad 7), .ref (ad 8), .int (nI n)])), ((ad 2), .inl (cI, 120, .inl K)), ((ad 3), .inl (cI, 120, .inl F)), ((ad 4), .inl (cI, 120, .inl S)), ((ad 5), .inl (cI, 120, .inl D)), ((ad 6), .inl (cI, 120, .inl U)), ((ad 7), .inl (cI, 120, .inl V)), ((ad 8), .inl (cL, 3840, .inr (.inl PT)))] s.heap := hP
  have hD : va_D A [((ad 0), .inr (0, [.ref (ad 1), .ref (ad 9), .ref (ad 12)])), ((ad 9), .inr (2, [.ref (ad 1), .ref (ad 10), .ref (ad 11)])), ((ad 10), .inl (cI, 120, .inl RS)), ((ad 11), .inl (cI, 120, .inl OP)), ((ad 1), .inr (1, [.ref (ad 2), .ref (ad 3), .ref (ad 4), .ref (ad 5), .ref (ad 6), .ref (ad 7), .ref (ad 8), .int (nI n)])), ((ad 2), .inl (cI, 120, .inl K)), ((ad 3), .inl (cI, 120, .inl F)), ((ad 4), .inl (cI, 120, .inl S)), ((ad 5), .inl (cI, 120, .inl D)), ((ad 6), .inl (cI, 120, .inl U)), ((ad 7), .inl (cI, 120, .inl V)), ((ad 8), .inl (cL, 3840, .inr (.inl PT)))] := hD
  refine lv_aload_n hx hb d_LR_put_0 rfl (lv_at hl 0 rfl) ?_
  refine lv_iload_n hx hb d_LR_put_1 rfl (lv_at hl 1 rfl) ?_
  refine ry_callV (n := 1) (As := [.int x]) (rest := []) ⟨hx, hb, hml, hown, htb⟩ (c_LR_checkLevel l dC dI cI cL cZ ad K F S D U V PT n hn x hp) (gV mw_396 mw_398 mp_13 mw_1 mc_LR_checkLevel) rfl rfl (by decide +kernel) ⟨Nat.le_of_ble_eq_true rfl, Nat.le_of_ble_eq_true rfl⟩ (hP.sub [0, 4, 5, 6, 7, 8, 9, 10, 11] rfl) hK (ci := 0) (q0 := 0) rfl rfl rfl rfl hl.1 rfl (Nat.le_of_ble_eq_true rfl) d_LR_put_2 ⟨Nat.zero_le _, Nat.zero_le _⟩ (fun r_1 hr_1 => ?_)
  refine W.eq (g2 := F0 m 5 ls []) rfl ?_
  refine lv_iload_n hx hb d_LR_put_5 rfl (lv_at hl 2 rfl) ?_
  refine wz_callS (n := 1) (wr := [((ad 0), .inr (0, [.ref (ad 1), .ref (ad 9), .ref (ad 12)])), ((ad 9), .inr (2, [.ref (ad 1), .ref (ad 10), .ref (ad 11)])), ((ad 10), .inl (cI, 120, .inl RS)), ((ad 11), .inl (cI, 120, .inl OP)), ((ad 1), .inr (1, [.ref (ad 2), .ref (ad 3), .ref (ad 4), .ref (ad 5), .ref (ad 6), .ref (ad 7), .ref (ad 8), .int (nI n)])), ((ad 2), .inl (cI, 120, .inl K)), ((ad 3), .inl (cI, 120, .inl F)), ((ad 4), .inl (cI, 120, .inl S)), ((ad 5), .inl (cI, 120, .inl D)), ((ad 6), .inl (cI, 120, .inl U)), ((ad 7), .inl (cI, 120, .inl V)), ((ad 8), .inl (cL, 3840, .inr (.inl PT)))]) (As := [.int p9]) (rest := []) ⟨hx, hb, hml, hown, htb⟩ (c0_LR_checkParameter l htr dC dI cI cL cZ p9 hq s.heap.size) (gL mw_369 mw_370 mw_1 mc_LR_checkParameter) rfl rfl (by decide +kernel) ⟨Nat.le_of_ble_eq_true rfl, Nat.le_of_ble_eq_true rfl⟩ hth hst hP hD hS hA hK [] [0, 1, 2, 3, 4, 5, 6, 7, 8, 9, 10, 11] rfl rfl (by decide) (by decide) (hP.sub [] rfl) ((hD.sub [] (by decide) rfl).weaken (fun _ _ _ _ => trivial)) rfl hl.1 rfl (Nat.le_of_ble_eq_true rfl) d_LR_put_6 ⟨Nat.le_of_ble_eq_true rfl, Nat.le_of_ble_eq_true rfl⟩ (fun r u H locs hpost hP hD hS => ?_) (fun x X u H locs hpt hex hP hD hS => ?_)
  · exact hpost.elim
  · exact wx_out ht0 hlocks (fun t ht hW => ⟨Or.inr ⟨x, X, (), rfl, hpt, ⟨by rw [ht]; exact hP, va_K.moved hW.alike hK, hD⟩, by obtain ⟨cell, g1, g2, g3⟩ := hex; exact ⟨cell, by rw [ht]; exact g1, g2, by rw [hW.alike.findClass]; exact g3⟩⟩, hS.F ht⟩) hS.2.2

set_option maxHeartbeats 4000000 in
set_option maxRecDepth 100000 in
theorem c2_LR_put (l : Launch) (htr : ∀ e, l.admits e → e.platform.stackTraces = false) (dC : Nat → ClassId) (dI : Nat → Nat → Nat) (cI cL cZ : ClassId) (ad : Nat → Nat) (RS OP K F S D U V : Nat → Int32) (PT : Nat → Int64) (n : Nat) (hn : n ≤ 120) (x : Int32) (p9 : Nat) (y : Int32) (hp : hs x n = 1) (hp5 : p9 < 5) (hp2 : hs y n = 0) (sz : Nat) : wx_Met l y_LR_put (cw_LR_put :: tb) (rmH 10 1 6) (va_Pc [.ref (ad 0), .int x, .int (nI p9), .int y] (wz_P (dC, dI) classes (wLP cI cL ad RS OP K F S D U V PT n) (tyI cI cL cZ) sz)) (wx_Q ry_i (fun r (u : Unit) => False) (fun X (u : Unit) => X = "java/lang/IndexOutOfBoundsException") (wy_B (dC, dI) classes (tyI cI cL cZ) (va_A (wLP cI cL ad RS OP K F S D U V PT n) sz) (fun u : Unit => (wLP cI cL ad RS OP K F S D U V PT n))) (va_A (wLP cI cL ad RS OP K F S D U V PT n) sz)) (va_A (wLP cI cL ad RS OP K F S D U V PT n) sz) := by
  refine wx_ofW (cc := b_LR_put) (maxL := 4) (ret := (some .int)) (by decide +kernel) rfl ?_
  intro p e s m args below meth c s₁ B hml0 ht0 hv
  have C0 := cx_of B hml0 rfl
  obtain ⟨hx, hb, hr, hml, hown, htb, hlocks⟩ := id C0
  obtain ⟨rfl, ⟨hsz, hP, hK, hD0⟩, hth, hst⟩ := hv
  subst hsz
  have hD := hD0.self (sz := s.heap.size)
  generalize hAe : va_A (wLP cI cL ad RS OP K F S D U V PT n) s.heap.size = A at hD hth ⊢
  have hA : ∀ q : Nat, s.heap.size ≤ q → A q := fun q h => by rw [← hAe]; exact Or.inr h
  have hS : va_S A s.heap s.heap [] := va_S.rf
  have hl := lv_entry ([.ref (ad 0), .int x, .int (nI p9), .int y]) (n := 4) (Nat.le_of_ble_eq_true rfl)
  rw [lg_entry_eq]
  generalize (lg_sl ([.ref (ad 0), .int x, .int (nI p9), .int y]) ++ List.replicate (4 - (lg_sl ([.ref (ad 0), .int x, .int (nI p9), .int y])).length) Slot.unset).toArray = ls at hl ⊢
  have hl : lv_has ls 4 [(0, .ref (ad 0)), (1, .int x), (2, .int (nI p9)), (3, .int y)] := hl
  have hP : va_P (dC, dI) classes [((ad 0), .inr (0, [.ref (ad 1), .ref (ad 9), .ref (ad 12)])), ((ad 9), .inr (2, [.ref (ad 1), .ref (ad 10), .ref (ad 11)])), ((ad 10), .inl (cI, 120, .inl RS)), ((ad 11), .inl (cI, 120, .inl OP)), ((ad 1), .inr (1, [.ref (ad 2), .ref (ad 3), .ref (ad 4), .ref (ad 5), .ref (ad 6), .ref (ad 7), .ref (ad 8), .int (nI n)])), ((ad 2), .inl (cI, 120, .inl K)), ((ad 3), .inl (cI, 120, .inl F)), ((ad 4), .inl (cI, 120, .inl S)), ((ad 5), .inl (cI, 120, .inl D)), ((ad 6), .inl (cI, 120, .inl U)), ((ad 7), .inl (cI, 120, .inl V)), ((ad 8), .inl (cL, 3840, .inr (.inl PT)))] s.heap := hP
  have hD : va_D A [((ad 0), .inr (0, [.ref (ad 1), .ref (ad 9), .ref (ad 12)])), ((ad 9), .inr (2, [.ref (ad 1), .ref (ad 10), .ref (ad 11)])), ((ad 10), .inl (cI, 120, .inl RS)), ((ad 11), .inl (cI, 120, .inl OP)), ((ad 1), .inr (1, [.ref (ad 2), .ref (ad 3), .ref (ad 4), .ref (ad 5), .ref (ad 6), .ref (ad 7), .ref (ad 8), .int (nI n)])), ((ad 2), .inl (cI, 120, .inl K)), ((ad 3), .inl (cI, 120, .inl F)), ((ad 4), .inl (cI, 120, .inl S)), ((ad 5), .inl (cI, 120, .inl D)), ((ad 6), .inl (cI, 120, .inl U)), ((ad 7), .inl (cI, 120, .inl V)), ((ad 8), .inl (cL, 3840, .inr (.inl PT)))] := hD
  refine lv_aload_n hx hb d_LR_put_0 rfl (lv_at hl 0 rfl) ?_
  refine lv_iload_n hx hb d_LR_put_1 rfl (lv_at hl 1 rfl) ?_
  refine ry_callV (n := 1) (As := [.int x]) (rest := []) ⟨hx, hb, hml, hown, htb⟩ (c_LR_checkLevel l dC dI cI cL cZ ad K F S D U V PT n hn x hp) (gV mw_396 mw_398 mp_13 mw_1 mc_LR_checkLevel) rfl rfl (by decide +kernel) ⟨Nat.le_of_ble_eq_true rfl, Nat.le_of_ble_eq_true rfl⟩ (hP.sub [0, 4, 5, 6, 7, 8, 9, 10, 11] rfl) hK (ci := 0) (q0 := 0) rfl rfl rfl rfl hl.1 rfl (Nat.le_of_ble_eq_true rfl) d_LR_put_2 ⟨Nat.zero_le _, Nat.zero_le _⟩ (fun r_1 hr_1 => ?_)
  refine W.eq (g2 := F0 m 5 ls []) rfl ?_
  refine lv_iload_n hx hb d_LR_put_5 rfl (lv_at hl 2 rfl) ?_
  refine ry_callS (n := 1) (As := [.int (nI p9)]) (rest := []) ⟨hx, hb, hml, hown, htb⟩ (c_LR_checkParameter l p9 hp5) (gS mw_369 mw_370 mw_1 mc_LR_checkParameter) rfl rfl (by decide +kernel) ⟨Nat.le_of_ble_eq_true rfl, Nat.le_of_ble_eq_true rfl⟩ rfl hl.1 rfl (Nat.le_of_ble_eq_true rfl) d_LR_put_6 ⟨Nat.zero_le _, Nat.zero_le _⟩ (fun r_2 hr_2 => ?_)
  refine W.eq (g2 := F0 m 9 ls []) rfl ?_
  refine lv_aload_n hx hb d_LR_put_9 rfl (lv_at hl 0 rfl) ?_
  refine lv_iload_n hx hb d_LR_put_10 rfl (lv_at hl 3 rfl) ?_
  refine wz_callV (n := 1) (wr := [((ad 9), .inr (2, [.ref (ad 1), .ref (ad 10), .ref (ad 11)])), ((ad 10), .inl (cI, 120, .inl RS)), ((ad 11), .inl (cI, 120, .inl OP))]) (As := [.int y]) (rest := []) ⟨hx, hb, hml, hown, htb⟩ (c0_LR_checkLevel l htr dC dI cI cL cZ ad K F S D U V PT n hn y hp2 s.heap.size) (gV mw_396 mw_398 mp_13 mw_1 mc_LR_checkLevel) rfl rfl (by decide +kernel) ⟨Nat.le_of_ble_eq_true rfl, Nat.le_of_ble_eq_true rfl⟩ hth hst hP hD hS hA hK [0, 4, 5, 6, 7, 8, 9, 10, 11] [1, 2, 3] rfl rfl (by decide) (by decide) (hP.sub [0, 4, 5, 6, 7, 8, 9, 10, 11] rfl) ((hD.sub [0, 4, 5, 6, 7, 8, 9, 10, 11] (by decide) rfl).weaken (fun _ _ _ _ => trivial)) (ci := 0) (q0 := 0) rfl rfl rfl rfl hl.1 rfl (Nat.le_of_ble_eq_true rfl) d_LR_put_11 ⟨Nat.le_of_ble_eq_true rfl, Nat.le_of_ble_eq_true rfl⟩ (fun r u H locs hpost hP hD hS => ?_) (fun x X u H locs hpt hex hP hD hS => ?_)
  · exact hpost.elim
  · exact wx_out ht0 hlocks (fun t ht hW => ⟨Or.inr ⟨x, X, (), rfl, hpt, ⟨by rw [ht]; exact hP.sub [3, 0, 1, 2, 4, 5, 6, 7, 8, 9, 10, 11] rfl, va_K.moved hW.alike hK, hD.sub [3, 0, 1, 2, 4, 5, 6, 7, 8, 9, 10, 11] (by decide) rfl⟩, by obtain ⟨cell, g1, g2, g3⟩ := hex; exact ⟨cell, by rw [ht]; exact g1, g2, by rw [hW.alike.findClass]; exact g3⟩⟩, hS.F ht⟩) hS.2.2

set_option maxHeartbeats 4000000 in
set_option maxRecDepth 100000 in
theorem c_LR_put (l : Launch) (htr : ∀ e, l.admits e → e.platform.stackTraces = false) (dC : Nat → ClassId) (dI : Nat → Nat → Nat) (cI cL cZ : ClassId) (ad : Nat → Nat) (RS OP K F S D U V : Nat → Int32) (PT : Nat → Int64) (n : Nat) (hn : n ≤ 120) (nd : Nat → Nat × Nat × Nat) (hok : LvOk nd n K F S D U PT) (x p9 y9 : Nat) (hx1 : x < n) (hp5 : p9 < 5) (hy1 : y9 < n) (hp : hs (nI x) n = 1) (hp2 : hs (nI y9) n = 1) (sz : Nat) : wx_Met l y_LR_put (cw_LR_put :: tb) (rmH 10 1 6) (va_Pc [.ref (ad 0), .int (nI x), .int (nI p9), .int (nI y9)] (wz_P (dC, dI) classes (wLP cI cL ad RS OP K F S D U V PT n) (tyI cI cL cZ) sz)) (wx_Q ry_i (fun r (u : LvS × (Nat → Int32) × (Nat → Int32)) => chc (pt nd p9 y9 x (nd, n)) r u.1) (fun X (u : LvS × (Nat → Int32) × (Nat → Int32)) => chx (pt nd p9 y9 x (nd, n)) X u.1) (wy_B (dC, dI) classes (tyI cI cL cZ) (va_A (wLP cI cL ad RS OP K F S D U V PT n) sz) (fun u : LvS × (Nat → Int32) × (Nat → Int32) => wLP cI cL ad u.2.1 u.2.2 u.1.1 u.1.2.1 u.1.2.2.1 u.1.2.2.2.1 u.1.2.2.2.2.1 V u.1.2.2.2.2.2.1 u.1.2.2.2.2.2.2)) (va_A (wLP cI cL ad RS OP K F S D U V PT n) sz)) (va_A (wLP cI cL ad RS OP K F S D U V PT n) sz) := by
  refine wx_ofW (cc := b_LR_put) (maxL := 4) (ret := (some .int)) (by decide +kernel) rfl ?_
  intro p e s m args below meth c s₁ B hml0 ht0 hv
  have C0 := cx_of B hml0 rfl
  obtain ⟨hx, hb, hr, hml, hown, htb, hlocks⟩ := id C0
  obtain ⟨rfl, ⟨hsz, hP, hK, hD0⟩, hth, hst⟩ := hv
  subst hsz
  have hD := hD0.self (sz := s.heap.size)
  generalize hAe : va_A (wLP cI cL ad RS OP K F S D U V PT n) s.heap.size = A at hD hth ⊢
  have hA : ∀ q : Nat, s.heap.size ≤ q → A q := fun q h => by rw [← hAe]; exact Or.inr h
  have hS : va_S A s.heap s.heap [] := va_S.rf
  have hl := lv_entry ([.ref (ad 0), .int (nI x), .int (nI p9), .int (nI y9)]) (n := 4) (Nat.le_of_ble_eq_true rfl)
  rw [lg_entry_eq]
  generalize (lg_sl ([.ref (ad 0), .int (nI x), .int (nI p9), .int (nI y9)]) ++ List.replicate (4 - (lg_sl ([.ref (ad 0), .int (nI x), .int (nI p9), .int (nI y9)])).length) Slot.unset).toArray = ls at hl ⊢
  have hl : lv_has ls 4 [(0, .ref (ad 0)), (1, .int (nI x)), (2, .int (nI p9)), (3, .int (nI y9))] := hl
  have hP : va_P (dC, dI) classes [((ad 0), .inr (0, [.ref (ad 1), .ref (ad 9), .ref (ad 12)])), ((ad 9), .inr (2, [.ref (ad 1), .ref (ad 10), .ref (ad 11)])), ((ad 10), .inl (cI, 120, .inl RS)), ((ad 11), .inl (cI, 120, .inl OP)), ((ad 1), .inr (1, [.ref (ad 2), .ref (ad 3), .ref (ad 4), .ref (ad 5), .ref (ad 6), .ref (ad 7), .ref (ad 8), .int (nI n)])), ((ad 2), .inl (cI, 120, .inl K)), ((ad 3), .inl (cI, 120, .inl F)), ((ad 4), .inl (cI, 120, .inl S)), ((ad 5), .inl (cI, 120, .inl D)), ((ad 6), .inl (cI, 120, .inl U)), ((ad 7), .inl (cI, 120, .inl V)), ((ad 8), .inl (cL, 3840, .inr (.inl PT)))] s.heap := hP
  have hD : va_D A [((ad 0), .inr (0, [.ref (ad 1), .ref (ad 9), .ref (ad 12)])), ((ad 9), .inr (2, [.ref (ad 1), .ref (ad 10), .ref (ad 11)])), ((ad 10), .inl (cI, 120, .inl RS)), ((ad 11), .inl (cI, 120, .inl OP)), ((ad 1), .inr (1, [.ref (ad 2), .ref (ad 3), .ref (ad 4), .ref (ad 5), .ref (ad 6), .ref (ad 7), .ref (ad 8), .int (nI n)])), ((ad 2), .inl (cI, 120, .inl K)), ((ad 3), .inl (cI, 120, .inl F)), ((ad 4), .inl (cI, 120, .inl S)), ((ad 5), .inl (cI, 120, .inl D)), ((ad 6), .inl (cI, 120, .inl U)), ((ad 7), .inl (cI, 120, .inl V)), ((ad 8), .inl (cL, 3840, .inr (.inl PT)))] := hD
  refine lv_aload_n hx hb d_LR_put_0 rfl (lv_at hl 0 rfl) ?_
  refine lv_iload_n hx hb d_LR_put_1 rfl (lv_at hl 1 rfl) ?_
  refine ry_callV (n := 1) (As := [.int (nI x)]) (rest := []) ⟨hx, hb, hml, hown, htb⟩ (c_LR_checkLevel l dC dI cI cL cZ ad K F S D U V PT n hn (nI x) hp) (gV mw_396 mw_398 mp_13 mw_1 mc_LR_checkLevel) rfl rfl (by decide +kernel) ⟨Nat.le_of_ble_eq_true rfl, Nat.le_of_ble_eq_true rfl⟩ (hP.sub [0, 4, 5, 6, 7, 8, 9, 10, 11] rfl) hK (ci := 0) (q0 := 0) rfl rfl rfl rfl hl.1 rfl (Nat.le_of_ble_eq_true rfl) d_LR_put_2 ⟨Nat.zero_le _, Nat.zero_le _⟩ (fun r_1 hr_1 => ?_)
  refine W.eq (g2 := F0 m 5 ls []) rfl ?_
  refine lv_iload_n hx hb d_LR_put_5 rfl (lv_at hl 2 rfl) ?_
  refine ry_callS (n := 1) (As := [.int (nI p9)]) (rest := []) ⟨hx, hb, hml, hown, htb⟩ (c_LR_checkParameter l p9 hp5) (gS mw_369 mw_370 mw_1 mc_LR_checkParameter) rfl rfl (by decide +kernel) ⟨Nat.le_of_ble_eq_true rfl, Nat.le_of_ble_eq_true rfl⟩ rfl hl.1 rfl (Nat.le_of_ble_eq_true rfl) d_LR_put_6 ⟨Nat.zero_le _, Nat.zero_le _⟩ (fun r_2 hr_2 => ?_)
  refine W.eq (g2 := F0 m 9 ls []) rfl ?_
  refine lv_aload_n hx hb d_LR_put_9 rfl (lv_at hl 0 rfl) ?_
  refine lv_iload_n hx hb d_LR_put_10 rfl (lv_at hl 3 rfl) ?_
  refine ry_callV (n := 1) (As := [.int (nI y9)]) (rest := []) ⟨hx, hb, hml, hown, htb⟩ (c_LR_checkLevel l dC dI cI cL cZ ad K F S D U V PT n hn (nI y9) hp2) (gV mw_396 mw_398 mp_13 mw_1 mc_LR_checkLevel) rfl rfl (by decide +kernel) ⟨Nat.le_of_ble_eq_true rfl, Nat.le_of_ble_eq_true rfl⟩ (hP.sub [0, 4, 5, 6, 7, 8, 9, 10, 11] rfl) hK (ci := 0) (q0 := 0) rfl rfl rfl rfl hl.1 rfl (Nat.le_of_ble_eq_true rfl) d_LR_put_11 ⟨Nat.zero_le _, Nat.zero_le _⟩ (fun r_3 hr_3 => ?_)
  refine W.eq (g2 := F0 m 14 ls []) rfl ?_
  refine lv_aload_n hx hb d_LR_put_14 rfl (lv_at hl 0 rfl) ?_
  refine va_get (D := (dC, dI)) (ci := 0) (v := .ref (ad 9)) (C := R_LR) (T := F_LR) (N := 3) hx hb htb ul_LR hown hK hP 0 rfl rfl 1 (by decide) (htb _ mw_111) (fun _ h9 => h9) rfl d_LR_put_15 ?_
  refine lv_iload_n hx hb d_LR_put_18 rfl (lv_at hl 1 rfl) ?_
  refine lv_iload_n hx hb d_LR_put_19 rfl (lv_at hl 2 rfl) ?_
  refine lv_iload_n hx hb d_LR_put_20 rfl (lv_at hl 3 rfl) ?_
  refine wz_callV (n := 3) (wr := [((ad 0), .inr (0, [.ref (ad 1), .ref (ad 9), .ref (ad 12)]))]) (As := [.int (nI x), .int (nI p9), .int (nI y9)]) (rest := []) ⟨hx, hb, hml, hown, htb⟩ (c_Rp_replaced l htr dC dI cI cL cZ ad RS OP K F S D U V PT n hn nd hok x p9 y9 hx1 hp5 hy1 s.heap.size) (gV mw_415 mw_416 mw_417 mw_3 mc_Rp_replaced) rfl rfl (by decide +kernel) ⟨Nat.le_of_ble_eq_true rfl, Nat.le_of_ble_eq_true rfl⟩ hth hst hP hD hS hA hK [1, 2, 3, 4, 5, 6, 7, 8, 9, 10, 11] [0] rfl rfl (by decide) (by decide) (hP.sub [1, 2, 3, 4, 5, 6, 7, 8, 9, 10, 11] rfl) ((hD.sub [1, 2, 3, 4, 5, 6, 7, 8, 9, 10, 11] (by decide) rfl).weaken (fun _ _ _ _ => trivial)) (ci := 2) (q0 := 0) rfl rfl rfl rfl hl.1 rfl (Nat.le_of_ble_eq_true rfl) d_LR_put_21 ⟨Nat.le_of_ble_eq_true rfl, Nat.le_of_ble_eq_true rfl⟩ (fun r u H locs hpost hP hD hS => ?_) (fun x X u H locs hpt hex hP hD hS => ?_)
  · have hP : va_P (dC, dI) classes [((ad 0), .inr (0, [.ref (ad 1), .ref (ad 9), .ref (ad 12)])), ((ad 9), .inr (2, [.ref (ad 1), .ref (ad 10), .ref (ad 11)])), ((ad 10), .inl (cI, 120, .inl u.2.1)), ((ad 11), .inl (cI, 120, .inl u.2.2)), ((ad 1), .inr (1, [.ref (ad 2), .ref (ad 3), .ref (ad 4), .ref (ad 5), .ref (ad 6), .ref (ad 7), .ref (ad 8), .int (nI u.1.2.2.2.2.2.2)])), ((ad 2), .inl (cI, 120, .inl u.1.1)), ((ad 3), .inl (cI, 120, .inl u.1.2.1)), ((ad 4), .inl (cI, 120, .inl u.1.2.2.1)), ((ad 5), .inl (cI, 120, .inl u.1.2.2.2.1)), ((ad 6), .inl (cI, 120, .inl u.1.2.2.2.2.1)), ((ad 7), .inl (cI, 120, .inl V)), ((ad 8), .inl (cL, 3840, .inr (.inl u.1.2.2.2.2.2.1)))] H := hP
    have hD : va_D A [((ad 0), .inr (0, [.ref (ad 1), .ref (ad 9), .ref (ad 12)])), ((ad 9), .inr (2, [.ref (ad 1), .ref (ad 10), .ref (ad 11)])), ((ad 10), .inl (cI, 120, .inl u.2.1)), ((ad 11), .inl (cI, 120, .inl u.2.2)), ((ad 1), .inr (1, [.ref (ad 2), .ref (ad 3), .ref (ad 4), .ref (ad 5), .ref (ad 6), .ref (ad 7), .ref (ad 8), .int (nI u.1.2.2.2.2.2.2)])), ((ad 2), .inl (cI, 120, .inl u.1.1)), ((ad 3), .inl (cI, 120, .inl u.1.2.1)), ((ad 4), .inl (cI, 120, .inl u.1.2.2.1)), ((ad 5), .inl (cI, 120, .inl u.1.2.2.2.1)), ((ad 6), .inl (cI, 120, .inl u.1.2.2.2.2.1)), ((ad 7), .inl (cI, 120, .inl V)), ((ad 8), .inl (cL, 3840, .inr (.inl u.1.2.2.2.2.2.1)))] := hD
    refine W.eq (g2 := F0 m 24 ls [.int r]) rfl ?_
    exact wx_ret (W.iret (v := r) hx hb hr (fun t ht hW => ⟨Or.inl ⟨r, u, rfl, hpost, by rw [ht]; exact hP, va_K.moved hW.alike hK, hD⟩, hS.F ht⟩) hS.2.2 d_LR_put_24)
  · exact wx_out ht0 hlocks (fun t ht hW => ⟨Or.inr ⟨x, X, u, rfl, hpt, ⟨by rw [ht]; exact hP, va_K.moved hW.alike hK, hD⟩, by obtain ⟨cell, g1, g2, g3⟩ := hex; exact ⟨cell, by rw [ht]; exact g1, g2, by rw [hW.alike.findClass]; exact g3⟩⟩, hS.F ht⟩) hS.2.2
