set_option maxHeartbeats 4000000 in
set_option maxRecDepth 100000 in
theorem c0_Mo_above (l : Launch) (dC : Nat → ClassId) (dI : Nat → Nat → Nat) (cI cL cZ : ClassId) (bd : Nat → Nat) (th : Int32) (K F S DD : Nat → Int32) (n : Nat) (NU VA BE WA LE AA RI UN CO : Nat → Int32) (unk cnt : Nat) (hn : n ≤ 120) (hunk : unk ≤ 10) (hcnt : cnt ≤ 30) (x y : Int32) (hp : hs x n = 0 ∨ hs y n = 0) (sz : Nat) : Met l y_Mo_above (cw_Mo_above :: tb) (rmH 6 0 0) (va_Pc [.ref (bd 0), .int x, .int y] (wy_P (dC, dI) classes (wMo cI cZ bd th K F S DD n NU VA BE WA LE AA RI UN CO unk cnt) (tyI cI cL cZ) sz)) (wy_Q ry_l (fun r (u : Unit) => r = 0) (wy_B (dC, dI) classes (tyI cI cL cZ) (va_A (wMo cI cZ bd th K F S DD n NU VA BE WA LE AA RI UN CO unk cnt) sz) (fun u : Unit => (wMo cI cZ bd 1 K F S DD n NU VA BE WA LE AA RI UN CO unk cnt))) (va_A (wMo cI cZ bd th K F S DD n NU VA BE WA LE AA RI UN CO unk cnt) sz)) 0 0 (va_A (wMo cI cZ bd th K F S DD n NU VA BE WA LE AA RI UN CO unk cnt) sz) := by
  refine Met.ofW (cc := b_Mo_above) (maxL := 10) (ret := (some .long)) (by decide +kernel) rfl ?_
  intro p e s m args below meth c s₁ B hml0 hv
  have C0 := cx_of B hml0 rfl
  obtain ⟨hx, hb, hr, hml, hown, htb, hlocks⟩ := id C0
  obtain ⟨rfl, hsz, hP, hK, hD0⟩ := hv
  subst hsz
  have hD := hD0.self (sz := s.heap.size)
  generalize hAe : va_A (wMo cI cZ bd th K F S DD n NU VA BE WA LE AA RI UN CO unk cnt) s.heap.size = A at hD ⊢
  have hA : ∀ q : Nat, s.heap.size ≤ q → A q := fun q h => by rw [← hAe]; exact Or.inr h
  have hS : va_S A s.heap s.heap [] := va_S.rf
  have hl := lv_entry ([.ref (bd 0), .int x, .int y]) (n := 10) (Nat.le_of_ble_eq_true rfl)
  rw [lg_entry_eq]
  generalize (lg_sl ([.ref (bd 0), .int x, .int y]) ++ List.replicate (10 - (lg_sl ([.ref (bd 0), .int x, .int y])).length) Slot.unset).toArray = ls at hl ⊢
  have hl : lv_has ls 10 [(0, .ref (bd 0)), (1, .int x), (2, .int y)] := hl
  have hP : va_P (dC, dI) classes [((bd 0), .inr (4, [.int th, .ref (bd 1), .ref (bd 2), .ref (bd 3), .ref (bd 4), .int (nI n), .ref (bd 5), .ref (bd 6), .ref (bd 7), .ref (bd 8), .ref (bd 9), .ref (bd 10), .ref (bd 11), .ref (bd 12), .ref (bd 13), .int (nI unk), .int (nI cnt)])), ((bd 1), .inl (cI, 120, .inl K)), ((bd 2), .inl (cI, 120, .inl F)), ((bd 3), .inl (cI, 120, .inl S)), ((bd 4), .inl (cI, 120, .inl DD)), ((bd 5), .inl (cI, 5, .inl NU)), ((bd 6), .inl (cI, 120, .inl VA)), ((bd 7), .inl (cI, 120, .inl BE)), ((bd 8), .inl (cI, 128, .inl WA)), ((bd 9), .inl (cI, 30, .inl LE)), ((bd 10), .inl (cI, 30, .inl AA)), ((bd 11), .inl (cI, 30, .inl RI)), ((bd 12), .inl (cI, 10, .inl UN)), ((bd 13), .inl (cZ, 30, .inl CO))] s.heap := hP
  have hD : va_D A [((bd 0), .inr (4, [.int th, .ref (bd 1), .ref (bd 2), .ref (bd 3), .ref (bd 4), .int (nI n), .ref (bd 5), .ref (bd 6), .ref (bd 7), .ref (bd 8), .ref (bd 9), .ref (bd 10), .ref (bd 11), .ref (bd 12), .ref (bd 13), .int (nI unk), .int (nI cnt)])), ((bd 1), .inl (cI, 120, .inl K)), ((bd 2), .inl (cI, 120, .inl F)), ((bd 3), .inl (cI, 120, .inl S)), ((bd 4), .inl (cI, 120, .inl DD)), ((bd 5), .inl (cI, 5, .inl NU)), ((bd 6), .inl (cI, 120, .inl VA)), ((bd 7), .inl (cI, 120, .inl BE)), ((bd 8), .inl (cI, 128, .inl WA)), ((bd 9), .inl (cI, 30, .inl LE)), ((bd 10), .inl (cI, 30, .inl AA)), ((bd 11), .inl (cI, 30, .inl RI)), ((bd 12), .inl (cI, 10, .inl UN)), ((bd 13), .inl (cZ, 30, .inl CO))] := hD
  have hA0 := hA
  refine lv_aload_n hx hb d_Mo_above_0 rfl (lv_at hl 0 rfl) ?_
  refine lv_aload_n hx hb d_Mo_above_1 rfl (lv_at hl 0 rfl) ?_
  refine lv_iload_n hx hb d_Mo_above_2 rfl (lv_at hl 1 rfl) ?_
  refine ry_callV (n := 1) (As := [.int x]) (rest := [.ref (bd 0)]) ⟨hx, hb, hml, hown, htb⟩ (c_Mo_isLevel l dC dI cI cL cZ bd th K F S DD n NU VA BE WA LE AA RI UN CO unk cnt hn hunk hcnt x) (gV mw_628 mw_630 mp_20 mw_5 mc_Mo_isLevel) rfl rfl (by decide +kernel) ⟨Nat.le_of_ble_eq_true rfl, Nat.le_of_ble_eq_true rfl⟩ (hP.sub [0, 1, 2, 3, 4, 5, 6, 7, 8, 9, 10, 11, 12, 13] rfl) hK (ci := 4) (q0 := 0) rfl rfl rfl rfl hl.1 rfl (Nat.le_of_ble_eq_true rfl) d_Mo_above_3 ⟨Nat.zero_le _, Nat.zero_le _⟩ (fun r_1 hr_1 => ?_)
  subst hr_1
  refine W.eq (g2 := F0 m 6 ls [.int (hs x n), .ref (bd 0)]) rfl ?_
  refine lv_if_eq (tgt := 17) hx hb d_Mo_above_6 (by decide) (fun c_6 => ?_) (fun c_6 => ?_)
  · refine lv_iconst (v := 1) hx hb d_Mo_above_17 (by decide) ?_
    refine lv_goto (tgt := 22) hx hb d_Mo_above_18 (by decide) ?_
    refine wy_callV (n := 1) (wr := []) (As := [.int 1]) (rest := []) ⟨hx, hb, hml, hown, htb⟩ (c_Mo_refuses l dC dI cI cL cZ bd th K F S DD n NU VA BE WA LE AA RI UN CO unk cnt hn hunk hcnt 1 s.heap.size) (gV mw_620 mw_622 mp_19 mw_5 mc_Mo_refuses) rfl rfl (by decide +kernel) ⟨Nat.le_of_ble_eq_true rfl, Nat.le_of_ble_eq_true rfl⟩ hP hD hS hA hK [0, 1, 2, 3, 4, 5, 6, 7, 8, 9, 10, 11, 12, 13] [] rfl rfl (by decide) (by decide) (hP.sub [0, 1, 2, 3, 4, 5, 6, 7, 8, 9, 10, 11, 12, 13] rfl) ((hD.sub [0, 1, 2, 3, 4, 5, 6, 7, 8, 9, 10, 11, 12, 13] (by decide) rfl).weaken (fun _ _ _ _ => trivial)) (ci := 4) (q0 := 0) rfl rfl rfl rfl hl.1 rfl (Nat.le_of_ble_eq_true rfl) d_Mo_above_22 ⟨Nat.le_of_ble_eq_true rfl, Nat.le_of_ble_eq_true rfl⟩ (fun r u H locs hpost hP hD hS => ?_)
    subst hpost
    have hP : va_P (dC, dI) classes [((bd 0), .inr (4, [.int 1, .ref (bd 1), .ref (bd 2), .ref (bd 3), .ref (bd 4), .int (nI n), .ref (bd 5), .ref (bd 6), .ref (bd 7), .ref (bd 8), .ref (bd 9), .ref (bd 10), .ref (bd 11), .ref (bd 12), .ref (bd 13), .int (nI unk), .int (nI cnt)])), ((bd 1), .inl (cI, 120, .inl K)), ((bd 2), .inl (cI, 120, .inl F)), ((bd 3), .inl (cI, 120, .inl S)), ((bd 4), .inl (cI, 120, .inl DD)), ((bd 5), .inl (cI, 5, .inl NU)), ((bd 6), .inl (cI, 120, .inl VA)), ((bd 7), .inl (cI, 120, .inl BE)), ((bd 8), .inl (cI, 128, .inl WA)), ((bd 9), .inl (cI, 30, .inl LE)), ((bd 10), .inl (cI, 30, .inl AA)), ((bd 11), .inl (cI, 30, .inl RI)), ((bd 12), .inl (cI, 10, .inl UN)), ((bd 13), .inl (cZ, 30, .inl CO))] H := hP
    have hD : va_D A [((bd 0), .inr (4, [.int 1, .ref (bd 1), .ref (bd 2), .ref (bd 3), .ref (bd 4), .int (nI n), .ref (bd 5), .ref (bd 6), .ref (bd 7), .ref (bd 8), .ref (bd 9), .ref (bd 10), .ref (bd 11), .ref (bd 12), .ref (bd 13), .int (nI unk), .int (nI cnt)])), ((bd 1), .inl (cI, 120, .inl K)), ((bd 2), .inl (cI, 120, .inl F)), ((bd 3), .inl (cI, 120, .inl S)), ((bd 4), .inl (cI, 120, .inl DD)), ((bd 5), .inl (cI, 5, .inl NU)), ((bd 6), .inl (cI, 120, .inl VA)), ((bd 7), .inl (cI, 120, .inl BE)), ((bd 8), .inl (cI, 128, .inl WA)), ((bd 9), .inl (cI, 30, .inl LE)), ((bd 10), .inl (cI, 30, .inl AA)), ((bd 11), .inl (cI, 30, .inl RI)), ((bd 12), .inl (cI, 10, .inl UN)), ((bd 13), .inl (cZ, 30, .inl CO))] := hD
    refine W.eq (g2 := F0 m 25 ls [.int (if 1 ≤ 0 then 0 else 1)]) rfl ?_
    refine lv_if_eq (tgt := 30) hx hb d_Mo_above_25 (by decide) (fun c_25 => ?_) (fun c_25 => ?_)
    · exact absurd c_25 (by decide)
    · refine lv_lconst (v := 0) hx hb d_Mo_above_28 (by decide) ?_
      exact W.lret (v := (0 : Int64)) hx hb hr (fun t ht hW => ⟨⟨(0 : Int64), (), rfl, rfl, by rw [ht]; exact hP, va_K.moved hW.alike hK, hD⟩, hS.F ht⟩) hS.2.2 d_Mo_above_29
  · refine lv_aload_n hx hb d_Mo_above_9 rfl (lv_at hl 0 rfl) ?_
    refine lv_iload_n hx hb d_Mo_above_10 rfl (lv_at hl 2 rfl) ?_
    refine ry_callV (n := 1) (As := [.int y]) (rest := [.ref (bd 0)]) ⟨hx, hb, hml, hown, htb⟩ (c_Mo_isLevel l dC dI cI cL cZ bd th K F S DD n NU VA BE WA LE AA RI UN CO unk cnt hn hunk hcnt y) (gV mw_628 mw_630 mp_20 mw_5 mc_Mo_isLevel) rfl rfl (by decide +kernel) ⟨Nat.le_of_ble_eq_true rfl, Nat.le_of_ble_eq_true rfl⟩ (hP.sub [0, 1, 2, 3, 4, 5, 6, 7, 8, 9, 10, 11, 12, 13] rfl) hK (ci := 4) (q0 := 0) rfl rfl rfl rfl hl.1 rfl (Nat.le_of_ble_eq_true rfl) d_Mo_above_11 ⟨Nat.zero_le _, Nat.zero_le _⟩ (fun r_2 hr_2 => ?_)
    subst hr_2
    refine W.eq (g2 := F0 m 14 ls [.int (hs y n), .ref (bd 0)]) rfl ?_
    refine lv_if_ne (tgt := 21) hx hb d_Mo_above_14 (by decide) (fun c_14 => ?_) (fun c_14 => ?_)
    · exact absurd hp (fun z => z.elim c_6 c_14)
    · refine lv_iconst (v := 1) hx hb d_Mo_above_17 (by decide) ?_
      refine lv_goto (tgt := 22) hx hb d_Mo_above_18 (by decide) ?_
      refine wy_callV (n := 1) (wr := []) (As := [.int 1]) (rest := []) ⟨hx, hb, hml, hown, htb⟩ (c_Mo_refuses l dC dI cI cL cZ bd th K F S DD n NU VA BE WA LE AA RI UN CO unk cnt hn hunk hcnt 1 s.heap.size) (gV mw_620 mw_622 mp_19 mw_5 mc_Mo_refuses) rfl rfl (by decide +kernel) ⟨Nat.le_of_ble_eq_true rfl, Nat.le_of_ble_eq_true rfl⟩ hP hD hS hA hK [0, 1, 2, 3, 4, 5, 6, 7, 8, 9, 10, 11, 12, 13] [] rfl rfl (by decide) (by decide) (hP.sub [0, 1, 2, 3, 4, 5, 6, 7, 8, 9, 10, 11, 12, 13] rfl) ((hD.sub [0, 1, 2, 3, 4, 5, 6, 7, 8, 9, 10, 11, 12, 13] (by decide) rfl).weaken (fun _ _ _ _ => trivial)) (ci := 4) (q0 := 0) rfl rfl rfl rfl hl.1 rfl (Nat.le_of_ble_eq_true rfl) d_Mo_above_22 ⟨Nat.le_of_ble_eq_true rfl, Nat.le_of_ble_eq_true rfl⟩ (fun r u H locs hpost hP hD hS => ?_)
      subst hpost
      have hP : va_P (dC, dI) classes [((bd 0), .inr (4, [.int 1, .ref (bd 1), .ref (bd 2), .ref (bd 3), .ref (bd 4), .int (nI n), .ref (bd 5), .ref (bd 6), .ref (bd 7), .ref (bd 8), .ref (bd 9), .ref (bd 10), .ref (bd 11), .ref (bd 12), .ref (bd 13), .int (nI unk), .int (nI cnt)])), ((bd 1), .inl (cI, 120, .inl K)), ((bd 2), .inl (cI, 120, .inl F)), ((bd 3), .inl (cI, 120, .inl S)), ((bd 4), .inl (cI, 120, .inl DD)), ((bd 5), .inl (cI, 5, .inl NU)), ((bd 6), .inl (cI, 120, .inl VA)), ((bd 7), .inl (cI, 120, .inl BE)), ((bd 8), .inl (cI, 128, .inl WA)), ((bd 9), .inl (cI, 30, .inl LE)), ((bd 10), .inl (cI, 30, .inl AA)), ((bd 11), .inl (cI, 30, .inl RI)), ((bd 12), .inl (cI, 10, .inl UN)), ((bd 13), .inl (cZ, 30, .inl CO))] H := hP
      have hD : va_D A [((bd 0), .inr (4, [.int 1, .ref (bd 1), .ref (bd 2), .ref (bd 3), .ref (bd 4), .int (nI n), .ref (bd 5), .ref (bd 6), .ref (bd 7), .ref (bd 8), .ref (bd 9), .ref (bd 10), .ref (bd 11), .ref (bd 12), .ref (bd 13), .int (nI unk), .int (nI cnt)])), ((bd 1), .inl (cI, 120, .inl K)), ((bd 2), .inl (cI, 120, .inl F)), ((bd 3), .inl (cI, 120, .inl S)), ((bd 4), .inl (cI, 120, .inl DD)), ((bd 5), .inl (cI, 5, .inl NU)), ((bd 6), .inl (cI, 120, .inl VA)), ((bd 7), .inl (cI, 120, .inl BE)), ((bd 8), .inl (cI, 128, .inl WA)), ((bd 9), .inl (cI, 30, .inl LE)), ((bd 10), .inl (cI, 30, .inl AA)), ((bd 11), .inl (cI, 30, .inl RI)), ((bd 12), .inl (cI, 10, .inl UN)), ((bd 13), .inl (cZ, 30, .inl CO))] := hD
      refine W.eq (g2 := F0 m 25 ls [.int (if 1 ≤ 0 then 0 else 1)]) rfl ?_
      refine lv_if_eq (tgt := 30) hx hb d_Mo_above_25 (by decide) (fun c_25 => ?_) (fun c_25 => ?_)
      · exact absurd c_25 (by decide)
      · refine lv_lconst (v := 0) hx hb d_Mo_above_28 (by decide) ?_
        exact W.lret (v := (0 : Int64)) hx hb hr (fun t ht hW => ⟨⟨(0 : Int64), (), rfl, rfl, by rw [ht]; exact hP, va_K.moved hW.alike hK, hD⟩, hS.F ht⟩) hS.2.2 d_Mo_above_29

set_option maxHeartbeats 4000000 in
set_option maxRecDepth 100000 in
theorem c1_Mo_above (l : Launch) (dC : Nat → ClassId) (dI : Nat → Nat → Nat) (cI cL cZ : ClassId) (bd : Nat → Nat) (th : Int32) (K F S DD : Nat → Int32) (n : Nat) (NU VA BE WA LE AA RI UN CO : Nat → Int32) (unk cnt : Nat) (hn : n ≤ 120) (hunk : unk ≤ 10) (hcnt : cnt ≤ 30) (nd : Nat → Nat × Nat × Nat) (hok : MoOk nd n K F S DD) (x y : Nat) (hx1 : x < n) (hy1 : y < n) (hp : hs (nI x) n = 1) (hp2 : hs (nI y) n = 1) (hrg : rgo nd x y = -1) (sz : Nat) : Met l y_Mo_above (cw_Mo_above :: tb) (rmH 6 0 0) (va_Pc [.ref (bd 0), .int (nI x), .int (nI y)] (wy_P (dC, dI) classes (wMo cI cZ bd th K F S DD n NU VA BE WA LE AA RI UN CO unk cnt) (tyI cI cL cZ) sz)) (wy_Q ry_l (fun r (u : (Nat → Int32) × (Nat → Int32)) => r = -1) (wy_B (dC, dI) classes (tyI cI cL cZ) (va_A (wMo cI cZ bd th K F S DD n NU VA BE WA LE AA RI UN CO unk cnt) sz) (fun u : (Nat → Int32) × (Nat → Int32) => (wMo cI cZ bd 0 K F S DD n u.1 u.2 BE WA LE AA RI UN CO unk cnt))) (va_A (wMo cI cZ bd th K F S DD n NU VA BE WA LE AA RI UN CO unk cnt) sz)) 0 0 (va_A (wMo cI cZ bd th K F S DD n NU VA BE WA LE AA RI UN CO unk cnt) sz) := by
  refine Met.ofW (cc := b_Mo_above) (maxL := 10) (ret := (some .long)) (by decide +kernel) rfl ?_
  intro p e s m args below meth c s₁ B hml0 hv
  have C0 := cx_of B hml0 rfl
  obtain ⟨hx, hb, hr, hml, hown, htb, hlocks⟩ := id C0
  obtain ⟨rfl, hsz, hP, hK, hD0⟩ := hv
  subst hsz
  have hD := hD0.self (sz := s.heap.size)
  generalize hAe : va_A (wMo cI cZ bd th K F S DD n NU VA BE WA LE AA RI UN CO unk cnt) s.heap.size = A at hD ⊢
  have hA : ∀ q : Nat, s.heap.size ≤ q → A q := fun q h => by rw [← hAe]; exact Or.inr h
  have hS : va_S A s.heap s.heap [] := va_S.rf
  have hl := lv_entry ([.ref (bd 0), .int (nI x), .int (nI y)]) (n := 10) (Nat.le_of_ble_eq_true rfl)
  rw [lg_entry_eq]
  generalize (lg_sl ([.ref (bd 0), .int (nI x), .int (nI y)]) ++ List.replicate (10 - (lg_sl ([.ref (bd 0), .int (nI x), .int (nI y)])).length) Slot.unset).toArray = ls at hl ⊢
  have hl : lv_has ls 10 [(0, .ref (bd 0)), (1, .int (nI x)), (2, .int (nI y))] := hl
  have hP : va_P (dC, dI) classes [((bd 0), .inr (4, [.int th, .ref (bd 1), .ref (bd 2), .ref (bd 3), .ref (bd 4), .int (nI n), .ref (bd 5), .ref (bd 6), .ref (bd 7), .ref (bd 8), .ref (bd 9), .ref (bd 10), .ref (bd 11), .ref (bd 12), .ref (bd 13), .int (nI unk), .int (nI cnt)])), ((bd 1), .inl (cI, 120, .inl K)), ((bd 2), .inl (cI, 120, .inl F)), ((bd 3), .inl (cI, 120, .inl S)), ((bd 4), .inl (cI, 120, .inl DD)), ((bd 5), .inl (cI, 5, .inl NU)), ((bd 6), .inl (cI, 120, .inl VA)), ((bd 7), .inl (cI, 120, .inl BE)), ((bd 8), .inl (cI, 128, .inl WA)), ((bd 9), .inl (cI, 30, .inl LE)), ((bd 10), .inl (cI, 30, .inl AA)), ((bd 11), .inl (cI, 30, .inl RI)), ((bd 12), .inl (cI, 10, .inl UN)), ((bd 13), .inl (cZ, 30, .inl CO))] s.heap := hP
  have hD : va_D A [((bd 0), .inr (4, [.int th, .ref (bd 1), .ref (bd 2), .ref (bd 3), .ref (bd 4), .int (nI n), .ref (bd 5), .ref (bd 6), .ref (bd 7), .ref (bd 8), .ref (bd 9), .ref (bd 10), .ref (bd 11), .ref (bd 12), .ref (bd 13), .int (nI unk), .int (nI cnt)])), ((bd 1), .inl (cI, 120, .inl K)), ((bd 2), .inl (cI, 120, .inl F)), ((bd 3), .inl (cI, 120, .inl S)), ((bd 4), .inl (cI, 120, .inl DD)), ((bd 5), .inl (cI, 5, .inl NU)), ((bd 6), .inl (cI, 120, .inl VA)), ((bd 7), .inl (cI, 120, .inl BE)), ((bd 8), .inl (cI, 128, .inl WA)), ((bd 9), .inl (cI, 30, .inl LE)), ((bd 10), .inl (cI, 30, .inl AA)), ((bd 11), .inl (cI, 30, .inl RI)), ((bd 12), .inl (cI, 10, .inl UN)), ((bd 13), .inl (cZ, 30, .inl CO))] := hD
  have hA0 := hA
  refine lv_aload_n hx hb d_Mo_above_0 rfl (lv_at hl 0 rfl) ?_
  refine lv_aload_n hx hb d_Mo_above_1 rfl (lv_at hl 0 rfl) ?_
  refine lv_iload_n hx hb d_Mo_above_2 rfl (lv_at hl 1 rfl) ?_
  refine ry_callV (n := 1) (As := [.int (nI x)]) (rest := [.ref (bd 0)]) ⟨hx, hb, hml, hown, htb⟩ (c_Mo_isLevel l dC dI cI cL cZ bd th K F S DD n NU VA BE WA LE AA RI UN CO unk cnt hn hunk hcnt (nI x)) (gV mw_628 mw_630 mp_20 mw_5 mc_Mo_isLevel) rfl rfl (by decide +kernel) ⟨Nat.le_of_ble_eq_true rfl, Nat.le_of_ble_eq_true rfl⟩ (hP.sub [0, 1, 2, 3, 4, 5, 6, 7, 8, 9, 10, 11, 12, 13] rfl) hK (ci := 4) (q0 := 0) rfl rfl rfl rfl hl.1 rfl (Nat.le_of_ble_eq_true rfl) d_Mo_above_3 ⟨Nat.zero_le _, Nat.zero_le _⟩ (fun r_1 hr_1 => ?_)
  subst hr_1
  refine W.eq (g2 := F0 m 6 ls [.int (hs (nI x) n), .ref (bd 0)]) rfl ?_
  refine lv_if_eq (tgt := 17) hx hb d_Mo_above_6 (by decide) (fun c_6 => ?_) (fun c_6 => ?_)
  · exact absurd (hp.symm.trans c_6) (by decide)
  · refine lv_aload_n hx hb d_Mo_above_9 rfl (lv_at hl 0 rfl) ?_
    refine lv_iload_n hx hb d_Mo_above_10 rfl (lv_at hl 2 rfl) ?_
    refine ry_callV (n := 1) (As := [.int (nI y)]) (rest := [.ref (bd 0)]) ⟨hx, hb, hml, hown, htb⟩ (c_Mo_isLevel l dC dI cI cL cZ bd th K F S DD n NU VA BE WA LE AA RI UN CO unk cnt hn hunk hcnt (nI y)) (gV mw_628 mw_630 mp_20 mw_5 mc_Mo_isLevel) rfl rfl (by decide +kernel) ⟨Nat.le_of_ble_eq_true rfl, Nat.le_of_ble_eq_true rfl⟩ (hP.sub [0, 1, 2, 3, 4, 5, 6, 7, 8, 9, 10, 11, 12, 13] rfl) hK (ci := 4) (q0 := 0) rfl rfl rfl rfl hl.1 rfl (Nat.le_of_ble_eq_true rfl) d_Mo_above_11 ⟨Nat.zero_le _, Nat.zero_le _⟩ (fun r_2 hr_2 => ?_)
    subst hr_2
    refine W.eq (g2 := F0 m 14 ls [.int (hs (nI y) n), .ref (bd 0)]) rfl ?_
    refine lv_if_ne (tgt := 21) hx hb d_Mo_above_14 (by decide) (fun c_14 => ?_) (fun c_14 => ?_)
    · refine lv_iconst (v := 0) hx hb d_Mo_above_21 (by decide) ?_
      refine wy_callV (n := 1) (wr := []) (As := [.int 0]) (rest := []) ⟨hx, hb, hml, hown, htb⟩ (c_Mo_refuses l dC dI cI cL cZ bd th K F S DD n NU VA BE WA LE AA RI UN CO unk cnt hn hunk hcnt 0 s.heap.size) (gV mw_620 mw_622 mp_19 mw_5 mc_Mo_refuses) rfl rfl (by decide +kernel) ⟨Nat.le_of_ble_eq_true rfl, Nat.le_of_ble_eq_true rfl⟩ hP hD hS hA hK [0, 1, 2, 3, 4, 5, 6, 7, 8, 9, 10, 11, 12, 13] [] rfl rfl (by decide) (by decide) (hP.sub [0, 1, 2, 3, 4, 5, 6, 7, 8, 9, 10, 11, 12, 13] rfl) ((hD.sub [0, 1, 2, 3, 4, 5, 6, 7, 8, 9, 10, 11, 12, 13] (by decide) rfl).weaken (fun _ _ _ _ => trivial)) (ci := 4) (q0 := 0) rfl rfl rfl rfl hl.1 rfl (Nat.le_of_ble_eq_true rfl) d_Mo_above_22 ⟨Nat.le_of_ble_eq_true rfl, Nat.le_of_ble_eq_true rfl⟩ (fun r u H locs hpost hP hD hS => ?_)
      subst hpost
      have hP : va_P (dC, dI) classes [((bd 0), .inr (4, [.int 0, .ref (bd 1), .ref (bd 2), .ref (bd 3), .ref (bd 4), .int (nI n), .ref (bd 5), .ref (bd 6), .ref (bd 7), .ref (bd 8), .ref (bd 9), .ref (bd 10), .ref (bd 11), .ref (bd 12), .ref (bd 13), .int (nI unk), .int (nI cnt)])), ((bd 1), .inl (cI, 120, .inl K)), ((bd 2), .inl (cI, 120, .inl F)), ((bd 3), .inl (cI, 120, .inl S)), ((bd 4), .inl (cI, 120, .inl DD)), ((bd 5), .inl (cI, 5, .inl NU)), ((bd 6), .inl (cI, 120, .inl VA)), ((bd 7), .inl (cI, 120, .inl BE)), ((bd 8), .inl (cI, 128, .inl WA)), ((bd 9), .inl (cI, 30, .inl LE)), ((bd 10), .inl (cI, 30, .inl AA)), ((bd 11), .inl (cI, 30, .inl RI)), ((bd 12), .inl (cI, 10, .inl UN)), ((bd 13), .inl (cZ, 30, .inl CO))] H := hP
      have hD : va_D A [((bd 0), .inr (4, [.int 0, .ref (bd 1), .ref (bd 2), .ref (bd 3), .ref (bd 4), .int (nI n), .ref (bd 5), .ref (bd 6), .ref (bd 7), .ref (bd 8), .ref (bd 9), .ref (bd 10), .ref (bd 11), .ref (bd 12), .ref (bd 13), .int (nI unk), .int (nI cnt)])), ((bd 1), .inl (cI, 120, .inl K)), ((bd 2), .inl (cI, 120, .inl F)), ((bd 3), .inl (cI, 120, .inl S)), ((bd 4), .inl (cI, 120, .inl DD)), ((bd 5), .inl (cI, 5, .inl NU)), ((bd 6), .inl (cI, 120, .inl VA)), ((bd 7), .inl (cI, 120, .inl BE)), ((bd 8), .inl (cI, 128, .inl WA)), ((bd 9), .inl (cI, 30, .inl LE)), ((bd 10), .inl (cI, 30, .inl AA)), ((bd 11), .inl (cI, 30, .inl RI)), ((bd 12), .inl (cI, 10, .inl UN)), ((bd 13), .inl (cZ, 30, .inl CO))] := hD
      refine W.eq (g2 := F0 m 25 ls [.int (if 0 ≤ 0 then 0 else 1)]) rfl ?_
      refine lv_if_eq (tgt := 30) hx hb d_Mo_above_25 (by decide) (fun c_25 => ?_) (fun c_25 => ?_)
      · refine lv_aload_n hx hb d_Mo_above_30 rfl (lv_at hl 0 rfl) ?_
        refine lv_iload_n hx hb d_Mo_above_31 rfl (lv_at hl 1 rfl) ?_
        refine lv_iload_n hx hb d_Mo_above_32 rfl (lv_at hl 2 rfl) ?_
        refine wy_callV (n := 2) (wr := []) (As := [.int (nI x), .int (nI y)]) (rest := []) ⟨hx, hb, hml, hown, htb⟩ (c_Mo_regionOf l dC dI cI cL cZ bd 0 K F S DD n NU VA BE WA LE AA RI UN CO unk cnt hn hunk hcnt nd hok x y hx1 hy1 H.size) (gV mw_673 mw_675 mp_25 mw_5 mc_Mo_regionOf) rfl rfl (by decide +kernel) ⟨Nat.le_of_ble_eq_true rfl, Nat.le_of_ble_eq_true rfl⟩ hP hD hS hA hK [0, 1, 2, 3, 4, 5, 6, 7, 8, 9, 10, 11, 12, 13] [] rfl rfl (by decide) (by decide) (hP.sub [0, 1, 2, 3, 4, 5, 6, 7, 8, 9, 10, 11, 12, 13] rfl) ((hD.sub [0, 1, 2, 3, 4, 5, 6, 7, 8, 9, 10, 11, 12, 13] (by decide) rfl).weaken (fun _ _ _ _ => trivial)) (ci := 4) (q0 := 0) rfl rfl rfl rfl hl.1 rfl (Nat.le_of_ble_eq_true rfl) d_Mo_above_33 ⟨Nat.le_of_ble_eq_true rfl, Nat.le_of_ble_eq_true rfl⟩ (fun r u H locs hpost hP hD hS => ?_)
        rw [hrg] at hpost
        subst hpost
        have hP : va_P (dC, dI) classes [((bd 0), .inr (4, [.int 0, .ref (bd 1), .ref (bd 2), .ref (bd 3), .ref (bd 4), .int (nI n), .ref (bd 5), .ref (bd 6), .ref (bd 7), .ref (bd 8), .ref (bd 9), .ref (bd 10), .ref (bd 11), .ref (bd 12), .ref (bd 13), .int (nI unk), .int (nI cnt)])), ((bd 1), .inl (cI, 120, .inl K)), ((bd 2), .inl (cI, 120, .inl F)), ((bd 3), .inl (cI, 120, .inl S)), ((bd 4), .inl (cI, 120, .inl DD)), ((bd 5), .inl (cI, 5, .inl u.1)), ((bd 6), .inl (cI, 120, .inl u.2)), ((bd 7), .inl (cI, 120, .inl BE)), ((bd 8), .inl (cI, 128, .inl WA)), ((bd 9), .inl (cI, 30, .inl LE)), ((bd 10), .inl (cI, 30, .inl AA)), ((bd 11), .inl (cI, 30, .inl RI)), ((bd 12), .inl (cI, 10, .inl UN)), ((bd 13), .inl (cZ, 30, .inl CO))] H := hP
        have hD : va_D A [((bd 0), .inr (4, [.int 0, .ref (bd 1), .ref (bd 2), .ref (bd 3), .ref (bd 4), .int (nI n), .ref (bd 5), .ref (bd 6), .ref (bd 7), .ref (bd 8), .ref (bd 9), .ref (bd 10), .ref (bd 11), .ref (bd 12), .ref (bd 13), .int (nI unk), .int (nI cnt)])), ((bd 1), .inl (cI, 120, .inl K)), ((bd 2), .inl (cI, 120, .inl F)), ((bd 3), .inl (cI, 120, .inl S)), ((bd 4), .inl (cI, 120, .inl DD)), ((bd 5), .inl (cI, 5, .inl u.1)), ((bd 6), .inl (cI, 120, .inl u.2)), ((bd 7), .inl (cI, 120, .inl BE)), ((bd 8), .inl (cI, 128, .inl WA)), ((bd 9), .inl (cI, 30, .inl LE)), ((bd 10), .inl (cI, 30, .inl AA)), ((bd 11), .inl (cI, 30, .inl RI)), ((bd 12), .inl (cI, 10, .inl UN)), ((bd 13), .inl (cZ, 30, .inl CO))] := hD
        refine W.eq (g2 := F0 m 36 ls [.int (-1)]) rfl ?_
        refine lv_istore_n (lv' := [(3, .int (-1)), (0, .ref (bd 0)), (1, .int (nI x)), (2, .int (nI y))]) hx hb d_Mo_above_36 rfl hl (by decide) rfl (fun ls hl => ?_)
        refine lv_iload_n hx hb d_Mo_above_37 rfl (lv_at hl 0 rfl) ?_
        refine lv_iconst (v := (-1)) hx hb d_Mo_above_38 (by decide) ?_
        refine lv_icmp_ne (tgt := 46) hx hb d_Mo_above_39 (by decide) (fun c_39 => ?_) (fun c_39 => ?_)
        · exact absurd rfl c_39
        · refine lv_ldc2 (v := (-1)) hx hb hown (htb _ mw_697) d_Mo_above_42 ?_
          exact W.lret (v := (-1)) hx hb hr (fun t ht hW => ⟨⟨(-1), u, rfl, rfl, by rw [ht]; exact hP, va_K.moved hW.alike hK, hD⟩, hS.F ht⟩) hS.2.2 d_Mo_above_45
      · exact absurd (by decide) c_25
    · exact absurd (hp2.symm.trans c_14) (by decide)

set_option maxHeartbeats 4000000 in
set_option maxRecDepth 100000 in
theorem lp_Mo_above2 {p : Program} (l : Launch) {e : Env} {s : State} {m : MethodId} {args : Array Value} {below : List Frame} {meth : Method} {c : Code} {Q : State → Prop} {A : Nat → Prop} {H0 : Heap} (C0 : cx p s m args meth c b_Mo_above 10 (some .long) R_Mo) (dC : Nat → ClassId) (dI : Nat → Nat → Nat) (cI cL cZ : ClassId) (bd : Nat → Nat) (K F S DD : Nat → Int32) (n : Nat) (BE WA LE AA RI UN CO : Nat → Int32) (unk cnt : Nat) (hn : n ≤ 120) (hunk : unk ≤ 10) (hcnt : cnt ≤ 30) (nd : Nat → Nat × Nat × Nat) (hok : MoOk nd n K F S DD) (x y : Nat) (hx1 : x < n) (hy1 : y < n) (g : Nat) (hg : g < 32) (v9 : Int64) (i : Nat) (hi5 : i < 5) (nu : Nat → Nat) (hnu : ∀ a, a < i → nu a < 300) (b N : Nat) (hN3 : N < 300) (hN : ¬ gor nd x y g (i + 1) (nup nu i N) = -1) (hlow : ∀ z, b ≤ z → z < N → gor nd x y g (i + 1) (nup nu i z) = -1) (hK : va_K (dC, dI) classes (tyI cI cL cZ) s) (hA : ∀ q : Nat, H0.size ≤ q → A q) 
    (KB : ∀ (NU VA : Nat → Int32) (H : Heap) (locs : List Loc) (ls : Array Slot), (∀ a, a < i → NU a = nI (nu a)) → va_P (dC, dI) classes [((bd 0), .inr (4, [.int 0, .ref (bd 1), .ref (bd 2), .ref (bd 3), .ref (bd 4), .int (nI n), .ref (bd 5), .ref (bd 6), .ref (bd 7), .ref (bd 8), .ref (bd 9), .ref (bd 10), .ref (bd 11), .ref (bd 12), .ref (bd 13), .int (nI unk), .int (nI cnt)])), ((bd 1), .inl (cI, 120, .inl K)), ((bd 2), .inl (cI, 120, .inl F)), ((bd 3), .inl (cI, 120, .inl S)), ((bd 4), .inl (cI, 120, .inl DD)), ((bd 5), .inl (cI, 5, .inl NU)), ((bd 6), .inl (cI, 120, .inl VA)), ((bd 7), .inl (cI, 120, .inl BE)), ((bd 8), .inl (cI, 128, .inl WA)), ((bd 9), .inl (cI, 30, .inl LE)), ((bd 10), .inl (cI, 30, .inl AA)), ((bd 11), .inl (cI, 30, .inl RI)), ((bd 12), .inl (cI, 10, .inl UN)), ((bd 13), .inl (cZ, 30, .inl CO))] H → va_D A [((bd 0), .inr (4, [.int 0, .ref (bd 1), .ref (bd 2), .ref (bd 3), .ref (bd 4), .int (nI n), .ref (bd 5), .ref (bd 6), .ref (bd 7), .ref (bd 8), .ref (bd 9), .ref (bd 10), .ref (bd 11), .ref (bd 12), .ref (bd 13), .int (nI unk), .int (nI cnt)])), ((bd 1), .inl (cI, 120, .inl K)), ((bd 2), .inl (cI, 120, .inl F)), ((bd 3), .inl (cI, 120, .inl S)), ((bd 4), .inl (cI, 120, .inl DD)), ((bd 5), .inl (cI, 5, .inl NU)), ((bd 6), .inl (cI, 120, .inl VA)), ((bd 7), .inl (cI, 120, .inl BE)), ((bd 8), .inl (cI, 128, .inl WA)), ((bd 9), .inl (cI, 30, .inl LE)), ((bd 10), .inl (cI, 30, .inl AA)), ((bd 11), .inl (cI, 30, .inl RI)), ((bd 12), .inl (cI, 10, .inl UN)), ((bd 13), .inl (cZ, 30, .inl CO))] → va_S A H0 H locs → lv_has ls 10 [(0, .ref (bd 0)), (1, .int (nI x)), (2, .int (nI y)), (3, .int (nI g)), (4, .long v9), (6, .int (nI i)), (8, .int (nI N))] → W p l e (rmH 6 0 0) s m args below meth c H locs 0 0 Q (F0 m 135 ls []))
    : ∀ (q : Nat) (k : Nat) (NU VA : Nat → Int32), k + q = N ∧ b ≤ k ∧ (∀ a, a < i → NU a = nI (nu a)) → ∀ (H : Heap) (locs : List Loc) (ls : Array Slot), va_P (dC, dI) classes [((bd 0), .inr (4, [.int 0, .ref (bd 1), .ref (bd 2), .ref (bd 3), .ref (bd 4), .int (nI n), .ref (bd 5), .ref (bd 6), .ref (bd 7), .ref (bd 8), .ref (bd 9), .ref (bd 10), .ref (bd 11), .ref (bd 12), .ref (bd 13), .int (nI unk), .int (nI cnt)])), ((bd 1), .inl (cI, 120, .inl K)), ((bd 2), .inl (cI, 120, .inl F)), ((bd 3), .inl (cI, 120, .inl S)), ((bd 4), .inl (cI, 120, .inl DD)), ((bd 5), .inl (cI, 5, .inl NU)), ((bd 6), .inl (cI, 120, .inl VA)), ((bd 7), .inl (cI, 120, .inl BE)), ((bd 8), .inl (cI, 128, .inl WA)), ((bd 9), .inl (cI, 30, .inl LE)), ((bd 10), .inl (cI, 30, .inl AA)), ((bd 11), .inl (cI, 30, .inl RI)), ((bd 12), .inl (cI, 10, .inl UN)), ((bd 13), .inl (cZ, 30, .inl CO))] H → va_D A [((bd 0), .inr (4, [.int 0, .ref (bd 1), .ref (bd 2), .ref (bd 3), .ref (bd 4), .int (nI n), .ref (bd 5), .ref (bd 6), .ref (bd 7), .ref (bd 8), .ref (bd 9), .ref (bd 10), .ref (bd 11), .ref (bd 12), .ref (bd 13), .int (nI unk), .int (nI cnt)])), ((bd 1), .inl (cI, 120, .inl K)), ((bd 2), .inl (cI, 120, .inl F)), ((bd 3), .inl (cI, 120, .inl S)), ((bd 4), .inl (cI, 120, .inl DD)), ((bd 5), .inl (cI, 5, .inl NU)), ((bd 6), .inl (cI, 120, .inl VA)), ((bd 7), .inl (cI, 120, .inl BE)), ((bd 8), .inl (cI, 128, .inl WA)), ((bd 9), .inl (cI, 30, .inl LE)), ((bd 10), .inl (cI, 30, .inl AA)), ((bd 11), .inl (cI, 30, .inl RI)), ((bd 12), .inl (cI, 10, .inl UN)), ((bd 13), .inl (cZ, 30, .inl CO))] → va_S A H0 H locs → lv_has ls 10 [(0, .ref (bd 0)), (1, .int (nI x)), (2, .int (nI y)), (3, .int (nI g)), (4, .long v9), (6, .int (nI i)), (8, .int (nI k)), (9, .int 0)] → W p l e (rmH 6 0 0) s m args below meth c H locs 0 0 Q (F0 m 90 ls []) := by
  obtain ⟨hx, hb, hr, hml, hown, htb, hlocks⟩ := id C0
  intro q
  induction q with
  | zero =>
    intro k NU VA hiV H locs ls hP hD hS hl
    obtain ⟨hkq, hbk, hNU⟩ := hiV
    refine lv_iload hx hb d_Mo_above_90 (lv_at hl 7 rfl) ?_
    refine lv_if_ne (tgt := 135) hx hb d_Mo_above_92 (by decide) (fun c_92 => ?_) (fun c_92 => ?_)
    · exact absurd rfl c_92
    · refine lv_aload_n hx hb d_Mo_above_95 rfl (lv_at hl 0 rfl) ?_
      refine va_get (D := (dC, dI)) (ci := 4) (v := .ref (bd 5)) (C := R_Mo) (T := F_Mo) (N := 17) hx hb htb ul_Mo hown hK hP 0 rfl rfl 6 (by decide) (htb _ mw_554) (fun _ h9 => h9) rfl d_Mo_above_96 ?_
      refine lv_iload hx hb d_Mo_above_99 (lv_at hl 5 rfl) ?_
      refine lv_iload hx hb d_Mo_above_101 (lv_at hl 6 rfl) ?_
      refine ry_iast (D := (dC, dI)) (j := i) hx hb hK hP hD hS 5 0 rfl rfl (by omega) (by decide) d_Mo_above_103 (fun H locs hP hD hS => ?_)
      have hP : va_P (dC, dI) classes [((bd 0), .inr (4, [.int 0, .ref (bd 1), .ref (bd 2), .ref (bd 3), .ref (bd 4), .int (nI n), .ref (bd 5), .ref (bd 6), .ref (bd 7), .ref (bd 8), .ref (bd 9), .ref (bd 10), .ref (bd 11), .ref (bd 12), .ref (bd 13), .int (nI unk), .int (nI cnt)])), ((bd 1), .inl (cI, 120, .inl K)), ((bd 2), .inl (cI, 120, .inl F)), ((bd 3), .inl (cI, 120, .inl S)), ((bd 4), .inl (cI, 120, .inl DD)), ((bd 5), .inl (cI, 5, .inl (upd NU i (nI k)))), ((bd 6), .inl (cI, 120, .inl VA)), ((bd 7), .inl (cI, 120, .inl BE)), ((bd 8), .inl (cI, 128, .inl WA)), ((bd 9), .inl (cI, 30, .inl LE)), ((bd 10), .inl (cI, 30, .inl AA)), ((bd 11), .inl (cI, 30, .inl RI)), ((bd 12), .inl (cI, 10, .inl UN)), ((bd 13), .inl (cZ, 30, .inl CO))] H := hP
      have hD : va_D A [((bd 0), .inr (4, [.int 0, .ref (bd 1), .ref (bd 2), .ref (bd 3), .ref (bd 4), .int (nI n), .ref (bd 5), .ref (bd 6), .ref (bd 7), .ref (bd 8), .ref (bd 9), .ref (bd 10), .ref (bd 11), .ref (bd 12), .ref (bd 13), .int (nI unk), .int (nI cnt)])), ((bd 1), .inl (cI, 120, .inl K)), ((bd 2), .inl (cI, 120, .inl F)), ((bd 3), .inl (cI, 120, .inl S)), ((bd 4), .inl (cI, 120, .inl DD)), ((bd 5), .inl (cI, 5, .inl (upd NU i (nI k)))), ((bd 6), .inl (cI, 120, .inl VA)), ((bd 7), .inl (cI, 120, .inl BE)), ((bd 8), .inl (cI, 128, .inl WA)), ((bd 9), .inl (cI, 30, .inl LE)), ((bd 10), .inl (cI, 30, .inl AA)), ((bd 11), .inl (cI, 30, .inl RI)), ((bd 12), .inl (cI, 10, .inl UN)), ((bd 13), .inl (cZ, 30, .inl CO))] := hD
      refine lv_aload_n hx hb d_Mo_above_104 rfl (lv_at hl 0 rfl) ?_
      refine lv_iload_n hx hb d_Mo_above_105 rfl (lv_at hl 1 rfl) ?_
      refine lv_iload_n hx hb d_Mo_above_106 rfl (lv_at hl 2 rfl) ?_
      refine lv_iload_n hx hb d_Mo_above_107 rfl (lv_at hl 3 rfl) ?_
      refine lv_iload hx hb d_Mo_above_108 (lv_at hl 5 rfl) ?_
      refine lv_iconst (v := 1) hx hb d_Mo_above_110 (by decide) ?_
      refine lv_iadd hx hb d_Mo_above_111 ?_
      rw [nI_1]
      have hNU9 : ∀ a, a < i + 1 → upd NU i (nI k) a = nI (nup nu i k a) := nup_up hNU
      refine wy_callV (n := 4) (wr := []) (As := [.int (nI x), .int (nI y), .int (nI g), .int (nI (i + 1))]) (rest := []) ⟨hx, hb, hml, hown, htb⟩ (c_Mo_goesOn l dC dI cI cL cZ bd 0 K F S DD n (upd NU i (nI k)) VA BE WA LE AA RI UN CO unk cnt hn hunk hcnt nd hok x y g (i + 1) hx1 hy1 hg (by omega) (nup nu i k) (nup_lt hnu (by omega)) hNU9 H.size) (gV mw_677 mw_679 mp_26 mw_5 mc_Mo_goesOn) rfl rfl (by decide +kernel) ⟨Nat.le_of_ble_eq_true rfl, Nat.le_of_ble_eq_true rfl⟩ hP hD hS hA hK [0, 1, 2, 3, 4, 5, 6, 7, 8, 9, 10, 11, 12, 13] [] rfl rfl (by decide) (by decide) (hP.sub [0, 1, 2, 3, 4, 5, 6, 7, 8, 9, 10, 11, 12, 13] rfl) ((hD.sub [0, 1, 2, 3, 4, 5, 6, 7, 8, 9, 10, 11, 12, 13] (by decide) rfl).weaken (fun _ _ _ _ => trivial)) (ci := 4) (q0 := 0) rfl rfl rfl rfl hl.1 rfl (Nat.le_of_ble_eq_true rfl) d_Mo_above_112 ⟨Nat.le_of_ble_eq_true rfl, Nat.le_of_ble_eq_true rfl⟩ (fun r u H locs hpost hP hD hS => ?_)
      obtain ⟨hp1, hp2⟩ := hpost
      rw [if_neg (by rw [show k = N by omega]; exact hN)] at hp1
      subst hp1
      have hNV : ∀ a, a < i → u.1 a = nI (nu a) := fun a ha => by rw [hp2 a (by omega), nup_n (by omega)]
      have hP : va_P (dC, dI) classes [((bd 0), .inr (4, [.int 0, .ref (bd 1), .ref (bd 2), .ref (bd 3), .ref (bd 4), .int (nI n), .ref (bd 5), .ref (bd 6), .ref (bd 7), .ref (bd 8), .ref (bd 9), .ref (bd 10), .ref (bd 11), .ref (bd 12), .ref (bd 13), .int (nI unk), .int (nI cnt)])), ((bd 1), .inl (cI, 120, .inl K)), ((bd 2), .inl (cI, 120, .inl F)), ((bd 3), .inl (cI, 120, .inl S)), ((bd 4), .inl (cI, 120, .inl DD)), ((bd 5), .inl (cI, 5, .inl u.1)), ((bd 6), .inl (cI, 120, .inl u.2)), ((bd 7), .inl (cI, 120, .inl BE)), ((bd 8), .inl (cI, 128, .inl WA)), ((bd 9), .inl (cI, 30, .inl LE)), ((bd 10), .inl (cI, 30, .inl AA)), ((bd 11), .inl (cI, 30, .inl RI)), ((bd 12), .inl (cI, 10, .inl UN)), ((bd 13), .inl (cZ, 30, .inl CO))] H := hP
      have hD : va_D A [((bd 0), .inr (4, [.int 0, .ref (bd 1), .ref (bd 2), .ref (bd 3), .ref (bd 4), .int (nI n), .ref (bd 5), .ref (bd 6), .ref (bd 7), .ref (bd 8), .ref (bd 9), .ref (bd 10), .ref (bd 11), .ref (bd 12), .ref (bd 13), .int (nI unk), .int (nI cnt)])), ((bd 1), .inl (cI, 120, .inl K)), ((bd 2), .inl (cI, 120, .inl F)), ((bd 3), .inl (cI, 120, .inl S)), ((bd 4), .inl (cI, 120, .inl DD)), ((bd 5), .inl (cI, 5, .inl u.1)), ((bd 6), .inl (cI, 120, .inl u.2)), ((bd 7), .inl (cI, 120, .inl BE)), ((bd 8), .inl (cI, 128, .inl WA)), ((bd 9), .inl (cI, 30, .inl LE)), ((bd 10), .inl (cI, 30, .inl AA)), ((bd 11), .inl (cI, 30, .inl RI)), ((bd 12), .inl (cI, 10, .inl UN)), ((bd 13), .inl (cZ, 30, .inl CO))] := hD
      refine W.eq (g2 := F0 m 115 ls [.int 1]) rfl ?_
      refine lv_istore (lv' := [(9, .int 1), (0, .ref (bd 0)), (1, .int (nI x)), (2, .int (nI y)), (3, .int (nI g)), (4, .long v9), (6, .int (nI i)), (8, .int (nI k))]) hx hb d_Mo_above_115 hl (by decide) rfl (fun ls hl => ?_)
      refine lv_iload hx hb d_Mo_above_117 (lv_at hl 7 rfl) ?_
      refine lv_iload hx hb d_Mo_above_119 (lv_at hl 0 rfl) ?_
      refine lv_if_eq (tgt := 128) hx hb d_Mo_above_121 (by decide) (fun c_121 => ?_) (fun c_121 => ?_)
      · exact absurd c_121 (by decide)
      · refine lv_iconst (v := 0) hx hb d_Mo_above_124 (by decide) ?_
        refine lv_goto (tgt := 129) hx hb d_Mo_above_125 (by decide) ?_
        refine lv_iadd hx hb d_Mo_above_129 ?_
        rw [show (nI k + 0 : Int32) = nI k from Int32.add_zero _]
        refine lv_istore (lv' := [(8, .int (nI k)), (9, .int 1), (0, .ref (bd 0)), (1, .int (nI x)), (2, .int (nI y)), (3, .int (nI g)), (4, .long v9), (6, .int (nI i))]) hx hb d_Mo_above_130 hl (by decide) rfl (fun ls hl => ?_)
        refine lv_goto (tgt := 90) hx hb d_Mo_above_132 (by decide) ?_
        refine lv_iload hx hb d_Mo_above_90 (lv_at hl 1 rfl) ?_
        refine lv_if_ne (tgt := 135) hx hb d_Mo_above_92 (by decide) (fun c_92_1 => ?_) (fun c_92_1 => ?_)
        · exact KB u.1 u.2 H locs ls hNV hP hD hS (by rw [show N = k by omega]; exact lv_sub hl [2, 3, 4, 5, 6, 7, 0] rfl)
        · exact absurd c_92_1 (by decide)
  | succ q ih =>
    intro k NU VA hiV H locs ls hP hD hS hl
    obtain ⟨hkq, hbk, hNU⟩ := hiV
    refine lv_iload hx hb d_Mo_above_90 (lv_at hl 7 rfl) ?_
    refine lv_if_ne (tgt := 135) hx hb d_Mo_above_92 (by decide) (fun c_92 => ?_) (fun c_92 => ?_)
    · exact absurd rfl c_92
    · refine lv_aload_n hx hb d_Mo_above_95 rfl (lv_at hl 0 rfl) ?_
      refine va_get (D := (dC, dI)) (ci := 4) (v := .ref (bd 5)) (C := R_Mo) (T := F_Mo) (N := 17) hx hb htb ul_Mo hown hK hP 0 rfl rfl 6 (by decide) (htb _ mw_554) (fun _ h9 => h9) rfl d_Mo_above_96 ?_
      refine lv_iload hx hb d_Mo_above_99 (lv_at hl 5 rfl) ?_
      refine lv_iload hx hb d_Mo_above_101 (lv_at hl 6 rfl) ?_
      refine ry_iast (D := (dC, dI)) (j := i) hx hb hK hP hD hS 5 0 rfl rfl (by omega) (by decide) d_Mo_above_103 (fun H locs hP hD hS => ?_)
      have hP : va_P (dC, dI) classes [((bd 0), .inr (4, [.int 0, .ref (bd 1), .ref (bd 2), .ref (bd 3), .ref (bd 4), .int (nI n), .ref (bd 5), .ref (bd 6), .ref (bd 7), .ref (bd 8), .ref (bd 9), .ref (bd 10), .ref (bd 11), .ref (bd 12), .ref (bd 13), .int (nI unk), .int (nI cnt)])), ((bd 1), .inl (cI, 120, .inl K)), ((bd 2), .inl (cI, 120, .inl F)), ((bd 3), .inl (cI, 120, .inl S)), ((bd 4), .inl (cI, 120, .inl DD)), ((bd 5), .inl (cI, 5, .inl (upd NU i (nI k)))), ((bd 6), .inl (cI, 120, .inl VA)), ((bd 7), .inl (cI, 120, .inl BE)), ((bd 8), .inl (cI, 128, .inl WA)), ((bd 9), .inl (cI, 30, .inl LE)), ((bd 10), .inl (cI, 30, .inl AA)), ((bd 11), .inl (cI, 30, .inl RI)), ((bd 12), .inl (cI, 10, .inl UN)), ((bd 13), .inl (cZ, 30, .inl CO))] H := hP
      have hD : va_D A [((bd 0), .inr (4, [.int 0, .ref (bd 1), .ref (bd 2), .ref (bd 3), .ref (bd 4), .int (nI n), .ref (bd 5), .ref (bd 6), .ref (bd 7), .ref (bd 8), .ref (bd 9), .ref (bd 10), .ref (bd 11), .ref (bd 12), .ref (bd 13), .int (nI unk), .int (nI cnt)])), ((bd 1), .inl (cI, 120, .inl K)), ((bd 2), .inl (cI, 120, .inl F)), ((bd 3), .inl (cI, 120, .inl S)), ((bd 4), .inl (cI, 120, .inl DD)), ((bd 5), .inl (cI, 5, .inl (upd NU i (nI k)))), ((bd 6), .inl (cI, 120, .inl VA)), ((bd 7), .inl (cI, 120, .inl BE)), ((bd 8), .inl (cI, 128, .inl WA)), ((bd 9), .inl (cI, 30, .inl LE)), ((bd 10), .inl (cI, 30, .inl AA)), ((bd 11), .inl (cI, 30, .inl RI)), ((bd 12), .inl (cI, 10, .inl UN)), ((bd 13), .inl (cZ, 30, .inl CO))] := hD
      refine lv_aload_n hx hb d_Mo_above_104 rfl (lv_at hl 0 rfl) ?_
      refine lv_iload_n hx hb d_Mo_above_105 rfl (lv_at hl 1 rfl) ?_
      refine lv_iload_n hx hb d_Mo_above_106 rfl (lv_at hl 2 rfl) ?_
      refine lv_iload_n hx hb d_Mo_above_107 rfl (lv_at hl 3 rfl) ?_
      refine lv_iload hx hb d_Mo_above_108 (lv_at hl 5 rfl) ?_
      refine lv_iconst (v := 1) hx hb d_Mo_above_110 (by decide) ?_
      refine lv_iadd hx hb d_Mo_above_111 ?_
      rw [nI_1]
      have hNU9 : ∀ a, a < i + 1 → upd NU i (nI k) a = nI (nup nu i k a) := nup_up hNU
      refine wy_callV (n := 4) (wr := []) (As := [.int (nI x), .int (nI y), .int (nI g), .int (nI (i + 1))]) (rest := []) ⟨hx, hb, hml, hown, htb⟩ (c_Mo_goesOn l dC dI cI cL cZ bd 0 K F S DD n (upd NU i (nI k)) VA BE WA LE AA RI UN CO unk cnt hn hunk hcnt nd hok x y g (i + 1) hx1 hy1 hg (by omega) (nup nu i k) (nup_lt hnu (by omega)) hNU9 H.size) (gV mw_677 mw_679 mp_26 mw_5 mc_Mo_goesOn) rfl rfl (by decide +kernel) ⟨Nat.le_of_ble_eq_true rfl, Nat.le_of_ble_eq_true rfl⟩ hP hD hS hA hK [0, 1, 2, 3, 4, 5, 6, 7, 8, 9, 10, 11, 12, 13] [] rfl rfl (by decide) (by decide) (hP.sub [0, 1, 2, 3, 4, 5, 6, 7, 8, 9, 10, 11, 12, 13] rfl) ((hD.sub [0, 1, 2, 3, 4, 5, 6, 7, 8, 9, 10, 11, 12, 13] (by decide) rfl).weaken (fun _ _ _ _ => trivial)) (ci := 4) (q0 := 0) rfl rfl rfl rfl hl.1 rfl (Nat.le_of_ble_eq_true rfl) d_Mo_above_112 ⟨Nat.le_of_ble_eq_true rfl, Nat.le_of_ble_eq_true rfl⟩ (fun r u H locs hpost hP hD hS => ?_)
      obtain ⟨hp1, hp2⟩ := hpost
      rw [if_pos (hlow k hbk (by omega))] at hp1
      subst hp1
      have hNV : ∀ a, a < i → u.1 a = nI (nu a) := fun a ha => by rw [hp2 a (by omega), nup_n (by omega)]
      have hP : va_P (dC, dI) classes [((bd 0), .inr (4, [.int 0, .ref (bd 1), .ref (bd 2), .ref (bd 3), .ref (bd 4), .int (nI n), .ref (bd 5), .ref (bd 6), .ref (bd 7), .ref (bd 8), .ref (bd 9), .ref (bd 10), .ref (bd 11), .ref (bd 12), .ref (bd 13), .int (nI unk), .int (nI cnt)])), ((bd 1), .inl (cI, 120, .inl K)), ((bd 2), .inl (cI, 120, .inl F)), ((bd 3), .inl (cI, 120, .inl S)), ((bd 4), .inl (cI, 120, .inl DD)), ((bd 5), .inl (cI, 5, .inl u.1)), ((bd 6), .inl (cI, 120, .inl u.2)), ((bd 7), .inl (cI, 120, .inl BE)), ((bd 8), .inl (cI, 128, .inl WA)), ((bd 9), .inl (cI, 30, .inl LE)), ((bd 10), .inl (cI, 30, .inl AA)), ((bd 11), .inl (cI, 30, .inl RI)), ((bd 12), .inl (cI, 10, .inl UN)), ((bd 13), .inl (cZ, 30, .inl CO))] H := hP
      have hD : va_D A [((bd 0), .inr (4, [.int 0, .ref (bd 1), .ref (bd 2), .ref (bd 3), .ref (bd 4), .int (nI n), .ref (bd 5), .ref (bd 6), .ref (bd 7), .ref (bd 8), .ref (bd 9), .ref (bd 10), .ref (bd 11), .ref (bd 12), .ref (bd 13), .int (nI unk), .int (nI cnt)])), ((bd 1), .inl (cI, 120, .inl K)), ((bd 2), .inl (cI, 120, .inl F)), ((bd 3), .inl (cI, 120, .inl S)), ((bd 4), .inl (cI, 120, .inl DD)), ((bd 5), .inl (cI, 5, .inl u.1)), ((bd 6), .inl (cI, 120, .inl u.2)), ((bd 7), .inl (cI, 120, .inl BE)), ((bd 8), .inl (cI, 128, .inl WA)), ((bd 9), .inl (cI, 30, .inl LE)), ((bd 10), .inl (cI, 30, .inl AA)), ((bd 11), .inl (cI, 30, .inl RI)), ((bd 12), .inl (cI, 10, .inl UN)), ((bd 13), .inl (cZ, 30, .inl CO))] := hD
      refine W.eq (g2 := F0 m 115 ls [.int 0]) rfl ?_
      refine lv_istore (lv' := [(9, .int 0), (0, .ref (bd 0)), (1, .int (nI x)), (2, .int (nI y)), (3, .int (nI g)), (4, .long v9), (6, .int (nI i)), (8, .int (nI k))]) hx hb d_Mo_above_115 hl (by decide) rfl (fun ls hl => ?_)
      refine lv_iload hx hb d_Mo_above_117 (lv_at hl 7 rfl) ?_
      refine lv_iload hx hb d_Mo_above_119 (lv_at hl 0 rfl) ?_
      refine lv_if_eq (tgt := 128) hx hb d_Mo_above_121 (by decide) (fun c_121 => ?_) (fun c_121 => ?_)
      · refine lv_iconst (v := 1) hx hb d_Mo_above_128 (by decide) ?_
        refine lv_iadd hx hb d_Mo_above_129 ?_
        rw [nI_1]
        refine lv_istore (lv' := [(8, .int (nI (k + 1))), (9, .int 0), (0, .ref (bd 0)), (1, .int (nI x)), (2, .int (nI y)), (3, .int (nI g)), (4, .long v9), (6, .int (nI i))]) hx hb d_Mo_above_130 hl (by decide) rfl (fun ls hl => ?_)
        refine lv_goto (tgt := 90) hx hb d_Mo_above_132 (by decide) ?_
        exact ih (k + 1) u.1 u.2 ⟨by omega, by omega, hNV⟩ H locs ls hP hD hS (lv_sub hl [2, 3, 4, 5, 6, 7, 0, 1] rfl)
      · exact absurd rfl c_121

set_option maxHeartbeats 4000000 in
set_option maxRecDepth 100000 in
theorem lp_Mo_above {p : Program} (l : Launch) {e : Env} {s : State} {m : MethodId} {args : Array Value} {below : List Frame} {meth : Method} {c : Code} {Q : State → Prop} {A : Nat → Prop} {H0 : Heap} (C0 : cx p s m args meth c b_Mo_above 10 (some .long) R_Mo) (dC : Nat → ClassId) (dI : Nat → Nat → Nat) (cI cL cZ : ClassId) (bd : Nat → Nat) (K F S DD : Nat → Int32) (n : Nat) (BE WA LE AA RI UN CO : Nat → Int32) (unk cnt : Nat) (hn : n ≤ 120) (hunk : unk ≤ 10) (hcnt : cnt ≤ 30) (nd : Nat → Nat × Nat × Nat) (hok : MoOk nd n K F S DD) (x y : Nat) (hx1 : x < n) (hy1 : y < n) (g : Nat) (hg : g < 32) (hg0 : ¬ gor nd x y g 0 (fun _ => 0) = -1) (hK : va_K (dC, dI) classes (tyI cI cL cZ) s) (hA : ∀ q : Nat, H0.size ≤ q → A q) 
    (KB : ∀ (NU VA : Nat → Int32) (H : Heap) (locs : List Loc) (ls : Array Slot), va_P (dC, dI) classes [((bd 0), .inr (4, [.int 0, .ref (bd 1), .ref (bd 2), .ref (bd 3), .ref (bd 4), .int (nI n), .ref (bd 5), .ref (bd 6), .ref (bd 7), .ref (bd 8), .ref (bd 9), .ref (bd 10), .ref (bd 11), .ref (bd 12), .ref (bd 13), .int (nI unk), .int (nI cnt)])), ((bd 1), .inl (cI, 120, .inl K)), ((bd 2), .inl (cI, 120, .inl F)), ((bd 3), .inl (cI, 120, .inl S)), ((bd 4), .inl (cI, 120, .inl DD)), ((bd 5), .inl (cI, 5, .inl NU)), ((bd 6), .inl (cI, 120, .inl VA)), ((bd 7), .inl (cI, 120, .inl BE)), ((bd 8), .inl (cI, 128, .inl WA)), ((bd 9), .inl (cI, 30, .inl LE)), ((bd 10), .inl (cI, 30, .inl AA)), ((bd 11), .inl (cI, 30, .inl RI)), ((bd 12), .inl (cI, 10, .inl UN)), ((bd 13), .inl (cZ, 30, .inl CO))] H → va_D A [((bd 0), .inr (4, [.int 0, .ref (bd 1), .ref (bd 2), .ref (bd 3), .ref (bd 4), .int (nI n), .ref (bd 5), .ref (bd 6), .ref (bd 7), .ref (bd 8), .ref (bd 9), .ref (bd 10), .ref (bd 11), .ref (bd 12), .ref (bd 13), .int (nI unk), .int (nI cnt)])), ((bd 1), .inl (cI, 120, .inl K)), ((bd 2), .inl (cI, 120, .inl F)), ((bd 3), .inl (cI, 120, .inl S)), ((bd 4), .inl (cI, 120, .inl DD)), ((bd 5), .inl (cI, 5, .inl NU)), ((bd 6), .inl (cI, 120, .inl VA)), ((bd 7), .inl (cI, 120, .inl BE)), ((bd 8), .inl (cI, 128, .inl WA)), ((bd 9), .inl (cI, 30, .inl LE)), ((bd 10), .inl (cI, 30, .inl AA)), ((bd 11), .inl (cI, 30, .inl RI)), ((bd 12), .inl (cI, 10, .inl UN)), ((bd 13), .inl (cZ, 30, .inl CO))] → va_S A H0 H locs → lv_has ls 10 [(0, .ref (bd 0)), (4, .long (lN (abv nd x y g 5)))] → W p l e (rmH 6 0 0) s m args below meth c H locs 0 0 Q (F0 m 164 ls []))
    : ∀ (q : Nat) (i : Nat) (NU VA : Nat → Int32), i + q = 5 ∧ (∀ a, a < i → NU a = nI (abu nd x y g i a)) → ∀ (H : Heap) (locs : List Loc) (ls : Array Slot), va_P (dC, dI) classes [((bd 0), .inr (4, [.int 0, .ref (bd 1), .ref (bd 2), .ref (bd 3), .ref (bd 4), .int (nI n), .ref (bd 5), .ref (bd 6), .ref (bd 7), .ref (bd 8), .ref (bd 9), .ref (bd 10), .ref (bd 11), .ref (bd 12), .ref (bd 13), .int (nI unk), .int (nI cnt)])), ((bd 1), .inl (cI, 120, .inl K)), ((bd 2), .inl (cI, 120, .inl F)), ((bd 3), .inl (cI, 120, .inl S)), ((bd 4), .inl (cI, 120, .inl DD)), ((bd 5), .inl (cI, 5, .inl NU)), ((bd 6), .inl (cI, 120, .inl VA)), ((bd 7), .inl (cI, 120, .inl BE)), ((bd 8), .inl (cI, 128, .inl WA)), ((bd 9), .inl (cI, 30, .inl LE)), ((bd 10), .inl (cI, 30, .inl AA)), ((bd 11), .inl (cI, 30, .inl RI)), ((bd 12), .inl (cI, 10, .inl UN)), ((bd 13), .inl (cZ, 30, .inl CO))] H → va_D A [((bd 0), .inr (4, [.int 0, .ref (bd 1), .ref (bd 2), .ref (bd 3), .ref (bd 4), .int (nI n), .ref (bd 5), .ref (bd 6), .ref (bd 7), .ref (bd 8), .ref (bd 9), .ref (bd 10), .ref (bd 11), .ref (bd 12), .ref (bd 13), .int (nI unk), .int (nI cnt)])), ((bd 1), .inl (cI, 120, .inl K)), ((bd 2), .inl (cI, 120, .inl F)), ((bd 3), .inl (cI, 120, .inl S)), ((bd 4), .inl (cI, 120, .inl DD)), ((bd 5), .inl (cI, 5, .inl NU)), ((bd 6), .inl (cI, 120, .inl VA)), ((bd 7), .inl (cI, 120, .inl BE)), ((bd 8), .inl (cI, 128, .inl WA)), ((bd 9), .inl (cI, 30, .inl LE)), ((bd 10), .inl (cI, 30, .inl AA)), ((bd 11), .inl (cI, 30, .inl RI)), ((bd 12), .inl (cI, 10, .inl UN)), ((bd 13), .inl (cZ, 30, .inl CO))] → va_S A H0 H locs → lv_has ls 10 [(0, .ref (bd 0)), (1, .int (nI x)), (2, .int (nI y)), (3, .int (nI g)), (4, .long (lN (abv nd x y g i))), (6, .int (nI i))] → W p l e (rmH 6 0 0) s m args below meth c H locs 0 0 Q (F0 m 52 ls []) := by
  obtain ⟨hx, hb, hr, hml, hown, htb, hlocks⟩ := id C0
  intro q
  induction q with
  | zero =>
    intro i NU VA hiV H locs ls hP hD hS hl
    obtain ⟨hi, hNU⟩ := hiV
    refine lv_iload hx hb d_Mo_above_52 (lv_at hl 5 rfl) ?_
    refine lv_iconst (v := 5) hx hb d_Mo_above_54 (by decide) ?_
    refine lv_icmp_ge (tgt := 164) hx hb d_Mo_above_55 (by decide) (fun c_55 => ?_) (fun c_55 => ?_)
    · exact KB NU VA H locs ls hP hD hS (by rw [show 5 = i by omega]; exact lv_sub hl [0, 4] rfl)
    · exact absurd ((nI_leI (a := 5) (b := i) (by decide) (by omega)).mpr (by omega)) c_55
  | succ q ih =>
    intro i NU VA hiV H locs ls hP hD hS hl
    obtain ⟨hi, hNU⟩ := hiV
    refine lv_iload hx hb d_Mo_above_52 (lv_at hl 5 rfl) ?_
    refine lv_iconst (v := 5) hx hb d_Mo_above_54 (by decide) ?_
    refine lv_icmp_ge (tgt := 164) hx hb d_Mo_above_55 (by decide) (fun c_55 => ?_) (fun c_55 => ?_)
    · exact absurd ((nI_leI (a := 5) (b := i) (by decide) (by omega)).mp c_55) (by omega)
    · refine lv_iload_n hx hb d_Mo_above_58 rfl (lv_at hl 3 rfl) ?_
      refine lv_iload hx hb d_Mo_above_59 (lv_at hl 5 rfl) ?_
      refine lv_ishr hx hb d_Mo_above_61 ?_
      refine lv_iconst (v := 1) hx hb d_Mo_above_62 (by decide) ?_
      refine lv_iand hx hb d_Mo_above_63 ?_
      refine lv_iconst (v := 1) hx hb d_Mo_above_64 (by decide) ?_
      refine lv_icmp_ne (tgt := 72) hx hb d_Mo_above_65 (by decide) (fun c_65 => ?_) (fun c_65 => ?_)
      · refine lv_iconst (v := 0) hx hb d_Mo_above_72 (by decide) ?_
        refine lv_istore (lv' := [(7, .int 0), (0, .ref (bd 0)), (1, .int (nI x)), (2, .int (nI y)), (3, .int (nI g)), (4, .long (lN (abv nd x y g i))), (6, .int (nI i))]) hx hb d_Mo_above_73 hl (by decide) rfl (fun ls hl => ?_)
        refine lv_iload hx hb d_Mo_above_75 (lv_at hl 0 rfl) ?_
        refine lv_if_eq (tgt := 84) hx hb d_Mo_above_77 (by decide) (fun c_77 => ?_) (fun c_77 => ?_)
        · refine lv_iconst (v := 0) hx hb d_Mo_above_84 (by decide) ?_
          refine lv_istore (lv' := [(8, .int 0), (7, .int 0), (0, .ref (bd 0)), (1, .int (nI x)), (2, .int (nI y)), (3, .int (nI g)), (4, .long (lN (abv nd x y g i))), (6, .int (nI i))]) hx hb d_Mo_above_85 hl (by decide) rfl (fun ls hl => ?_)
          refine lv_iconst (v := 0) hx hb d_Mo_above_87 (by decide) ?_
          refine lv_istore (lv' := [(9, .int 0), (8, .int 0), (7, .int 0), (0, .ref (bd 0)), (1, .int (nI x)), (2, .int (nI y)), (3, .int (nI g)), (4, .long (lN (abv nd x y g i))), (6, .int (nI i))]) hx hb d_Mo_above_88 hl (by decide) rfl (fun ls hl => ?_)
          have hbt : g / 2 ^ i % 2 = 0 := by have h9 : ¬ g / 2 ^ i % 2 = 1 := (fun z => c_65 ((bit51 g hg i (by omega)).mpr z)); omega
          obtain ⟨hN, hN0, hN3, hlow⟩ := abn_spec hok.1 hx1 hy1 (by omega) (abu_ok hok.1 hx1 hy1 hg0 i (by omega)).1
          rw [hbt] at hN0 hlow
          refine lp_Mo_above2 l C0 dC dI cI cL cZ bd K F S DD n BE WA LE AA RI UN CO unk cnt hn hunk hcnt nd hok x y hx1 hy1 g hg (lN (abv nd x y g i)) i (by omega) (abu nd x y g i) (abu_ok hok.1 hx1 hy1 hg0 i (by omega)).2.1 0 (abn nd x y g i (abu nd x y g i)) hN3 hN hlow hK hA (fun NU9 VA9 H locs ls hNV hP hD hS hl => ?_) ((abn nd x y g i (abu nd x y g i)) - 0) 0 NU VA ⟨by omega, Nat.le_refl _, hNU⟩ H locs ls hP hD hS (lv_sub hl [3, 4, 5, 6, 7, 8, 1, 0] rfl)
          refine lv_aload_n hx hb d_Mo_above_135 rfl (lv_at hl 0 rfl) ?_
          refine va_get (D := (dC, dI)) (ci := 4) (v := .ref (bd 5)) (C := R_Mo) (T := F_Mo) (N := 17) hx hb htb ul_Mo hown hK hP 0 rfl rfl 6 (by decide) (htb _ mw_554) (fun _ h9 => h9) rfl d_Mo_above_136 ?_
          refine lv_iload hx hb d_Mo_above_139 (lv_at hl 5 rfl) ?_
          refine lv_iload hx hb d_Mo_above_141 (lv_at hl 6 rfl) ?_
          refine ry_iast (D := (dC, dI)) (j := i) hx hb hK hP hD hS 5 0 rfl rfl (by omega) (by decide) d_Mo_above_143 (fun H locs hP hD hS => ?_)
          have hP : va_P (dC, dI) classes [((bd 0), .inr (4, [.int 0, .ref (bd 1), .ref (bd 2), .ref (bd 3), .ref (bd 4), .int (nI n), .ref (bd 5), .ref (bd 6), .ref (bd 7), .ref (bd 8), .ref (bd 9), .ref (bd 10), .ref (bd 11), .ref (bd 12), .ref (bd 13), .int (nI unk), .int (nI cnt)])), ((bd 1), .inl (cI, 120, .inl K)), ((bd 2), .inl (cI, 120, .inl F)), ((bd 3), .inl (cI, 120, .inl S)), ((bd 4), .inl (cI, 120, .inl DD)), ((bd 5), .inl (cI, 5, .inl (upd NU9 i ((nI (abn nd x y g i (abu nd x y g i))))))), ((bd 6), .inl (cI, 120, .inl VA9)), ((bd 7), .inl (cI, 120, .inl BE)), ((bd 8), .inl (cI, 128, .inl WA)), ((bd 9), .inl (cI, 30, .inl LE)), ((bd 10), .inl (cI, 30, .inl AA)), ((bd 11), .inl (cI, 30, .inl RI)), ((bd 12), .inl (cI, 10, .inl UN)), ((bd 13), .inl (cZ, 30, .inl CO))] H := hP
          have hD : va_D A [((bd 0), .inr (4, [.int 0, .ref (bd 1), .ref (bd 2), .ref (bd 3), .ref (bd 4), .int (nI n), .ref (bd 5), .ref (bd 6), .ref (bd 7), .ref (bd 8), .ref (bd 9), .ref (bd 10), .ref (bd 11), .ref (bd 12), .ref (bd 13), .int (nI unk), .int (nI cnt)])), ((bd 1), .inl (cI, 120, .inl K)), ((bd 2), .inl (cI, 120, .inl F)), ((bd 3), .inl (cI, 120, .inl S)), ((bd 4), .inl (cI, 120, .inl DD)), ((bd 5), .inl (cI, 5, .inl (upd NU9 i ((nI (abn nd x y g i (abu nd x y g i))))))), ((bd 6), .inl (cI, 120, .inl VA9)), ((bd 7), .inl (cI, 120, .inl BE)), ((bd 8), .inl (cI, 128, .inl WA)), ((bd 9), .inl (cI, 30, .inl LE)), ((bd 10), .inl (cI, 30, .inl AA)), ((bd 11), .inl (cI, 30, .inl RI)), ((bd 12), .inl (cI, 10, .inl UN)), ((bd 13), .inl (cZ, 30, .inl CO))] := hD
          refine lv_lload hx hb d_Mo_above_144 (lv_at hl 4 rfl) ?_
          refine lv_iload hx hb d_Mo_above_146 (lv_at hl 6 rfl) ?_
          refine lv_i2l hx hb d_Mo_above_148 rfl ?_
          refine lv_bipush (v := 12) hx hb d_Mo_above_149 (by decide) ?_
          refine lv_iload hx hb d_Mo_above_151 (lv_at hl 5 rfl) ?_
          refine lv_imul hx hb d_Mo_above_153 ?_
          refine lv_lshl hx hb d_Mo_above_154 rfl ?_
          refine lv_lor hx hb d_Mo_above_155 ?_
          rw [show (((lN (abv nd x y g i)) ||| (((nI (abn nd x y g i (abu nd x y g i))) : Int32).toInt64 <<< (((12 * (nI i)) : Int32).toInt64 &&& 63)) : Int64) : Int64) = lN (abv nd x y g (i + 1)) from ab_or (by omega) (abu_ok hok.1 hx1 hy1 hg0 i (by omega)).2.2 hN3]
          refine lv_lstore (lv' := [(4, .long (lN (abv nd x y g (i + 1)))), (0, .ref (bd 0)), (1, .int (nI x)), (2, .int (nI y)), (3, .int (nI g)), (6, .int (nI i)), (8, .int (nI (abn nd x y g i (abu nd x y g i))))]) hx hb d_Mo_above_156 hl (by decide) rfl (fun ls hl => ?_)
          refine lv_iinc (v := (nI (i + 1))) (lv' := [(6, .int (nI (i + 1))), (4, .long (lN (abv nd x y g (i + 1)))), (0, .ref (bd 0)), (1, .int (nI x)), (2, .int (nI y)), (3, .int (nI g)), (8, .int (nI (abn nd x y g i (abu nd x y g i))))]) hx hb d_Mo_above_158 hl (k := 5) rfl (nI_1 _) (by decide) rfl (fun ls hl => ?_)
          refine lv_goto (tgt := 52) hx hb d_Mo_above_161 (by decide) ?_
          exact ih (i + 1) (upd NU9 i (nI (abn nd x y g i (abu nd x y g i)))) VA9 ⟨by omega, nup_up hNV⟩ H locs ls hP hD hS (lv_sub hl [2, 3, 4, 5, 1, 0] rfl)
        · exact absurd rfl c_77
      · refine lv_iconst (v := 1) hx hb d_Mo_above_68 (by decide) ?_
        refine lv_goto (tgt := 73) hx hb d_Mo_above_69 (by decide) ?_
        refine lv_istore (lv' := [(7, .int 1), (0, .ref (bd 0)), (1, .int (nI x)), (2, .int (nI y)), (3, .int (nI g)), (4, .long (lN (abv nd x y g i))), (6, .int (nI i))]) hx hb d_Mo_above_73 hl (by decide) rfl (fun ls hl => ?_)
        refine lv_iload hx hb d_Mo_above_75 (lv_at hl 0 rfl) ?_
        refine lv_if_eq (tgt := 84) hx hb d_Mo_above_77 (by decide) (fun c_77 => ?_) (fun c_77 => ?_)
        · exact absurd c_77 (by decide)
        · refine lv_iconst (v := 1) hx hb d_Mo_above_80 (by decide) ?_
          refine lv_goto (tgt := 85) hx hb d_Mo_above_81 (by decide) ?_
          refine lv_istore (lv' := [(8, .int 1), (7, .int 1), (0, .ref (bd 0)), (1, .int (nI x)), (2, .int (nI y)), (3, .int (nI g)), (4, .long (lN (abv nd x y g i))), (6, .int (nI i))]) hx hb d_Mo_above_85 hl (by decide) rfl (fun ls hl => ?_)
          refine lv_iconst (v := 0) hx hb d_Mo_above_87 (by decide) ?_
          refine lv_istore (lv' := [(9, .int 0), (8, .int 1), (7, .int 1), (0, .ref (bd 0)), (1, .int (nI x)), (2, .int (nI y)), (3, .int (nI g)), (4, .long (lN (abv nd x y g i))), (6, .int (nI i))]) hx hb d_Mo_above_88 hl (by decide) rfl (fun ls hl => ?_)
          have hbt : g / 2 ^ i % 2 = 1 := (bit51 g hg i (by omega)).mp c_65
          obtain ⟨hN, hN0, hN3, hlow⟩ := abn_spec hok.1 hx1 hy1 (by omega) (abu_ok hok.1 hx1 hy1 hg0 i (by omega)).1
          rw [hbt] at hN0 hlow
          refine lp_Mo_above2 l C0 dC dI cI cL cZ bd K F S DD n BE WA LE AA RI UN CO unk cnt hn hunk hcnt nd hok x y hx1 hy1 g hg (lN (abv nd x y g i)) i (by omega) (abu nd x y g i) (abu_ok hok.1 hx1 hy1 hg0 i (by omega)).2.1 1 (abn nd x y g i (abu nd x y g i)) hN3 hN hlow hK hA (fun NU9 VA9 H locs ls hNV hP hD hS hl => ?_) ((abn nd x y g i (abu nd x y g i)) - 1) 1 NU VA ⟨by omega, Nat.le_refl _, hNU⟩ H locs ls hP hD hS (lv_sub hl [3, 4, 5, 6, 7, 8, 1, 0] rfl)
          refine lv_aload_n hx hb d_Mo_above_135 rfl (lv_at hl 0 rfl) ?_
          refine va_get (D := (dC, dI)) (ci := 4) (v := .ref (bd 5)) (C := R_Mo) (T := F_Mo) (N := 17) hx hb htb ul_Mo hown hK hP 0 rfl rfl 6 (by decide) (htb _ mw_554) (fun _ h9 => h9) rfl d_Mo_above_136 ?_
          refine lv_iload hx hb d_Mo_above_139 (lv_at hl 5 rfl) ?_
          refine lv_iload hx hb d_Mo_above_141 (lv_at hl 6 rfl) ?_
          refine ry_iast (D := (dC, dI)) (j := i) hx hb hK hP hD hS 5 0 rfl rfl (by omega) (by decide) d_Mo_above_143 (fun H locs hP hD hS => ?_)
          have hP : va_P (dC, dI) classes [((bd 0), .inr (4, [.int 0, .ref (bd 1), .ref (bd 2), .ref (bd 3), .ref (bd 4), .int (nI n), .ref (bd 5), .ref (bd 6), .ref (bd 7), .ref (bd 8), .ref (bd 9), .ref (bd 10), .ref (bd 11), .ref (bd 12), .ref (bd 13), .int (nI unk), .int (nI cnt)])), ((bd 1), .inl (cI, 120, .inl K)), ((bd 2), .inl (cI, 120, .inl F)), ((bd 3), .inl (cI, 120, .inl S)), ((bd 4), .inl (cI, 120, .inl DD)), ((bd 5), .inl (cI, 5, .inl (upd NU9 i ((nI (abn nd x y g i (abu nd x y g i))))))), ((bd 6), .inl (cI, 120, .inl VA9)), ((bd 7), .inl (cI, 120, .inl BE)), ((bd 8), .inl (cI, 128, .inl WA)), ((bd 9), .inl (cI, 30, .inl LE)), ((bd 10), .inl (cI, 30, .inl AA)), ((bd 11), .inl (cI, 30, .inl RI)), ((bd 12), .inl (cI, 10, .inl UN)), ((bd 13), .inl (cZ, 30, .inl CO))] H := hP
          have hD : va_D A [((bd 0), .inr (4, [.int 0, .ref (bd 1), .ref (bd 2), .ref (bd 3), .ref (bd 4), .int (nI n), .ref (bd 5), .ref (bd 6), .ref (bd 7), .ref (bd 8), .ref (bd 9), .ref (bd 10), .ref (bd 11), .ref (bd 12), .ref (bd 13), .int (nI unk), .int (nI cnt)])), ((bd 1), .inl (cI, 120, .inl K)), ((bd 2), .inl (cI, 120, .inl F)), ((bd 3), .inl (cI, 120, .inl S)), ((bd 4), .inl (cI, 120, .inl DD)), ((bd 5), .inl (cI, 5, .inl (upd NU9 i ((nI (abn nd x y g i (abu nd x y g i))))))), ((bd 6), .inl (cI, 120, .inl VA9)), ((bd 7), .inl (cI, 120, .inl BE)), ((bd 8), .inl (cI, 128, .inl WA)), ((bd 9), .inl (cI, 30, .inl LE)), ((bd 10), .inl (cI, 30, .inl AA)), ((bd 11), .inl (cI, 30, .inl RI)), ((bd 12), .inl (cI, 10, .inl UN)), ((bd 13), .inl (cZ, 30, .inl CO))] := hD
          refine lv_lload hx hb d_Mo_above_144 (lv_at hl 4 rfl) ?_
          refine lv_iload hx hb d_Mo_above_146 (lv_at hl 6 rfl) ?_
          refine lv_i2l hx hb d_Mo_above_148 rfl ?_
          refine lv_bipush (v := 12) hx hb d_Mo_above_149 (by decide) ?_
          refine lv_iload hx hb d_Mo_above_151 (lv_at hl 5 rfl) ?_
          refine lv_imul hx hb d_Mo_above_153 ?_
          refine lv_lshl hx hb d_Mo_above_154 rfl ?_
          refine lv_lor hx hb d_Mo_above_155 ?_
          rw [show (((lN (abv nd x y g i)) ||| (((nI (abn nd x y g i (abu nd x y g i))) : Int32).toInt64 <<< (((12 * (nI i)) : Int32).toInt64 &&& 63)) : Int64) : Int64) = lN (abv nd x y g (i + 1)) from ab_or (by omega) (abu_ok hok.1 hx1 hy1 hg0 i (by omega)).2.2 hN3]
          refine lv_lstore (lv' := [(4, .long (lN (abv nd x y g (i + 1)))), (0, .ref (bd 0)), (1, .int (nI x)), (2, .int (nI y)), (3, .int (nI g)), (6, .int (nI i)), (8, .int (nI (abn nd x y g i (abu nd x y g i))))]) hx hb d_Mo_above_156 hl (by decide) rfl (fun ls hl => ?_)
          refine lv_iinc (v := (nI (i + 1))) (lv' := [(6, .int (nI (i + 1))), (4, .long (lN (abv nd x y g (i + 1)))), (0, .ref (bd 0)), (1, .int (nI x)), (2, .int (nI y)), (3, .int (nI g)), (8, .int (nI (abn nd x y g i (abu nd x y g i))))]) hx hb d_Mo_above_158 hl (k := 5) rfl (nI_1 _) (by decide) rfl (fun ls hl => ?_)
          refine lv_goto (tgt := 52) hx hb d_Mo_above_161 (by decide) ?_
          exact ih (i + 1) (upd NU9 i (nI (abn nd x y g i (abu nd x y g i)))) VA9 ⟨by omega, nup_up hNV⟩ H locs ls hP hD hS (lv_sub hl [2, 3, 4, 5, 1, 0] rfl)

set_option maxHeartbeats 4000000 in
set_option maxRecDepth 100000 in
theorem c_Mo_above (l : Launch) (dC : Nat → ClassId) (dI : Nat → Nat → Nat) (cI cL cZ : ClassId) (bd : Nat → Nat) (th : Int32) (K F S DD : Nat → Int32) (n : Nat) (NU VA BE WA LE AA RI UN CO : Nat → Int32) (unk cnt : Nat) (hn : n ≤ 120) (hunk : unk ≤ 10) (hcnt : cnt ≤ 30) (nd : Nat → Nat × Nat × Nat) (hok : MoOk nd n K F S DD) (x y : Nat) (hx1 : x < n) (hy1 : y < n) (hp : hs (nI x) n = 1) (hp2 : hs (nI y) n = 1) (g : Nat) (hg : g < 32) (hrg : rgo nd x y = nI g) (hg0 : ¬ gor nd x y g 0 (fun _ => 0) = -1) (sz : Nat) : Met l y_Mo_above (cw_Mo_above :: tb) (rmH 6 0 0) (va_Pc [.ref (bd 0), .int (nI x), .int (nI y)] (wy_P (dC, dI) classes (wMo cI cZ bd th K F S DD n NU VA BE WA LE AA RI UN CO unk cnt) (tyI cI cL cZ) sz)) (wy_Q ry_l (fun r (u : (Nat → Int32) × (Nat → Int32)) => r = lN (abv nd x y g 5)) (wy_B (dC, dI) classes (tyI cI cL cZ) (va_A (wMo cI cZ bd th K F S DD n NU VA BE WA LE AA RI UN CO unk cnt) sz) (fun u : (Nat → Int32) × (Nat → Int32) => (wMo cI cZ bd 0 K F S DD n u.1 u.2 BE WA LE AA RI UN CO unk cnt))) (va_A (wMo cI cZ bd th K F S DD n NU VA BE WA LE AA RI UN CO unk cnt) sz)) 0 0 (va_A (wMo cI cZ bd th K F S DD n NU VA BE WA LE AA RI UN CO unk cnt) sz) := by
  refine Met.ofW (cc := b_Mo_above) (maxL := 10) (ret := (some .long)) (by decide +kernel) rfl ?_
  intro p e s m args below meth c s₁ B hml0 hv
  have C0 := cx_of B hml0 rfl
  obtain ⟨hx, hb, hr, hml, hown, htb, hlocks⟩ := id C0
  obtain ⟨rfl, hsz, hP, hK, hD0⟩ := hv
  subst hsz
  have hD := hD0.self (sz := s.heap.size)
  generalize hAe : va_A (wMo cI cZ bd th K F S DD n NU VA BE WA LE AA RI UN CO unk cnt) s.heap.size = A at hD ⊢
  have hA : ∀ q : Nat, s.heap.size ≤ q → A q := fun q h => by rw [← hAe]; exact Or.inr h
  have hS : va_S A s.heap s.heap [] := va_S.rf
  have hl := lv_entry ([.ref (bd 0), .int (nI x), .int (nI y)]) (n := 10) (Nat.le_of_ble_eq_true rfl)
  rw [lg_entry_eq]
  generalize (lg_sl ([.ref (bd 0), .int (nI x), .int (nI y)]) ++ List.replicate (10 - (lg_sl ([.ref (bd 0), .int (nI x), .int (nI y)])).length) Slot.unset).toArray = ls at hl ⊢
  have hl : lv_has ls 10 [(0, .ref (bd 0)), (1, .int (nI x)), (2, .int (nI y))] := hl
  have hP : va_P (dC, dI) classes [((bd 0), .inr (4, [.int th, .ref (bd 1), .ref (bd 2), .ref (bd 3), .ref (bd 4), .int (nI n), .ref (bd 5), .ref (bd 6), .ref (bd 7), .ref (bd 8), .ref (bd 9), .ref (bd 10), .ref (bd 11), .ref (bd 12), .ref (bd 13), .int (nI unk), .int (nI cnt)])), ((bd 1), .inl (cI, 120, .inl K)), ((bd 2), .inl (cI, 120, .inl F)), ((bd 3), .inl (cI, 120, .inl S)), ((bd 4), .inl (cI, 120, .inl DD)), ((bd 5), .inl (cI, 5, .inl NU)), ((bd 6), .inl (cI, 120, .inl VA)), ((bd 7), .inl (cI, 120, .inl BE)), ((bd 8), .inl (cI, 128, .inl WA)), ((bd 9), .inl (cI, 30, .inl LE)), ((bd 10), .inl (cI, 30, .inl AA)), ((bd 11), .inl (cI, 30, .inl RI)), ((bd 12), .inl (cI, 10, .inl UN)), ((bd 13), .inl (cZ, 30, .inl CO))] s.heap := hP
  have hD : va_D A [((bd 0), .inr (4, [.int th, .ref (bd 1), .ref (bd 2), .ref (bd 3), .ref (bd 4), .int (nI n), .ref (bd 5), .ref (bd 6), .ref (bd 7), .ref (bd 8), .ref (bd 9), .ref (bd 10), .ref (bd 11), .ref (bd 12), .ref (bd 13), .int (nI unk), .int (nI cnt)])), ((bd 1), .inl (cI, 120, .inl K)), ((bd 2), .inl (cI, 120, .inl F)), ((bd 3), .inl (cI, 120, .inl S)), ((bd 4), .inl (cI, 120, .inl DD)), ((bd 5), .inl (cI, 5, .inl NU)), ((bd 6), .inl (cI, 120, .inl VA)), ((bd 7), .inl (cI, 120, .inl BE)), ((bd 8), .inl (cI, 128, .inl WA)), ((bd 9), .inl (cI, 30, .inl LE)), ((bd 10), .inl (cI, 30, .inl AA)), ((bd 11), .inl (cI, 30, .inl RI)), ((bd 12), .inl (cI, 10, .inl UN)), ((bd 13), .inl (cZ, 30, .inl CO))] := hD
  have hA0 := hA
  refine lv_aload_n hx hb d_Mo_above_0 rfl (lv_at hl 0 rfl) ?_
  refine lv_aload_n hx hb d_Mo_above_1 rfl (lv_at hl 0 rfl) ?_
  refine lv_iload_n hx hb d_Mo_above_2 rfl (lv_at hl 1 rfl) ?_
  refine ry_callV (n := 1) (As := [.int (nI x)]) (rest := [.ref (bd 0)]) ⟨hx, hb, hml, hown, htb⟩ (c_Mo_isLevel l dC dI cI cL cZ bd th K F S DD n NU VA BE WA LE AA RI UN CO unk cnt hn hunk hcnt (nI x)) (gV mw_628 mw_630 mp_20 mw_5 mc_Mo_isLevel) rfl rfl (by decide +kernel) ⟨Nat.le_of_ble_eq_true rfl, Nat.le_of_ble_eq_true rfl⟩ (hP.sub [0, 1, 2, 3, 4, 5, 6, 7, 8, 9, 10, 11, 12, 13] rfl) hK (ci := 4) (q0 := 0) rfl rfl rfl rfl hl.1 rfl (Nat.le_of_ble_eq_true rfl) d_Mo_above_3 ⟨Nat.zero_le _, Nat.zero_le _⟩ (fun r_1 hr_1 => ?_)
  subst hr_1
  refine W.eq (g2 := F0 m 6 ls [.int (hs (nI x) n), .ref (bd 0)]) rfl ?_
  refine lv_if_eq (tgt := 17) hx hb d_Mo_above_6 (by decide) (fun c_6 => ?_) (fun c_6 => ?_)
  · exact absurd (hp.symm.trans c_6) (by decide)
  · refine lv_aload_n hx hb d_Mo_above_9 rfl (lv_at hl 0 rfl) ?_
    refine lv_iload_n hx hb d_Mo_above_10 rfl (lv_at hl 2 rfl) ?_
    refine ry_callV (n := 1) (As := [.int (nI y)]) (rest := [.ref (bd 0)]) ⟨hx, hb, hml, hown, htb⟩ (c_Mo_isLevel l dC dI cI cL cZ bd th K F S DD n NU VA BE WA LE AA RI UN CO unk cnt hn hunk hcnt (nI y)) (gV mw_628 mw_630 mp_20 mw_5 mc_Mo_isLevel) rfl rfl (by decide +kernel) ⟨Nat.le_of_ble_eq_true rfl, Nat.le_of_ble_eq_true rfl⟩ (hP.sub [0, 1, 2, 3, 4, 5, 6, 7, 8, 9, 10, 11, 12, 13] rfl) hK (ci := 4) (q0 := 0) rfl rfl rfl rfl hl.1 rfl (Nat.le_of_ble_eq_true rfl) d_Mo_above_11 ⟨Nat.zero_le _, Nat.zero_le _⟩ (fun r_2 hr_2 => ?_)
    subst hr_2
    refine W.eq (g2 := F0 m 14 ls [.int (hs (nI y) n), .ref (bd 0)]) rfl ?_
    refine lv_if_ne (tgt := 21) hx hb d_Mo_above_14 (by decide) (fun c_14 => ?_) (fun c_14 => ?_)
    · refine lv_iconst (v := 0) hx hb d_Mo_above_21 (by decide) ?_
      refine wy_callV (n := 1) (wr := []) (As := [.int 0]) (rest := []) ⟨hx, hb, hml, hown, htb⟩ (c_Mo_refuses l dC dI cI cL cZ bd th K F S DD n NU VA BE WA LE AA RI UN CO unk cnt hn hunk hcnt 0 s.heap.size) (gV mw_620 mw_622 mp_19 mw_5 mc_Mo_refuses) rfl rfl (by decide +kernel) ⟨Nat.le_of_ble_eq_true rfl, Nat.le_of_ble_eq_true rfl⟩ hP hD hS hA hK [0, 1, 2, 3, 4, 5, 6, 7, 8, 9, 10, 11, 12, 13] [] rfl rfl (by decide) (by decide) (hP.sub [0, 1, 2, 3, 4, 5, 6, 7, 8, 9, 10, 11, 12, 13] rfl) ((hD.sub [0, 1, 2, 3, 4, 5, 6, 7, 8, 9, 10, 11, 12, 13] (by decide) rfl).weaken (fun _ _ _ _ => trivial)) (ci := 4) (q0 := 0) rfl rfl rfl rfl hl.1 rfl (Nat.le_of_ble_eq_true rfl) d_Mo_above_22 ⟨Nat.le_of_ble_eq_true rfl, Nat.le_of_ble_eq_true rfl⟩ (fun r u H locs hpost hP hD hS => ?_)
      subst hpost
      have hP : va_P (dC, dI) classes [((bd 0), .inr (4, [.int 0, .ref (bd 1), .ref (bd 2), .ref (bd 3), .ref (bd 4), .int (nI n), .ref (bd 5), .ref (bd 6), .ref (bd 7), .ref (bd 8), .ref (bd 9), .ref (bd 10), .ref (bd 11), .ref (bd 12), .ref (bd 13), .int (nI unk), .int (nI cnt)])), ((bd 1), .inl (cI, 120, .inl K)), ((bd 2), .inl (cI, 120, .inl F)), ((bd 3), .inl (cI, 120, .inl S)), ((bd 4), .inl (cI, 120, .inl DD)), ((bd 5), .inl (cI, 5, .inl NU)), ((bd 6), .inl (cI, 120, .inl VA)), ((bd 7), .inl (cI, 120, .inl BE)), ((bd 8), .inl (cI, 128, .inl WA)), ((bd 9), .inl (cI, 30, .inl LE)), ((bd 10), .inl (cI, 30, .inl AA)), ((bd 11), .inl (cI, 30, .inl RI)), ((bd 12), .inl (cI, 10, .inl UN)), ((bd 13), .inl (cZ, 30, .inl CO))] H := hP
      have hD : va_D A [((bd 0), .inr (4, [.int 0, .ref (bd 1), .ref (bd 2), .ref (bd 3), .ref (bd 4), .int (nI n), .ref (bd 5), .ref (bd 6), .ref (bd 7), .ref (bd 8), .ref (bd 9), .ref (bd 10), .ref (bd 11), .ref (bd 12), .ref (bd 13), .int (nI unk), .int (nI cnt)])), ((bd 1), .inl (cI, 120, .inl K)), ((bd 2), .inl (cI, 120, .inl F)), ((bd 3), .inl (cI, 120, .inl S)), ((bd 4), .inl (cI, 120, .inl DD)), ((bd 5), .inl (cI, 5, .inl NU)), ((bd 6), .inl (cI, 120, .inl VA)), ((bd 7), .inl (cI, 120, .inl BE)), ((bd 8), .inl (cI, 128, .inl WA)), ((bd 9), .inl (cI, 30, .inl LE)), ((bd 10), .inl (cI, 30, .inl AA)), ((bd 11), .inl (cI, 30, .inl RI)), ((bd 12), .inl (cI, 10, .inl UN)), ((bd 13), .inl (cZ, 30, .inl CO))] := hD
      refine W.eq (g2 := F0 m 25 ls [.int (if 0 ≤ 0 then 0 else 1)]) rfl ?_
      refine lv_if_eq (tgt := 30) hx hb d_Mo_above_25 (by decide) (fun c_25 => ?_) (fun c_25 => ?_)
      · refine lv_aload_n hx hb d_Mo_above_30 rfl (lv_at hl 0 rfl) ?_
        refine lv_iload_n hx hb d_Mo_above_31 rfl (lv_at hl 1 rfl) ?_
        refine lv_iload_n hx hb d_Mo_above_32 rfl (lv_at hl 2 rfl) ?_
        refine wy_callV (n := 2) (wr := []) (As := [.int (nI x), .int (nI y)]) (rest := []) ⟨hx, hb, hml, hown, htb⟩ (c_Mo_regionOf l dC dI cI cL cZ bd 0 K F S DD n NU VA BE WA LE AA RI UN CO unk cnt hn hunk hcnt nd hok x y hx1 hy1 H.size) (gV mw_673 mw_675 mp_25 mw_5 mc_Mo_regionOf) rfl rfl (by decide +kernel) ⟨Nat.le_of_ble_eq_true rfl, Nat.le_of_ble_eq_true rfl⟩ hP hD hS hA hK [0, 1, 2, 3, 4, 5, 6, 7, 8, 9, 10, 11, 12, 13] [] rfl rfl (by decide) (by decide) (hP.sub [0, 1, 2, 3, 4, 5, 6, 7, 8, 9, 10, 11, 12, 13] rfl) ((hD.sub [0, 1, 2, 3, 4, 5, 6, 7, 8, 9, 10, 11, 12, 13] (by decide) rfl).weaken (fun _ _ _ _ => trivial)) (ci := 4) (q0 := 0) rfl rfl rfl rfl hl.1 rfl (Nat.le_of_ble_eq_true rfl) d_Mo_above_33 ⟨Nat.le_of_ble_eq_true rfl, Nat.le_of_ble_eq_true rfl⟩ (fun r u H locs hpost hP hD hS => ?_)
        rw [hrg] at hpost
        subst hpost
        have hP : va_P (dC, dI) classes [((bd 0), .inr (4, [.int 0, .ref (bd 1), .ref (bd 2), .ref (bd 3), .ref (bd 4), .int (nI n), .ref (bd 5), .ref (bd 6), .ref (bd 7), .ref (bd 8), .ref (bd 9), .ref (bd 10), .ref (bd 11), .ref (bd 12), .ref (bd 13), .int (nI unk), .int (nI cnt)])), ((bd 1), .inl (cI, 120, .inl K)), ((bd 2), .inl (cI, 120, .inl F)), ((bd 3), .inl (cI, 120, .inl S)), ((bd 4), .inl (cI, 120, .inl DD)), ((bd 5), .inl (cI, 5, .inl u.1)), ((bd 6), .inl (cI, 120, .inl u.2)), ((bd 7), .inl (cI, 120, .inl BE)), ((bd 8), .inl (cI, 128, .inl WA)), ((bd 9), .inl (cI, 30, .inl LE)), ((bd 10), .inl (cI, 30, .inl AA)), ((bd 11), .inl (cI, 30, .inl RI)), ((bd 12), .inl (cI, 10, .inl UN)), ((bd 13), .inl (cZ, 30, .inl CO))] H := hP
        have hD : va_D A [((bd 0), .inr (4, [.int 0, .ref (bd 1), .ref (bd 2), .ref (bd 3), .ref (bd 4), .int (nI n), .ref (bd 5), .ref (bd 6), .ref (bd 7), .ref (bd 8), .ref (bd 9), .ref (bd 10), .ref (bd 11), .ref (bd 12), .ref (bd 13), .int (nI unk), .int (nI cnt)])), ((bd 1), .inl (cI, 120, .inl K)), ((bd 2), .inl (cI, 120, .inl F)), ((bd 3), .inl (cI, 120, .inl S)), ((bd 4), .inl (cI, 120, .inl DD)), ((bd 5), .inl (cI, 5, .inl u.1)), ((bd 6), .inl (cI, 120, .inl u.2)), ((bd 7), .inl (cI, 120, .inl BE)), ((bd 8), .inl (cI, 128, .inl WA)), ((bd 9), .inl (cI, 30, .inl LE)), ((bd 10), .inl (cI, 30, .inl AA)), ((bd 11), .inl (cI, 30, .inl RI)), ((bd 12), .inl (cI, 10, .inl UN)), ((bd 13), .inl (cZ, 30, .inl CO))] := hD
        refine W.eq (g2 := F0 m 36 ls [.int (nI g)]) rfl ?_
        refine lv_istore_n (lv' := [(3, .int (nI g)), (0, .ref (bd 0)), (1, .int (nI x)), (2, .int (nI y))]) hx hb d_Mo_above_36 rfl hl (by decide) rfl (fun ls hl => ?_)
        refine lv_iload_n hx hb d_Mo_above_37 rfl (lv_at hl 0 rfl) ?_
        refine lv_iconst (v := (-1)) hx hb d_Mo_above_38 (by decide) ?_
        refine lv_icmp_ne (tgt := 46) hx hb d_Mo_above_39 (by decide) (fun c_39 => ?_) (fun c_39 => ?_)
        · refine lv_lconst (v := 0) hx hb d_Mo_above_46 (by decide) ?_
          refine lv_lstore (lv' := [(4, .long (0 : Int64)), (3, .int (nI g)), (0, .ref (bd 0)), (1, .int (nI x)), (2, .int (nI y))]) hx hb d_Mo_above_47 hl (by decide) rfl (fun ls hl => ?_)
          refine lv_iconst (v := 0) hx hb d_Mo_above_49 (by decide) ?_
          refine lv_istore (lv' := [(6, .int 0), (4, .long (0 : Int64)), (3, .int (nI g)), (0, .ref (bd 0)), (1, .int (nI x)), (2, .int (nI y))]) hx hb d_Mo_above_50 hl (by decide) rfl (fun ls hl => ?_)
          refine lp_Mo_above l C0 dC dI cI cL cZ bd K F S DD n BE WA LE AA RI UN CO unk cnt hn hunk hcnt nd hok x y hx1 hy1 g hg hg0 hK hA (fun NU9 VA9 H locs ls hP hD hS hl => ?_) 5 0 u.1 u.2 ⟨rfl, fun a ha => by omega⟩ H locs ls hP hD hS (lv_sub hl [3, 4, 5, 2, 1, 0] rfl)
          refine lv_lload hx hb d_Mo_above_164 (lv_at hl 1 rfl) ?_
          exact W.lret (v := (lN (abv nd x y g 5))) hx hb hr (fun t ht hW => ⟨⟨(lN (abv nd x y g 5)), (NU9, VA9), rfl, rfl, by rw [ht]; exact hP, va_K.moved hW.alike hK, hD⟩, hS.F ht⟩) hS.2.2 d_Mo_above_166
        · exact absurd c_39 (nI_m1 (by omega))
      · exact absurd (by decide) c_25
    · exact absurd (hp2.symm.trans c_14) (by decide)
