set_option maxHeartbeats 4000000 in
set_option maxRecDepth 100000 in
theorem c0_Mo_level (l : Launch) (dC : Nat → ClassId) (dI : Nat → Nat → Nat) (cI cL cZ : ClassId) (bd : Nat → Nat) (th : Int32) (K F S DD : Nat → Int32) (n : Nat) (NU VA BE WA LE AA RI UN CO : Nat → Int32) (unk cnt : Nat) (hn : n ≤ 120) (hunk : unk ≤ 10) (hcnt : cnt ≤ 30) (x y : Int32) (hp : hs x n = 0) (sz : Nat) : Met l y_Mo_level (cw_Mo_level :: tb) (rmH 2 0 0) (va_Pc [.ref (bd 0), .int x, .int y] (wy_P (dC, dI) classes (wMo cI cZ bd th K F S DD n NU VA BE WA LE AA RI UN CO unk cnt) (tyI cI cL cZ) sz)) (wy_Q ry_i (fun r (u : Unit) => r = -1) (wy_B (dC, dI) classes (tyI cI cL cZ) (va_A (wMo cI cZ bd th K F S DD n NU VA BE WA LE AA RI UN CO unk cnt) sz) (fun u : Unit => (wMo cI cZ bd 0 K F S DD n NU VA BE WA LE AA RI UN CO unk cnt))) (va_A (wMo cI cZ bd th K F S DD n NU VA BE WA LE AA RI UN CO unk cnt) sz)) 0 0 (va_A (wMo cI cZ bd th K F S DD n NU VA BE WA LE AA RI UN CO unk cnt) sz) := by
  refine Met.ofW (cc := b_Mo_level) (maxL := 3) (ret := (some .int)) (by decide +kernel) rfl ?_
  intro p e s m args below meth c s₁ B hml0 hv
  have C0 := cx_of B hml0 rfl
  obtain ⟨hx, hb, hr, hml, hown, htb, hlocks⟩ := id C0
  obtain ⟨rfl, hsz, hP, hK, hD0⟩ := hv
  subst hsz
  have hD := hD0.self (sz := s.heap.size)
  generalize hAe : va_A (wMo cI cZ bd th K F S DD n NU VA BE WA LE AA RI UN CO unk cnt) s.heap.size = A at hD ⊢
  have hA : ∀ q : Nat, s.heap.size ≤ q → A q := fun q h => by rw [← hAe]; exact Or.inr h
  have hS : va_S A s.heap s.heap [] := va_S.rf
  have hl := lv_entry ([.ref (bd 0), .int x, .int y]) (n := 3) (Nat.le_of_ble_eq_true rfl)
  rw [lg_entry_eq]
  generalize (lg_sl ([.ref (bd 0), .int x, .int y]) ++ List.replicate (3 - (lg_sl ([.ref (bd 0), .int x, .int y])).length) Slot.unset).toArray = ls at hl ⊢
  have hl : lv_has ls 3 [(0, .ref (bd 0)), (1, .int x), (2, .int y)] := hl
  have hP : va_P (dC, dI) classes [((bd 0), .inr (4, [.int th, .ref (bd 1), .ref (bd 2), .ref (bd 3), .ref (bd 4), .int (nI n), .ref (bd 5), .ref (bd 6), .ref (bd 7), .ref (bd 8), .ref (bd 9), .ref (bd 10), .ref (bd 11), .ref (bd 12), .ref (bd 13), .int (nI unk), .int (nI cnt)])), ((bd 1), .inl (cI, 120, .inl K)), ((bd 2), .inl (cI, 120, .inl F)), ((bd 3), .inl (cI, 120, .inl S)), ((bd 4), .inl (cI, 120, .inl DD)), ((bd 5), .inl (cI, 5, .inl NU)), ((bd 6), .inl (cI, 120, .inl VA)), ((bd 7), .inl (cI, 120, .inl BE)), ((bd 8), .inl (cI, 128, .inl WA)), ((bd 9), .inl (cI, 30, .inl LE)), ((bd 10), .inl (cI, 30, .inl AA)), ((bd 11), .inl (cI, 30, .inl RI)), ((bd 12), .inl (cI, 10, .inl UN)), ((bd 13), .inl (cZ, 30, .inl CO))] s.heap := hP
  have hD : va_D A [((bd 0), .inr (4, [.int th, .ref (bd 1), .ref (bd 2), .ref (bd 3), .ref (bd 4), .int (nI n), .ref (bd 5), .ref (bd 6), .ref (bd 7), .ref (bd 8), .ref (bd 9), .ref (bd 10), .ref (bd 11), .ref (bd 12), .ref (bd 13), .int (nI unk), .int (nI cnt)])), ((bd 1), .inl (cI, 120, .inl K)), ((bd 2), .inl (cI, 120, .inl F)), ((bd 3), .inl (cI, 120, .inl S)), ((bd 4), .inl (cI, 120, .inl DD)), ((bd 5), .inl (cI, 5, .inl NU)), ((bd 6), .inl (cI, 120, .inl VA)), ((bd 7), .inl (cI, 120, .inl BE)), ((bd 8), .inl (cI, 128, .inl WA)), ((bd 9), .inl (cI, 30, .inl LE)), ((bd 10), .inl (cI, 30, .inl AA)), ((bd 11), .inl (cI, 30, .inl RI)), ((bd 12), .inl (cI, 10, .inl UN)), ((bd 13), .inl (cZ, 30, .inl CO))] := hD
  have hA0 := hA
  refine lv_aload_n hx hb d_Mo_level_0 rfl (lv_at hl 0 rfl) ?_
  refine lv_iconst (v := 0) hx hb d_Mo_level_1 (by decide) ?_
  refine va_put (D := (dC, dI)) (ci := 4) (v := .int 0) (ty := .int) (C := R_Mo) (T := F_Mo) (N := 17) hx hb htb ul_Mo t_Mo t_Mo_ok n_Mo hown hK hP hD hS 0 rfl rfl 0 (by decide) (htb _ mw_548) (fun _ h9 => h9) rfl (by decide +kernel) rfl rfl (Nat.le_of_ble_eq_true rfl) d_Mo_level_2 (fun H locs hP hD hS => ?_)
  have hP : va_P (dC, dI) classes [((bd 0), .inr (4, [.int 0, .ref (bd 1), .ref (bd 2), .ref (bd 3), .ref (bd 4), .int (nI n), .ref (bd 5), .ref (bd 6), .ref (bd 7), .ref (bd 8), .ref (bd 9), .ref (bd 10), .ref (bd 11), .ref (bd 12), .ref (bd 13), .int (nI unk), .int (nI cnt)])), ((bd 1), .inl (cI, 120, .inl K)), ((bd 2), .inl (cI, 120, .inl F)), ((bd 3), .inl (cI, 120, .inl S)), ((bd 4), .inl (cI, 120, .inl DD)), ((bd 5), .inl (cI, 5, .inl NU)), ((bd 6), .inl (cI, 120, .inl VA)), ((bd 7), .inl (cI, 120, .inl BE)), ((bd 8), .inl (cI, 128, .inl WA)), ((bd 9), .inl (cI, 30, .inl LE)), ((bd 10), .inl (cI, 30, .inl AA)), ((bd 11), .inl (cI, 30, .inl RI)), ((bd 12), .inl (cI, 10, .inl UN)), ((bd 13), .inl (cZ, 30, .inl CO))] H := hP
  have hD : va_D A [((bd 0), .inr (4, [.int 0, .ref (bd 1), .ref (bd 2), .ref (bd 3), .ref (bd 4), .int (nI n), .ref (bd 5), .ref (bd 6), .ref (bd 7), .ref (bd 8), .ref (bd 9), .ref (bd 10), .ref (bd 11), .ref (bd 12), .ref (bd 13), .int (nI unk), .int (nI cnt)])), ((bd 1), .inl (cI, 120, .inl K)), ((bd 2), .inl (cI, 120, .inl F)), ((bd 3), .inl (cI, 120, .inl S)), ((bd 4), .inl (cI, 120, .inl DD)), ((bd 5), .inl (cI, 5, .inl NU)), ((bd 6), .inl (cI, 120, .inl VA)), ((bd 7), .inl (cI, 120, .inl BE)), ((bd 8), .inl (cI, 128, .inl WA)), ((bd 9), .inl (cI, 30, .inl LE)), ((bd 10), .inl (cI, 30, .inl AA)), ((bd 11), .inl (cI, 30, .inl RI)), ((bd 12), .inl (cI, 10, .inl UN)), ((bd 13), .inl (cZ, 30, .inl CO))] := hD
  refine lv_aload_n hx hb d_Mo_level_5 rfl (lv_at hl 0 rfl) ?_
  refine lv_iload_n hx hb d_Mo_level_6 rfl (lv_at hl 1 rfl) ?_
  refine ry_callV (n := 1) (As := [.int x]) (rest := []) ⟨hx, hb, hml, hown, htb⟩ (c_Mo_isLevel l dC dI cI cL cZ bd 0 K F S DD n NU VA BE WA LE AA RI UN CO unk cnt hn hunk hcnt x) (gV mw_628 mw_630 mp_20 mw_5 mc_Mo_isLevel) rfl rfl (by decide +kernel) ⟨Nat.le_of_ble_eq_true rfl, Nat.le_of_ble_eq_true rfl⟩ (hP.sub [0, 1, 2, 3, 4, 5, 6, 7, 8, 9, 10, 11, 12, 13] rfl) hK (ci := 4) (q0 := 0) rfl rfl rfl rfl hl.1 rfl (Nat.le_of_ble_eq_true rfl) d_Mo_level_7 ⟨Nat.zero_le _, Nat.zero_le _⟩ (fun r_1 hr_1 => ?_)
  subst hr_1
  refine W.eq (g2 := F0 m 10 ls [.int (hs x n)]) rfl ?_
  refine lv_if_eq (tgt := 22) hx hb d_Mo_level_10 (by decide) (fun c_10 => ?_) (fun c_10 => ?_)
  · refine lv_iconst (v := (-1)) hx hb d_Mo_level_22 (by decide) ?_
    exact W.iret (v := (-1)) hx hb hr (fun t ht hW => ⟨⟨(-1), (), rfl, rfl, by rw [ht]; exact hP, va_K.moved hW.alike hK, hD⟩, hS.F ht⟩) hS.2.2 d_Mo_level_23
  · exact absurd hp c_10

set_option maxHeartbeats 4000000 in
set_option maxRecDepth 100000 in
theorem c_Mo_level (l : Launch) (dC : Nat → ClassId) (dI : Nat → Nat → Nat) (cI cL cZ : ClassId) (bd : Nat → Nat) (th : Int32) (K F S DD : Nat → Int32) (n : Nat) (NU VA BE WA LE AA RI UN CO : Nat → Int32) (unk cnt : Nat) (hn : n ≤ 120) (hunk : unk ≤ 10) (hcnt : cnt ≤ 30) (a : Nat) (ha : a < n) (hp : hs (nI a) n = 1) (y : Int32) (sz : Nat) : Met l y_Mo_level (cw_Mo_level :: tb) (rmH 2 0 0) (va_Pc [.ref (bd 0), .int (nI a), .int y] (wy_P (dC, dI) classes (wMo cI cZ bd th K F S DD n NU VA BE WA LE AA RI UN CO unk cnt) (tyI cI cL cZ) sz)) (wy_Q ry_i (fun r (u : Unit) => r = det K F S a y) (wy_B (dC, dI) classes (tyI cI cL cZ) (va_A (wMo cI cZ bd th K F S DD n NU VA BE WA LE AA RI UN CO unk cnt) sz) (fun u : Unit => (wMo cI cZ bd 0 K F S DD n NU VA BE WA LE AA RI UN CO unk cnt))) (va_A (wMo cI cZ bd th K F S DD n NU VA BE WA LE AA RI UN CO unk cnt) sz)) 0 0 (va_A (wMo cI cZ bd th K F S DD n NU VA BE WA LE AA RI UN CO unk cnt) sz) := by
  refine Met.ofW (cc := b_Mo_level) (maxL := 3) (ret := (some .int)) (by decide +kernel) rfl ?_
  intro p e s m args below meth c s₁ B hml0 hv
  have C0 := cx_of B hml0 rfl
  obtain ⟨hx, hb, hr, hml, hown, htb, hlocks⟩ := id C0
  obtain ⟨rfl, hsz, hP, hK, hD0⟩ := hv
  subst hsz
  have hD := hD0.self (sz := s.heap.size)
  generalize hAe : va_A (wMo cI cZ bd th K F S DD n NU VA BE WA LE AA RI UN CO unk cnt) s.heap.size = A at hD ⊢
  have hA : ∀ q : Nat, s.heap.size ≤ q → A q := fun q h => by rw [← hAe]; exact Or.inr h
  have hS : va_S A s.heap s.heap [] := va_S.rf
  have hl := lv_entry ([.ref (bd 0), .int (nI a), .int y]) (n := 3) (Nat.le_of_ble_eq_true rfl)
  rw [lg_entry_eq]
  generalize (lg_sl ([.ref (bd 0), .int (nI a), .int y]) ++ List.replicate (3 - (lg_sl ([.ref (bd 0), .int (nI a), .int y])).length) Slot.unset).toArray = ls at hl ⊢
  have hl : lv_has ls 3 [(0, .ref (bd 0)), (1, .int (nI a)), (2, .int y)] := hl
  have hP : va_P (dC, dI) classes [((bd 0), .inr (4, [.int th, .ref (bd 1), .ref (bd 2), .ref (bd 3), .ref (bd 4), .int (nI n), .ref (bd 5), .ref (bd 6), .ref (bd 7), .ref (bd 8), .ref (bd 9), .ref (bd 10), .ref (bd 11), .ref (bd 12), .ref (bd 13), .int (nI unk), .int (nI cnt)])), ((bd 1), .inl (cI, 120, .inl K)), ((bd 2), .inl (cI, 120, .inl F)), ((bd 3), .inl (cI, 120, .inl S)), ((bd 4), .inl (cI, 120, .inl DD)), ((bd 5), .inl (cI, 5, .inl NU)), ((bd 6), .inl (cI, 120, .inl VA)), ((bd 7), .inl (cI, 120, .inl BE)), ((bd 8), .inl (cI, 128, .inl WA)), ((bd 9), .inl (cI, 30, .inl LE)), ((bd 10), .inl (cI, 30, .inl AA)), ((bd 11), .inl (cI, 30, .inl RI)), ((bd 12), .inl (cI, 10, .inl UN)), ((bd 13), .inl (cZ, 30, .inl CO))] s.heap := hP
  have hD : va_D A [((bd 0), .inr (4, [.int th, .ref (bd 1), .ref (bd 2), .ref (bd 3), .ref (bd 4), .int (nI n), .ref (bd 5), .ref (bd 6), .ref (bd 7), .ref (bd 8), .ref (bd 9), .ref (bd 10), .ref (bd 11), .ref (bd 12), .ref (bd 13), .int (nI unk), .int (nI cnt)])), ((bd 1), .inl (cI, 120, .inl K)), ((bd 2), .inl (cI, 120, .inl F)), ((bd 3), .inl (cI, 120, .inl S)), ((bd 4), .inl (cI, 120, .inl DD)), ((bd 5), .inl (cI, 5, .inl NU)), ((bd 6), .inl (cI, 120, .inl VA)), ((bd 7), .inl (cI, 120, .inl BE)), ((bd 8), .inl (cI, 128, .inl WA)), ((bd 9), .inl (cI, 30, .inl LE)), ((bd 10), .inl (cI, 30, .inl AA)), ((bd 11), .inl (cI, 30, .inl RI)), ((bd 12), .inl (cI, 10, .inl UN)), ((bd 13), .inl (cZ, 30, .inl CO))] := hD
  have hA0 := hA
  refine lv_aload_n hx hb d_Mo_level_0 rfl (lv_at hl 0 rfl) ?_
  refine lv_iconst (v := 0) hx hb d_Mo_level_1 (by decide) ?_
  refine va_put (D := (dC, dI)) (ci := 4) (v := .int 0) (ty := .int) (C := R_Mo) (T := F_Mo) (N := 17) hx hb htb ul_Mo t_Mo t_Mo_ok n_Mo hown hK hP hD hS 0 rfl rfl 0 (by decide) (htb _ mw_548) (fun _ h9 => h9) rfl (by decide +kernel) rfl rfl (Nat.le_of_ble_eq_true rfl) d_Mo_level_2 (fun H locs hP hD hS => ?_)
  have hP : va_P (dC, dI) classes [((bd 0), .inr (4, [.int 0, .ref (bd 1), .ref (bd 2), .ref (bd 3), .ref (bd 4), .int (nI n), .ref (bd 5), .ref (bd 6), .ref (bd 7), .ref (bd 8), .ref (bd 9), .ref (bd 10), .ref (bd 11), .ref (bd 12), .ref (bd 13), .int (nI unk), .int (nI cnt)])), ((bd 1), .inl (cI, 120, .inl K)), ((bd 2), .inl (cI, 120, .inl F)), ((bd 3), .inl (cI, 120, .inl S)), ((bd 4), .inl (cI, 120, .inl DD)), ((bd 5), .inl (cI, 5, .inl NU)), ((bd 6), .inl (cI, 120, .inl VA)), ((bd 7), .inl (cI, 120, .inl BE)), ((bd 8), .inl (cI, 128, .inl WA)), ((bd 9), .inl (cI, 30, .inl LE)), ((bd 10), .inl (cI, 30, .inl AA)), ((bd 11), .inl (cI, 30, .inl RI)), ((bd 12), .inl (cI, 10, .inl UN)), ((bd 13), .inl (cZ, 30, .inl CO))] H := hP
  have hD : va_D A [((bd 0), .inr (4, [.int 0, .ref (bd 1), .ref (bd 2), .ref (bd 3), .ref (bd 4), .int (nI n), .ref (bd 5), .ref (bd 6), .ref (bd 7), .ref (bd 8), .ref (bd 9), .ref (bd 10), .ref (bd 11), .ref (bd 12), .ref (bd 13), .int (nI unk), .int (nI cnt)])), ((bd 1), .inl (cI, 120, .inl K)), ((bd 2), .inl (cI, 120, .inl F)), ((bd 3), .inl (cI, 120, .inl S)), ((bd 4), .inl (cI, 120, .inl DD)), ((bd 5), .inl (cI, 5, .inl NU)), ((bd 6), .inl (cI, 120, .inl VA)), ((bd 7), .inl (cI, 120, .inl BE)), ((bd 8), .inl (cI, 128, .inl WA)), ((bd 9), .inl (cI, 30, .inl LE)), ((bd 10), .inl (cI, 30, .inl AA)), ((bd 11), .inl (cI, 30, .inl RI)), ((bd 12), .inl (cI, 10, .inl UN)), ((bd 13), .inl (cZ, 30, .inl CO))] := hD
  refine lv_aload_n hx hb d_Mo_level_5 rfl (lv_at hl 0 rfl) ?_
  refine lv_iload_n hx hb d_Mo_level_6 rfl (lv_at hl 1 rfl) ?_
  refine ry_callV (n := 1) (As := [.int (nI a)]) (rest := []) ⟨hx, hb, hml, hown, htb⟩ (c_Mo_isLevel l dC dI cI cL cZ bd 0 K F S DD n NU VA BE WA LE AA RI UN CO unk cnt hn hunk hcnt (nI a)) (gV mw_628 mw_630 mp_20 mw_5 mc_Mo_isLevel) rfl rfl (by decide +kernel) ⟨Nat.le_of_ble_eq_true rfl, Nat.le_of_ble_eq_true rfl⟩ (hP.sub [0, 1, 2, 3, 4, 5, 6, 7, 8, 9, 10, 11, 12, 13] rfl) hK (ci := 4) (q0 := 0) rfl rfl rfl rfl hl.1 rfl (Nat.le_of_ble_eq_true rfl) d_Mo_level_7 ⟨Nat.zero_le _, Nat.zero_le _⟩ (fun r_1 hr_1 => ?_)
  subst hr_1
  refine W.eq (g2 := F0 m 10 ls [.int (hs (nI a) n)]) rfl ?_
  refine lv_if_eq (tgt := 22) hx hb d_Mo_level_10 (by decide) (fun c_10 => ?_) (fun c_10 => ?_)
  · exact absurd (hp.symm.trans c_10) (by decide)
  · refine lv_iload_n hx hb d_Mo_level_13 rfl (lv_at hl 2 rfl) ?_
    refine lv_if_lt (tgt := 22) hx hb d_Mo_level_14 (by decide) (fun c_14 => ?_) (fun c_14 => ?_)
    · refine lv_iconst (v := (-1)) hx hb d_Mo_level_22 (by decide) ?_
      exact W.iret (v := (-1)) hx hb hr (fun t ht hW => ⟨⟨(-1), (), rfl, (by rw [det, if_neg (by rintro rfl; exact absurd c_14 (by decide)), if_neg (by rintro rfl; exact absurd c_14 (by decide)), if_neg (by rintro rfl; exact absurd c_14 (by decide))]), by rw [ht]; exact hP, va_K.moved hW.alike hK, hD⟩, hS.F ht⟩) hS.2.2 d_Mo_level_23
    · refine lv_iload_n hx hb d_Mo_level_17 rfl (lv_at hl 2 rfl) ?_
      refine lv_iconst (v := 2) hx hb d_Mo_level_18 (by decide) ?_
      refine lv_icmp_le (tgt := 24) hx hb d_Mo_level_19 (by decide) (fun c_19 => ?_) (fun c_19 => ?_)
      · refine lv_iload_n hx hb d_Mo_level_24 rfl (lv_at hl 2 rfl) ?_
        refine lv_if_ne (tgt := 37) hx hb d_Mo_level_25 (by decide) (fun c_25 => ?_) (fun c_25 => ?_)
        · refine lv_iload_n hx hb d_Mo_level_37 rfl (lv_at hl 2 rfl) ?_
          refine lv_iconst (v := 1) hx hb d_Mo_level_38 (by decide) ?_
          refine lv_icmp_ne (tgt := 51) hx hb d_Mo_level_39 (by decide) (fun c_39 => ?_) (fun c_39 => ?_)
          · refine lv_aload_n hx hb d_Mo_level_51 rfl (lv_at hl 0 rfl) ?_
            refine va_get (D := (dC, dI)) (ci := 4) (v := .ref (bd 3)) (C := R_Mo) (T := F_Mo) (N := 17) hx hb htb ul_Mo hown hK hP 0 rfl rfl 3 (by decide) (htb _ mw_551) (fun _ h9 => h9) rfl d_Mo_level_52 ?_
            refine lv_iload_n hx hb d_Mo_level_55 rfl (lv_at hl 1 rfl) ?_
            refine ry_iald (D := (dC, dI)) (j := a) hx hb hK hP 3 0 rfl rfl (by omega) (by decide) d_Mo_level_56 ?_
            exact W.iret (v := (S a)) hx hb hr (fun t ht hW => ⟨⟨(S a), (), rfl, (by rw [det, if_neg c_25, if_neg c_39, if_pos (three c_14 c_19 c_25 c_39)]), by rw [ht]; exact hP, va_K.moved hW.alike hK, hD⟩, hS.F ht⟩) hS.2.2 d_Mo_level_57
          · refine lv_aload_n hx hb d_Mo_level_42 rfl (lv_at hl 0 rfl) ?_
            refine va_get (D := (dC, dI)) (ci := 4) (v := .ref (bd 2)) (C := R_Mo) (T := F_Mo) (N := 17) hx hb htb ul_Mo hown hK hP 0 rfl rfl 2 (by decide) (htb _ mw_550) (fun _ h9 => h9) rfl d_Mo_level_43 ?_
            refine lv_iload_n hx hb d_Mo_level_46 rfl (lv_at hl 1 rfl) ?_
            refine ry_iald (D := (dC, dI)) (j := a) hx hb hK hP 2 0 rfl rfl (by omega) (by decide) d_Mo_level_47 ?_
            refine lv_goto (tgt := 57) hx hb d_Mo_level_48 (by decide) ?_
            exact W.iret (v := (F a)) hx hb hr (fun t ht hW => ⟨⟨(F a), (), rfl, (by rw [det, if_neg c_25, if_pos c_39]), by rw [ht]; exact hP, va_K.moved hW.alike hK, hD⟩, hS.F ht⟩) hS.2.2 d_Mo_level_57
        · refine lv_aload_n hx hb d_Mo_level_28 rfl (lv_at hl 0 rfl) ?_
          refine va_get (D := (dC, dI)) (ci := 4) (v := .ref (bd 1)) (C := R_Mo) (T := F_Mo) (N := 17) hx hb htb ul_Mo hown hK hP 0 rfl rfl 1 (by decide) (htb _ mw_549) (fun _ h9 => h9) rfl d_Mo_level_29 ?_
          refine lv_iload_n hx hb d_Mo_level_32 rfl (lv_at hl 1 rfl) ?_
          refine ry_iald (D := (dC, dI)) (j := a) hx hb hK hP 1 0 rfl rfl (by omega) (by decide) d_Mo_level_33 ?_
          refine lv_goto (tgt := 57) hx hb d_Mo_level_34 (by decide) ?_
          exact W.iret (v := (K a)) hx hb hr (fun t ht hW => ⟨⟨(K a), (), rfl, (by rw [det, if_pos c_25]), by rw [ht]; exact hP, va_K.moved hW.alike hK, hD⟩, hS.F ht⟩) hS.2.2 d_Mo_level_57
      · refine lv_iconst (v := (-1)) hx hb d_Mo_level_22 (by decide) ?_
        exact W.iret (v := (-1)) hx hb hr (fun t ht hW => ⟨⟨(-1), (), rfl, (by rw [det, if_neg (by rintro rfl; exact c_19 (by decide)), if_neg (by rintro rfl; exact c_19 (by decide)), if_neg (by rintro rfl; exact c_19 (by decide))]), by rw [ht]; exact hP, va_K.moved hW.alike hK, hD⟩, hS.F ht⟩) hS.2.2 d_Mo_level_23

set_option maxHeartbeats 4000000 in
set_option maxRecDepth 100000 in
theorem c_Mo_about (l : Launch) (dC : Nat → ClassId) (dI : Nat → Nat → Nat) (cI cL cZ : ClassId) (bd : Nat → Nat) (th : Int32) (K F S DD : Nat → Int32) (n : Nat) (NU VA BE WA LE AA RI UN CO : Nat → Int32) (unk cnt : Nat) (hn : n ≤ 120) (hunk : unk ≤ 10) (hcnt : cnt ≤ 30) (x : Int32) (sz : Nat) : Met l y_Mo_about (cw_Mo_about :: tb) (rmH 1 0 0) (va_Pc [.ref (bd 0), .int x] (wy_P (dC, dI) classes (wMo cI cZ bd th K F S DD n NU VA BE WA LE AA RI UN CO unk cnt) (tyI cI cL cZ) sz)) (wy_Q ry_i (fun r (u : Unit) => r = if x = 0 then nI n else if x = 1 then nI unk else if x = 2 then nI cnt else -1) (wy_B (dC, dI) classes (tyI cI cL cZ) (va_A (wMo cI cZ bd th K F S DD n NU VA BE WA LE AA RI UN CO unk cnt) sz) (fun u : Unit => (wMo cI cZ bd 0 K F S DD n NU VA BE WA LE AA RI UN CO unk cnt))) (va_A (wMo cI cZ bd th K F S DD n NU VA BE WA LE AA RI UN CO unk cnt) sz)) 0 0 (va_A (wMo cI cZ bd th K F S DD n NU VA BE WA LE AA RI UN CO unk cnt) sz) := by
  refine Met.ofW (cc := b_Mo_about) (maxL := 2) (ret := (some .int)) (by decide +kernel) rfl ?_
  intro p e s m args below meth c s₁ B hml0 hv
  have C0 := cx_of B hml0 rfl
  obtain ⟨hx, hb, hr, hml, hown, htb, hlocks⟩ := id C0
  obtain ⟨rfl, hsz, hP, hK, hD0⟩ := hv
  subst hsz
  have hD := hD0.self (sz := s.heap.size)
  generalize hAe : va_A (wMo cI cZ bd th K F S DD n NU VA BE WA LE AA RI UN CO unk cnt) s.heap.size = A at hD ⊢
  have hA : ∀ q : Nat, s.heap.size ≤ q → A q := fun q h => by rw [← hAe]; exact Or.inr h
  have hS : va_S A s.heap s.heap [] := va_S.rf
  have hl := lv_entry ([.ref (bd 0), .int x]) (n := 2) (Nat.le_of_ble_eq_true rfl)
  rw [lg_entry_eq]
  generalize (lg_sl ([.ref (bd 0), .int x]) ++ List.replicate (2 - (lg_sl ([.ref (bd 0), .int x])).length) Slot.unset).toArray = ls at hl ⊢
  have hl : lv_has ls 2 [(0, .ref (bd 0)), (1, .int x)] := hl
  have hP : va_P (dC, dI) classes [((bd 0), .inr (4, [.int th, .ref (bd 1), .ref (bd 2), .ref (bd 3), .ref (bd 4), .int (nI n), .ref (bd 5), .ref (bd 6), .ref (bd 7), .ref (bd 8), .ref (bd 9), .ref (bd 10), .ref (bd 11), .ref (bd 12), .ref (bd 13), .int (nI unk), .int (nI cnt)])), ((bd 1), .inl (cI, 120, .inl K)), ((bd 2), .inl (cI, 120, .inl F)), ((bd 3), .inl (cI, 120, .inl S)), ((bd 4), .inl (cI, 120, .inl DD)), ((bd 5), .inl (cI, 5, .inl NU)), ((bd 6), .inl (cI, 120, .inl VA)), ((bd 7), .inl (cI, 120, .inl BE)), ((bd 8), .inl (cI, 128, .inl WA)), ((bd 9), .inl (cI, 30, .inl LE)), ((bd 10), .inl (cI, 30, .inl AA)), ((bd 11), .inl (cI, 30, .inl RI)), ((bd 12), .inl (cI, 10, .inl UN)), ((bd 13), .inl (cZ, 30, .inl CO))] s.heap := hP
  have hD : va_D A [((bd 0), .inr (4, [.int th, .ref (bd 1), .ref (bd 2), .ref (bd 3), .ref (bd 4), .int (nI n), .ref (bd 5), .ref (bd 6), .ref (bd 7), .ref (bd 8), .ref (bd 9), .ref (bd 10), .ref (bd 11), .ref (bd 12), .ref (bd 13), .int (nI unk), .int (nI cnt)])), ((bd 1), .inl (cI, 120, .inl K)), ((bd 2), .inl (cI, 120, .inl F)), ((bd 3), .inl (cI, 120, .inl S)), ((bd 4), .inl (cI, 120, .inl DD)), ((bd 5), .inl (cI, 5, .inl NU)), ((bd 6), .inl (cI, 120, .inl VA)), ((bd 7), .inl (cI, 120, .inl BE)), ((bd 8), .inl (cI, 128, .inl WA)), ((bd 9), .inl (cI, 30, .inl LE)), ((bd 10), .inl (cI, 30, .inl AA)), ((bd 11), .inl (cI, 30, .inl RI)), ((bd 12), .inl (cI, 10, .inl UN)), ((bd 13), .inl (cZ, 30, .inl CO))] := hD
  have hA0 := hA
  refine lv_aload_n hx hb d_Mo_about_0 rfl (lv_at hl 0 rfl) ?_
  refine lv_iconst (v := 0) hx hb d_Mo_about_1 (by decide) ?_
  refine va_put (D := (dC, dI)) (ci := 4) (v := .int 0) (ty := .int) (C := R_Mo) (T := F_Mo) (N := 17) hx hb htb ul_Mo t_Mo t_Mo_ok n_Mo hown hK hP hD hS 0 rfl rfl 0 (by decide) (htb _ mw_548) (fun _ h9 => h9) rfl (by decide +kernel) rfl rfl (Nat.le_of_ble_eq_true rfl) d_Mo_about_2 (fun H locs hP hD hS => ?_)
  have hP : va_P (dC, dI) classes [((bd 0), .inr (4, [.int 0, .ref (bd 1), .ref (bd 2), .ref (bd 3), .ref (bd 4), .int (nI n), .ref (bd 5), .ref (bd 6), .ref (bd 7), .ref (bd 8), .ref (bd 9), .ref (bd 10), .ref (bd 11), .ref (bd 12), .ref (bd 13), .int (nI unk), .int (nI cnt)])), ((bd 1), .inl (cI, 120, .inl K)), ((bd 2), .inl (cI, 120, .inl F)), ((bd 3), .inl (cI, 120, .inl S)), ((bd 4), .inl (cI, 120, .inl DD)), ((bd 5), .inl (cI, 5, .inl NU)), ((bd 6), .inl (cI, 120, .inl VA)), ((bd 7), .inl (cI, 120, .inl BE)), ((bd 8), .inl (cI, 128, .inl WA)), ((bd 9), .inl (cI, 30, .inl LE)), ((bd 10), .inl (cI, 30, .inl AA)), ((bd 11), .inl (cI, 30, .inl RI)), ((bd 12), .inl (cI, 10, .inl UN)), ((bd 13), .inl (cZ, 30, .inl CO))] H := hP
  have hD : va_D A [((bd 0), .inr (4, [.int 0, .ref (bd 1), .ref (bd 2), .ref (bd 3), .ref (bd 4), .int (nI n), .ref (bd 5), .ref (bd 6), .ref (bd 7), .ref (bd 8), .ref (bd 9), .ref (bd 10), .ref (bd 11), .ref (bd 12), .ref (bd 13), .int (nI unk), .int (nI cnt)])), ((bd 1), .inl (cI, 120, .inl K)), ((bd 2), .inl (cI, 120, .inl F)), ((bd 3), .inl (cI, 120, .inl S)), ((bd 4), .inl (cI, 120, .inl DD)), ((bd 5), .inl (cI, 5, .inl NU)), ((bd 6), .inl (cI, 120, .inl VA)), ((bd 7), .inl (cI, 120, .inl BE)), ((bd 8), .inl (cI, 128, .inl WA)), ((bd 9), .inl (cI, 30, .inl LE)), ((bd 10), .inl (cI, 30, .inl AA)), ((bd 11), .inl (cI, 30, .inl RI)), ((bd 12), .inl (cI, 10, .inl UN)), ((bd 13), .inl (cZ, 30, .inl CO))] := hD
  refine lv_iload_n hx hb d_Mo_about_5 rfl (lv_at hl 1 rfl) ?_
  refine lv_if_ne (tgt := 16) hx hb d_Mo_about_6 (by decide) (fun c_6 => ?_) (fun c_6 => ?_)
  · refine lv_iload_n hx hb d_Mo_about_16 rfl (lv_at hl 1 rfl) ?_
    refine lv_iconst (v := 1) hx hb d_Mo_about_17 (by decide) ?_
    refine lv_icmp_ne (tgt := 28) hx hb d_Mo_about_18 (by decide) (fun c_18 => ?_) (fun c_18 => ?_)
    · refine lv_iload_n hx hb d_Mo_about_28 rfl (lv_at hl 1 rfl) ?_
      refine lv_iconst (v := 2) hx hb d_Mo_about_29 (by decide) ?_
      refine lv_icmp_ne (tgt := 40) hx hb d_Mo_about_30 (by decide) (fun c_30 => ?_) (fun c_30 => ?_)
      · refine lv_iconst (v := (-1)) hx hb d_Mo_about_40 (by decide) ?_
        exact W.iret (v := (-1)) hx hb hr (fun t ht hW => ⟨⟨(-1), (), rfl, (by rw [if_neg c_6, if_neg c_18, if_neg c_30]), by rw [ht]; exact hP, va_K.moved hW.alike hK, hD⟩, hS.F ht⟩) hS.2.2 d_Mo_about_41
      · refine lv_aload_n hx hb d_Mo_about_33 rfl (lv_at hl 0 rfl) ?_
        refine va_get (D := (dC, dI)) (ci := 4) (v := .int (nI cnt)) (C := R_Mo) (T := F_Mo) (N := 17) hx hb htb ul_Mo hown hK hP 0 rfl rfl 16 (by decide) (htb _ mw_564) (fun _ h9 => h9) rfl d_Mo_about_34 ?_
        refine lv_goto (tgt := 41) hx hb d_Mo_about_37 (by decide) ?_
        exact W.iret (v := (nI cnt)) hx hb hr (fun t ht hW => ⟨⟨(nI cnt), (), rfl, (by rw [if_neg c_6, if_neg c_18, if_pos c_30]), by rw [ht]; exact hP, va_K.moved hW.alike hK, hD⟩, hS.F ht⟩) hS.2.2 d_Mo_about_41
    · refine lv_aload_n hx hb d_Mo_about_21 rfl (lv_at hl 0 rfl) ?_
      refine va_get (D := (dC, dI)) (ci := 4) (v := .int (nI unk)) (C := R_Mo) (T := F_Mo) (N := 17) hx hb htb ul_Mo hown hK hP 0 rfl rfl 15 (by decide) (htb _ mw_563) (fun _ h9 => h9) rfl d_Mo_about_22 ?_
      refine lv_goto (tgt := 41) hx hb d_Mo_about_25 (by decide) ?_
      exact W.iret (v := (nI unk)) hx hb hr (fun t ht hW => ⟨⟨(nI unk), (), rfl, (by rw [if_neg c_6, if_pos c_18]), by rw [ht]; exact hP, va_K.moved hW.alike hK, hD⟩, hS.F ht⟩) hS.2.2 d_Mo_about_41
  · refine lv_aload_n hx hb d_Mo_about_9 rfl (lv_at hl 0 rfl) ?_
    refine va_get (D := (dC, dI)) (ci := 4) (v := .int (nI n)) (C := R_Mo) (T := F_Mo) (N := 17) hx hb htb ul_Mo hown hK hP 0 rfl rfl 5 (by decide) (htb _ mw_553) (fun _ h9 => h9) rfl d_Mo_about_10 ?_
    refine lv_goto (tgt := 41) hx hb d_Mo_about_13 (by decide) ?_
    exact W.iret (v := (nI n)) hx hb hr (fun t ht hW => ⟨⟨(nI n), (), rfl, (by rw [if_pos c_6]), by rw [ht]; exact hP, va_K.moved hW.alike hK, hD⟩, hS.F ht⟩) hS.2.2 d_Mo_about_41

set_option maxHeartbeats 4000000 in
set_option maxRecDepth 100000 in
theorem c_Mo_undo (l : Launch) (dC : Nat → ClassId) (dI : Nat → Nat → Nat) (cI cL cZ : ClassId) (bd : Nat → Nat) (th : Int32) (K F S DD : Nat → Int32) (n : Nat) (NU VA BE WA LE AA RI UN CO : Nat → Int32) (unk cnt : Nat) (hn : n ≤ 120) (hunk : unk ≤ 10) (hcnt : cnt ≤ 30)  (sz : Nat) : Met l y_Mo_undo (cw_Mo_undo :: tb) (rmH 1 0 0) (va_Pc [.ref (bd 0)] (wy_P (dC, dI) classes (wMo cI cZ bd th K F S DD n NU VA BE WA LE AA RI UN CO unk cnt) (tyI cI cL cZ) sz)) (wy_Q ry_i (fun r (u : Unit) => r = if cnt = 0 then 0 else 1) (wy_B (dC, dI) classes (tyI cI cL cZ) (va_A (wMo cI cZ bd th K F S DD n NU VA BE WA LE AA RI UN CO unk cnt) sz) (fun u : Unit => (wMo cI cZ bd 0 K F S DD n NU VA BE WA LE AA RI UN CO unk (cnt - 1)))) (va_A (wMo cI cZ bd th K F S DD n NU VA BE WA LE AA RI UN CO unk cnt) sz)) 0 0 (va_A (wMo cI cZ bd th K F S DD n NU VA BE WA LE AA RI UN CO unk cnt) sz) := by
  refine Met.ofW (cc := b_Mo_undo) (maxL := 2) (ret := (some .boolean)) (by decide +kernel) rfl ?_
  intro p e s m args below meth c s₁ B hml0 hv
  have C0 := cx_of B hml0 rfl
  obtain ⟨hx, hb, hr, hml, hown, htb, hlocks⟩ := id C0
  obtain ⟨rfl, hsz, hP, hK, hD0⟩ := hv
  subst hsz
  have hD := hD0.self (sz := s.heap.size)
  generalize hAe : va_A (wMo cI cZ bd th K F S DD n NU VA BE WA LE AA RI UN CO unk cnt) s.heap.size = A at hD ⊢
  have hA : ∀ q : Nat, s.heap.size ≤ q → A q := fun q h => by rw [← hAe]; exact Or.inr h
  have hS : va_S A s.heap s.heap [] := va_S.rf
  have hl := lv_entry ([.ref (bd 0)]) (n := 2) (Nat.le_of_ble_eq_true rfl)
  rw [lg_entry_eq]
  generalize (lg_sl ([.ref (bd 0)]) ++ List.replicate (2 - (lg_sl ([.ref (bd 0)])).length) Slot.unset).toArray = ls at hl ⊢
  have hl : lv_has ls 2 [(0, .ref (bd 0))] := hl
  have hP : va_P (dC, dI) classes [((bd 0), .inr (4, [.int th, .ref (bd 1), .ref (bd 2), .ref (bd 3), .ref (bd 4), .int (nI n), .ref (bd 5), .ref (bd 6), .ref (bd 7), .ref (bd 8), .ref (bd 9), .ref (bd 10), .ref (bd 11), .ref (bd 12), .ref (bd 13), .int (nI unk), .int (nI cnt)])), ((bd 1), .inl (cI, 120, .inl K)), ((bd 2), .inl (cI, 120, .inl F)), ((bd 3), .inl (cI, 120, .inl S)), ((bd 4), .inl (cI, 120, .inl DD)), ((bd 5), .inl (cI, 5, .inl NU)), ((bd 6), .inl (cI, 120, .inl VA)), ((bd 7), .inl (cI, 120, .inl BE)), ((bd 8), .inl (cI, 128, .inl WA)), ((bd 9), .inl (cI, 30, .inl LE)), ((bd 10), .inl (cI, 30, .inl AA)), ((bd 11), .inl (cI, 30, .inl RI)), ((bd 12), .inl (cI, 10, .inl UN)), ((bd 13), .inl (cZ, 30, .inl CO))] s.heap := hP
  have hD : va_D A [((bd 0), .inr (4, [.int th, .ref (bd 1), .ref (bd 2), .ref (bd 3), .ref (bd 4), .int (nI n), .ref (bd 5), .ref (bd 6), .ref (bd 7), .ref (bd 8), .ref (bd 9), .ref (bd 10), .ref (bd 11), .ref (bd 12), .ref (bd 13), .int (nI unk), .int (nI cnt)])), ((bd 1), .inl (cI, 120, .inl K)), ((bd 2), .inl (cI, 120, .inl F)), ((bd 3), .inl (cI, 120, .inl S)), ((bd 4), .inl (cI, 120, .inl DD)), ((bd 5), .inl (cI, 5, .inl NU)), ((bd 6), .inl (cI, 120, .inl VA)), ((bd 7), .inl (cI, 120, .inl BE)), ((bd 8), .inl (cI, 128, .inl WA)), ((bd 9), .inl (cI, 30, .inl LE)), ((bd 10), .inl (cI, 30, .inl AA)), ((bd 11), .inl (cI, 30, .inl RI)), ((bd 12), .inl (cI, 10, .inl UN)), ((bd 13), .inl (cZ, 30, .inl CO))] := hD
  have hA0 := hA
  refine lv_aload_n hx hb d_Mo_undo_0 rfl (lv_at hl 0 rfl) ?_
  refine lv_iconst (v := 0) hx hb d_Mo_undo_1 (by decide) ?_
  refine va_put (D := (dC, dI)) (ci := 4) (v := .int 0) (ty := .int) (C := R_Mo) (T := F_Mo) (N := 17) hx hb htb ul_Mo t_Mo t_Mo_ok n_Mo hown hK hP hD hS 0 rfl rfl 0 (by decide) (htb _ mw_548) (fun _ h9 => h9) rfl (by decide +kernel) rfl rfl (Nat.le_of_ble_eq_true rfl) d_Mo_undo_2 (fun H locs hP hD hS => ?_)
  have hP : va_P (dC, dI) classes [((bd 0), .inr (4, [.int 0, .ref (bd 1), .ref (bd 2), .ref (bd 3), .ref (bd 4), .int (nI n), .ref (bd 5), .ref (bd 6), .ref (bd 7), .ref (bd 8), .ref (bd 9), .ref (bd 10), .ref (bd 11), .ref (bd 12), .ref (bd 13), .int (nI unk), .int (nI cnt)])), ((bd 1), .inl (cI, 120, .inl K)), ((bd 2), .inl (cI, 120, .inl F)), ((bd 3), .inl (cI, 120, .inl S)), ((bd 4), .inl (cI, 120, .inl DD)), ((bd 5), .inl (cI, 5, .inl NU)), ((bd 6), .inl (cI, 120, .inl VA)), ((bd 7), .inl (cI, 120, .inl BE)), ((bd 8), .inl (cI, 128, .inl WA)), ((bd 9), .inl (cI, 30, .inl LE)), ((bd 10), .inl (cI, 30, .inl AA)), ((bd 11), .inl (cI, 30, .inl RI)), ((bd 12), .inl (cI, 10, .inl UN)), ((bd 13), .inl (cZ, 30, .inl CO))] H := hP
  have hD : va_D A [((bd 0), .inr (4, [.int 0, .ref (bd 1), .ref (bd 2), .ref (bd 3), .ref (bd 4), .int (nI n), .ref (bd 5), .ref (bd 6), .ref (bd 7), .ref (bd 8), .ref (bd 9), .ref (bd 10), .ref (bd 11), .ref (bd 12), .ref (bd 13), .int (nI unk), .int (nI cnt)])), ((bd 1), .inl (cI, 120, .inl K)), ((bd 2), .inl (cI, 120, .inl F)), ((bd 3), .inl (cI, 120, .inl S)), ((bd 4), .inl (cI, 120, .inl DD)), ((bd 5), .inl (cI, 5, .inl NU)), ((bd 6), .inl (cI, 120, .inl VA)), ((bd 7), .inl (cI, 120, .inl BE)), ((bd 8), .inl (cI, 128, .inl WA)), ((bd 9), .inl (cI, 30, .inl LE)), ((bd 10), .inl (cI, 30, .inl AA)), ((bd 11), .inl (cI, 30, .inl RI)), ((bd 12), .inl (cI, 10, .inl UN)), ((bd 13), .inl (cZ, 30, .inl CO))] := hD
  refine lv_aload_n hx hb d_Mo_undo_5 rfl (lv_at hl 0 rfl) ?_
  refine va_get (D := (dC, dI)) (ci := 4) (v := .int (nI cnt)) (C := R_Mo) (T := F_Mo) (N := 17) hx hb htb ul_Mo hown hK hP 0 rfl rfl 16 (by decide) (htb _ mw_564) (fun _ h9 => h9) rfl d_Mo_undo_6 ?_
  refine lv_if_le (tgt := 16) hx hb d_Mo_undo_9 (by decide) (fun c_9 => ?_) (fun c_9 => ?_)
  · have hc0 : cnt = 0 := by rcases Nat.eq_zero_or_pos cnt with z | z; exact z; exact absurd c_9 (nI_nle z (by omega))
    refine lv_iconst (v := 0) hx hb d_Mo_undo_16 (by decide) ?_
    refine lv_istore_n (lv' := [(1, .int 0), (0, .ref (bd 0))]) hx hb d_Mo_undo_17 rfl hl (by decide) rfl (fun ls hl => ?_)
    refine lv_aload_n hx hb d_Mo_undo_18 rfl (lv_at hl 1 rfl) ?_
    refine lv_dup hx hb d_Mo_undo_19 rfl ?_
    refine va_get (D := (dC, dI)) (ci := 4) (v := .int (nI cnt)) (C := R_Mo) (T := F_Mo) (N := 17) hx hb htb ul_Mo hown hK hP 0 rfl rfl 16 (by decide) (htb _ mw_564) (fun _ h9 => h9) rfl d_Mo_undo_20 ?_
    refine lv_iload_n hx hb d_Mo_undo_23 rfl (lv_at hl 0 rfl) ?_
    refine lv_if_eq (tgt := 31) hx hb d_Mo_undo_24 (by decide) (fun c_24 => ?_) (fun c_24 => ?_)
    · refine lv_iconst (v := 0) hx hb d_Mo_undo_31 (by decide) ?_
      refine lv_isub hx hb d_Mo_undo_32 ?_
      rw [show (nI cnt - 0 : Int32) = nI (cnt - 1) from by rw [Int32.sub_zero, show cnt - 1 = cnt from by omega]]
      refine va_put (D := (dC, dI)) (ci := 4) (v := .int (nI (cnt - 1))) (ty := .int) (C := R_Mo) (T := F_Mo) (N := 17) hx hb htb ul_Mo t_Mo t_Mo_ok n_Mo hown hK hP hD hS 0 rfl rfl 16 (by decide) (htb _ mw_564) (fun _ h9 => h9) rfl (by decide +kernel) rfl rfl (Nat.le_of_ble_eq_true rfl) d_Mo_undo_33 (fun H locs hP hD hS => ?_)
      have hP : va_P (dC, dI) classes [((bd 0), .inr (4, [.int 0, .ref (bd 1), .ref (bd 2), .ref (bd 3), .ref (bd 4), .int (nI n), .ref (bd 5), .ref (bd 6), .ref (bd 7), .ref (bd 8), .ref (bd 9), .ref (bd 10), .ref (bd 11), .ref (bd 12), .ref (bd 13), .int (nI unk), .int (nI (cnt - 1))])), ((bd 1), .inl (cI, 120, .inl K)), ((bd 2), .inl (cI, 120, .inl F)), ((bd 3), .inl (cI, 120, .inl S)), ((bd 4), .inl (cI, 120, .inl DD)), ((bd 5), .inl (cI, 5, .inl NU)), ((bd 6), .inl (cI, 120, .inl VA)), ((bd 7), .inl (cI, 120, .inl BE)), ((bd 8), .inl (cI, 128, .inl WA)), ((bd 9), .inl (cI, 30, .inl LE)), ((bd 10), .inl (cI, 30, .inl AA)), ((bd 11), .inl (cI, 30, .inl RI)), ((bd 12), .inl (cI, 10, .inl UN)), ((bd 13), .inl (cZ, 30, .inl CO))] H := hP
      have hD : va_D A [((bd 0), .inr (4, [.int 0, .ref (bd 1), .ref (bd 2), .ref (bd 3), .ref (bd 4), .int (nI n), .ref (bd 5), .ref (bd 6), .ref (bd 7), .ref (bd 8), .ref (bd 9), .ref (bd 10), .ref (bd 11), .ref (bd 12), .ref (bd 13), .int (nI unk), .int (nI (cnt - 1))])), ((bd 1), .inl (cI, 120, .inl K)), ((bd 2), .inl (cI, 120, .inl F)), ((bd 3), .inl (cI, 120, .inl S)), ((bd 4), .inl (cI, 120, .inl DD)), ((bd 5), .inl (cI, 5, .inl NU)), ((bd 6), .inl (cI, 120, .inl VA)), ((bd 7), .inl (cI, 120, .inl BE)), ((bd 8), .inl (cI, 128, .inl WA)), ((bd 9), .inl (cI, 30, .inl LE)), ((bd 10), .inl (cI, 30, .inl AA)), ((bd 11), .inl (cI, 30, .inl RI)), ((bd 12), .inl (cI, 10, .inl UN)), ((bd 13), .inl (cZ, 30, .inl CO))] := hD
      refine lv_iload_n hx hb d_Mo_undo_36 rfl (lv_at hl 0 rfl) ?_
      exact W.zret (v := 0) hx hb hr rfl (fun t ht hW => ⟨⟨0, (), rfl, (by rw [if_pos hc0]), by rw [ht]; exact hP, va_K.moved hW.alike hK, hD⟩, hS.F ht⟩) hS.2.2 d_Mo_undo_37
    · exact absurd rfl c_24
  · have hc0 : ¬ cnt = 0 := fun z => c_9 (by rw [z]; decide)
    refine lv_iconst (v := 1) hx hb d_Mo_undo_12 (by decide) ?_
    refine lv_goto (tgt := 17) hx hb d_Mo_undo_13 (by decide) ?_
    refine lv_istore_n (lv' := [(1, .int 1), (0, .ref (bd 0))]) hx hb d_Mo_undo_17 rfl hl (by decide) rfl (fun ls hl => ?_)
    refine lv_aload_n hx hb d_Mo_undo_18 rfl (lv_at hl 1 rfl) ?_
    refine lv_dup hx hb d_Mo_undo_19 rfl ?_
    refine va_get (D := (dC, dI)) (ci := 4) (v := .int (nI cnt)) (C := R_Mo) (T := F_Mo) (N := 17) hx hb htb ul_Mo hown hK hP 0 rfl rfl 16 (by decide) (htb _ mw_564) (fun _ h9 => h9) rfl d_Mo_undo_20 ?_
    refine lv_iload_n hx hb d_Mo_undo_23 rfl (lv_at hl 0 rfl) ?_
    refine lv_if_eq (tgt := 31) hx hb d_Mo_undo_24 (by decide) (fun c_24 => ?_) (fun c_24 => ?_)
    · exact absurd c_24 (by decide)
    · refine lv_iconst (v := 1) hx hb d_Mo_undo_27 (by decide) ?_
      refine lv_goto (tgt := 32) hx hb d_Mo_undo_28 (by decide) ?_
      refine lv_isub hx hb d_Mo_undo_32 ?_
      rw [show (nI cnt - 1 : Int32) = nI (cnt - 1) from pk_sub (a := cnt) (b := 1) (by omega)]
      refine va_put (D := (dC, dI)) (ci := 4) (v := .int (nI (cnt - 1))) (ty := .int) (C := R_Mo) (T := F_Mo) (N := 17) hx hb htb ul_Mo t_Mo t_Mo_ok n_Mo hown hK hP hD hS 0 rfl rfl 16 (by decide) (htb _ mw_564) (fun _ h9 => h9) rfl (by decide +kernel) rfl rfl (Nat.le_of_ble_eq_true rfl) d_Mo_undo_33 (fun H locs hP hD hS => ?_)
      have hP : va_P (dC, dI) classes [((bd 0), .inr (4, [.int 0, .ref (bd 1), .ref (bd 2), .ref (bd 3), .ref (bd 4), .int (nI n), .ref (bd 5), .ref (bd 6), .ref (bd 7), .ref (bd 8), .ref (bd 9), .ref (bd 10), .ref (bd 11), .ref (bd 12), .ref (bd 13), .int (nI unk), .int (nI (cnt - 1))])), ((bd 1), .inl (cI, 120, .inl K)), ((bd 2), .inl (cI, 120, .inl F)), ((bd 3), .inl (cI, 120, .inl S)), ((bd 4), .inl (cI, 120, .inl DD)), ((bd 5), .inl (cI, 5, .inl NU)), ((bd 6), .inl (cI, 120, .inl VA)), ((bd 7), .inl (cI, 120, .inl BE)), ((bd 8), .inl (cI, 128, .inl WA)), ((bd 9), .inl (cI, 30, .inl LE)), ((bd 10), .inl (cI, 30, .inl AA)), ((bd 11), .inl (cI, 30, .inl RI)), ((bd 12), .inl (cI, 10, .inl UN)), ((bd 13), .inl (cZ, 30, .inl CO))] H := hP
      have hD : va_D A [((bd 0), .inr (4, [.int 0, .ref (bd 1), .ref (bd 2), .ref (bd 3), .ref (bd 4), .int (nI n), .ref (bd 5), .ref (bd 6), .ref (bd 7), .ref (bd 8), .ref (bd 9), .ref (bd 10), .ref (bd 11), .ref (bd 12), .ref (bd 13), .int (nI unk), .int (nI (cnt - 1))])), ((bd 1), .inl (cI, 120, .inl K)), ((bd 2), .inl (cI, 120, .inl F)), ((bd 3), .inl (cI, 120, .inl S)), ((bd 4), .inl (cI, 120, .inl DD)), ((bd 5), .inl (cI, 5, .inl NU)), ((bd 6), .inl (cI, 120, .inl VA)), ((bd 7), .inl (cI, 120, .inl BE)), ((bd 8), .inl (cI, 128, .inl WA)), ((bd 9), .inl (cI, 30, .inl LE)), ((bd 10), .inl (cI, 30, .inl AA)), ((bd 11), .inl (cI, 30, .inl RI)), ((bd 12), .inl (cI, 10, .inl UN)), ((bd 13), .inl (cZ, 30, .inl CO))] := hD
      refine lv_iload_n hx hb d_Mo_undo_36 rfl (lv_at hl 0 rfl) ?_
      exact W.zret (v := 1) hx hb hr rfl (fun t ht hW => ⟨⟨1, (), rfl, (by rw [if_neg hc0]), by rw [ht]; exact hP, va_K.moved hW.alike hK, hD⟩, hS.F ht⟩) hS.2.2 d_Mo_undo_37

set_option maxHeartbeats 4000000 in
set_option maxRecDepth 100000 in
theorem c0_Mo_unknown (l : Launch) (dC : Nat → ClassId) (dI : Nat → Nat → Nat) (cI cL cZ : ClassId) (bd : Nat → Nat) (th : Int32) (K F S DD : Nat → Int32) (n : Nat) (NU VA BE WA LE AA RI UN CO : Nat → Int32) (unk cnt : Nat) (hn : n ≤ 120) (hunk : unk ≤ 10) (hcnt : cnt ≤ 30) (h0 : unk = 10) (sz : Nat) : Met l y_Mo_unknown (cw_Mo_unknown :: tb) (rmH 2 0 0) (va_Pc [.ref (bd 0)] (wy_P (dC, dI) classes (wMo cI cZ bd th K F S DD n NU VA BE WA LE AA RI UN CO unk cnt) (tyI cI cL cZ) sz)) (wy_Q ry_i (fun r (u : Unit) => r = 0) (wy_B (dC, dI) classes (tyI cI cL cZ) (va_A (wMo cI cZ bd th K F S DD n NU VA BE WA LE AA RI UN CO unk cnt) sz) (fun u : Unit => (wMo cI cZ bd 1 K F S DD n NU VA BE WA LE AA RI UN CO unk cnt))) (va_A (wMo cI cZ bd th K F S DD n NU VA BE WA LE AA RI UN CO unk cnt) sz)) 0 0 (va_A (wMo cI cZ bd th K F S DD n NU VA BE WA LE AA RI UN CO unk cnt) sz) := by
  refine Met.ofW (cc := b_Mo_unknown) (maxL := 1) (ret := (some .int)) (by decide +kernel) rfl ?_
  intro p e s m args below meth c s₁ B hml0 hv
  have C0 := cx_of B hml0 rfl
  obtain ⟨hx, hb, hr, hml, hown, htb, hlocks⟩ := id C0
  obtain ⟨rfl, hsz, hP, hK, hD0⟩ := hv
  subst hsz
  have hD := hD0.self (sz := s.heap.size)
  generalize hAe : va_A (wMo cI cZ bd th K F S DD n NU VA BE WA LE AA RI UN CO unk cnt) s.heap.size = A at hD ⊢
  have hA : ∀ q : Nat, s.heap.size ≤ q → A q := fun q h => by rw [← hAe]; exact Or.inr h
  have hS : va_S A s.heap s.heap [] := va_S.rf
  have hl := lv_entry ([.ref (bd 0)]) (n := 1) (Nat.le_of_ble_eq_true rfl)
  rw [lg_entry_eq]
  generalize (lg_sl ([.ref (bd 0)]) ++ List.replicate (1 - (lg_sl ([.ref (bd 0)])).length) Slot.unset).toArray = ls at hl ⊢
  have hl : lv_has ls 1 [(0, .ref (bd 0))] := hl
  have hP : va_P (dC, dI) classes [((bd 0), .inr (4, [.int th, .ref (bd 1), .ref (bd 2), .ref (bd 3), .ref (bd 4), .int (nI n), .ref (bd 5), .ref (bd 6), .ref (bd 7), .ref (bd 8), .ref (bd 9), .ref (bd 10), .ref (bd 11), .ref (bd 12), .ref (bd 13), .int (nI unk), .int (nI cnt)])), ((bd 1), .inl (cI, 120, .inl K)), ((bd 2), .inl (cI, 120, .inl F)), ((bd 3), .inl (cI, 120, .inl S)), ((bd 4), .inl (cI, 120, .inl DD)), ((bd 5), .inl (cI, 5, .inl NU)), ((bd 6), .inl (cI, 120, .inl VA)), ((bd 7), .inl (cI, 120, .inl BE)), ((bd 8), .inl (cI, 128, .inl WA)), ((bd 9), .inl (cI, 30, .inl LE)), ((bd 10), .inl (cI, 30, .inl AA)), ((bd 11), .inl (cI, 30, .inl RI)), ((bd 12), .inl (cI, 10, .inl UN)), ((bd 13), .inl (cZ, 30, .inl CO))] s.heap := hP
  have hD : va_D A [((bd 0), .inr (4, [.int th, .ref (bd 1), .ref (bd 2), .ref (bd 3), .ref (bd 4), .int (nI n), .ref (bd 5), .ref (bd 6), .ref (bd 7), .ref (bd 8), .ref (bd 9), .ref (bd 10), .ref (bd 11), .ref (bd 12), .ref (bd 13), .int (nI unk), .int (nI cnt)])), ((bd 1), .inl (cI, 120, .inl K)), ((bd 2), .inl (cI, 120, .inl F)), ((bd 3), .inl (cI, 120, .inl S)), ((bd 4), .inl (cI, 120, .inl DD)), ((bd 5), .inl (cI, 5, .inl NU)), ((bd 6), .inl (cI, 120, .inl VA)), ((bd 7), .inl (cI, 120, .inl BE)), ((bd 8), .inl (cI, 128, .inl WA)), ((bd 9), .inl (cI, 30, .inl LE)), ((bd 10), .inl (cI, 30, .inl AA)), ((bd 11), .inl (cI, 30, .inl RI)), ((bd 12), .inl (cI, 10, .inl UN)), ((bd 13), .inl (cZ, 30, .inl CO))] := hD
  have hA0 := hA
  refine lv_aload_n hx hb d_Mo_unknown_0 rfl (lv_at hl 0 rfl) ?_
  refine lv_aload_n hx hb d_Mo_unknown_1 rfl (lv_at hl 0 rfl) ?_
  refine va_get (D := (dC, dI)) (ci := 4) (v := .int (nI unk)) (C := R_Mo) (T := F_Mo) (N := 17) hx hb htb ul_Mo hown hK hP 0 rfl rfl 15 (by decide) (htb _ mw_563) (fun _ h9 => h9) rfl d_Mo_unknown_2 ?_
  refine lv_bipush (v := 10) hx hb d_Mo_unknown_5 (by decide) ?_
  refine lv_icmp_ne (tgt := 14) hx hb d_Mo_unknown_7 (by decide) (fun c_7 => ?_) (fun c_7 => ?_)
  · exact absurd (by rw [h0]; rfl) c_7
  · refine lv_iconst (v := 1) hx hb d_Mo_unknown_10 (by decide) ?_
    refine lv_goto (tgt := 15) hx hb d_Mo_unknown_11 (by decide) ?_
    refine wy_callV (n := 1) (wr := []) (As := [.int 1]) (rest := []) ⟨hx, hb, hml, hown, htb⟩ (c_Mo_refuses l dC dI cI cL cZ bd th K F S DD n NU VA BE WA LE AA RI UN CO unk cnt hn hunk hcnt 1 s.heap.size) (gV mw_620 mw_622 mp_19 mw_5 mc_Mo_refuses) rfl rfl (by decide +kernel) ⟨Nat.le_of_ble_eq_true rfl, Nat.le_of_ble_eq_true rfl⟩ hP hD hS hA hK [0, 1, 2, 3, 4, 5, 6, 7, 8, 9, 10, 11, 12, 13] [] rfl rfl (by decide) (by decide) (hP.sub [0, 1, 2, 3, 4, 5, 6, 7, 8, 9, 10, 11, 12, 13] rfl) ((hD.sub [0, 1, 2, 3, 4, 5, 6, 7, 8, 9, 10, 11, 12, 13] (by decide) rfl).weaken (fun _ _ _ _ => trivial)) (ci := 4) (q0 := 0) rfl rfl rfl rfl hl.1 rfl (Nat.le_of_ble_eq_true rfl) d_Mo_unknown_15 ⟨Nat.le_of_ble_eq_true rfl, Nat.le_of_ble_eq_true rfl⟩ (fun r u H locs hpost hP hD hS => ?_)
    subst hpost
    have hP : va_P (dC, dI) classes [((bd 0), .inr (4, [.int 1, .ref (bd 1), .ref (bd 2), .ref (bd 3), .ref (bd 4), .int (nI n), .ref (bd 5), .ref (bd 6), .ref (bd 7), .ref (bd 8), .ref (bd 9), .ref (bd 10), .ref (bd 11), .ref (bd 12), .ref (bd 13), .int (nI unk), .int (nI cnt)])), ((bd 1), .inl (cI, 120, .inl K)), ((bd 2), .inl (cI, 120, .inl F)), ((bd 3), .inl (cI, 120, .inl S)), ((bd 4), .inl (cI, 120, .inl DD)), ((bd 5), .inl (cI, 5, .inl NU)), ((bd 6), .inl (cI, 120, .inl VA)), ((bd 7), .inl (cI, 120, .inl BE)), ((bd 8), .inl (cI, 128, .inl WA)), ((bd 9), .inl (cI, 30, .inl LE)), ((bd 10), .inl (cI, 30, .inl AA)), ((bd 11), .inl (cI, 30, .inl RI)), ((bd 12), .inl (cI, 10, .inl UN)), ((bd 13), .inl (cZ, 30, .inl CO))] H := hP
    have hD : va_D A [((bd 0), .inr (4, [.int 1, .ref (bd 1), .ref (bd 2), .ref (bd 3), .ref (bd 4), .int (nI n), .ref (bd 5), .ref (bd 6), .ref (bd 7), .ref (bd 8), .ref (bd 9), .ref (bd 10), .ref (bd 11), .ref (bd 12), .ref (bd 13), .int (nI unk), .int (nI cnt)])), ((bd 1), .inl (cI, 120, .inl K)), ((bd 2), .inl (cI, 120, .inl F)), ((bd 3), .inl (cI, 120, .inl S)), ((bd 4), .inl (cI, 120, .inl DD)), ((bd 5), .inl (cI, 5, .inl NU)), ((bd 6), .inl (cI, 120, .inl VA)), ((bd 7), .inl (cI, 120, .inl BE)), ((bd 8), .inl (cI, 128, .inl WA)), ((bd 9), .inl (cI, 30, .inl LE)), ((bd 10), .inl (cI, 30, .inl AA)), ((bd 11), .inl (cI, 30, .inl RI)), ((bd 12), .inl (cI, 10, .inl UN)), ((bd 13), .inl (cZ, 30, .inl CO))] := hD
    refine W.eq (g2 := F0 m 18 ls [.int (if 1 ≤ 0 then 0 else 1)]) rfl ?_
    refine lv_if_eq (tgt := 23) hx hb d_Mo_unknown_18 (by decide) (fun c_18 => ?_) (fun c_18 => ?_)
    · exact absurd c_18 (by decide)
    · refine lv_iconst (v := 0) hx hb d_Mo_unknown_21 (by decide) ?_
      exact W.iret (v := 0) hx hb hr (fun t ht hW => ⟨⟨0, (), rfl, rfl, by rw [ht]; exact hP, va_K.moved hW.alike hK, hD⟩, hS.F ht⟩) hS.2.2 d_Mo_unknown_22

set_option maxHeartbeats 4000000 in
set_option maxRecDepth 100000 in
theorem c_Mo_unknown (l : Launch) (dC : Nat → ClassId) (dI : Nat → Nat → Nat) (cI cL cZ : ClassId) (bd : Nat → Nat) (th : Int32) (K F S DD : Nat → Int32) (n : Nat) (NU VA BE WA LE AA RI UN CO : Nat → Int32) (unk cnt : Nat) (hn : n ≤ 120) (hunk : unk ≤ 10) (hcnt : cnt ≤ 30) (h0 : ¬ unk = 10) (sz : Nat) : Met l y_Mo_unknown (cw_Mo_unknown :: tb) (rmH 2 0 0) (va_Pc [.ref (bd 0)] (wy_P (dC, dI) classes (wMo cI cZ bd th K F S DD n NU VA BE WA LE AA RI UN CO unk cnt) (tyI cI cL cZ) sz)) (wy_Q ry_i (fun r (u : Unit) => r = nI unk) (wy_B (dC, dI) classes (tyI cI cL cZ) (va_A (wMo cI cZ bd th K F S DD n NU VA BE WA LE AA RI UN CO unk cnt) sz) (fun u : Unit => (wMo cI cZ bd 0 K F S DD n NU VA BE WA LE AA RI UN CO (unk + 1) cnt))) (va_A (wMo cI cZ bd th K F S DD n NU VA BE WA LE AA RI UN CO unk cnt) sz)) 0 0 (va_A (wMo cI cZ bd th K F S DD n NU VA BE WA LE AA RI UN CO unk cnt) sz) := by
  refine Met.ofW (cc := b_Mo_unknown) (maxL := 1) (ret := (some .int)) (by decide +kernel) rfl ?_
  intro p e s m args below meth c s₁ B hml0 hv
  have C0 := cx_of B hml0 rfl
  obtain ⟨hx, hb, hr, hml, hown, htb, hlocks⟩ := id C0
  obtain ⟨rfl, hsz, hP, hK, hD0⟩ := hv
  subst hsz
  have hD := hD0.self (sz := s.heap.size)
  generalize hAe : va_A (wMo cI cZ bd th K F S DD n NU VA BE WA LE AA RI UN CO unk cnt) s.heap.size = A at hD ⊢
  have hA : ∀ q : Nat, s.heap.size ≤ q → A q := fun q h => by rw [← hAe]; exact Or.inr h
  have hS : va_S A s.heap s.heap [] := va_S.rf
  have hl := lv_entry ([.ref (bd 0)]) (n := 1) (Nat.le_of_ble_eq_true rfl)
  rw [lg_entry_eq]
  generalize (lg_sl ([.ref (bd 0)]) ++ List.replicate (1 - (lg_sl ([.ref (bd 0)])).length) Slot.unset).toArray = ls at hl ⊢
  have hl : lv_has ls 1 [(0, .ref (bd 0))] := hl
  have hP : va_P (dC, dI) classes [((bd 0), .inr (4, [.int th, .ref (bd 1), .ref (bd 2), .ref (bd 3), .ref (bd 4), .int (nI n), .ref (bd 5), .ref (bd 6), .ref (bd 7), .ref (bd 8), .ref (bd 9), .ref (bd 10), .ref (bd 11), .ref (bd 12), .ref (bd 13), .int (nI unk), .int (nI cnt)])), ((bd 1), .inl (cI, 120, .inl K)), ((bd 2), .inl (cI, 120, .inl F)), ((bd 3), .inl (cI, 120, .inl S)), ((bd 4), .inl (cI, 120, .inl DD)), ((bd 5), .inl (cI, 5, .inl NU)), ((bd 6), .inl (cI, 120, .inl VA)), ((bd 7), .inl (cI, 120, .inl BE)), ((bd 8), .inl (cI, 128, .inl WA)), ((bd 9), .inl (cI, 30, .inl LE)), ((bd 10), .inl (cI, 30, .inl AA)), ((bd 11), .inl (cI, 30, .inl RI)), ((bd 12), .inl (cI, 10, .inl UN)), ((bd 13), .inl (cZ, 30, .inl CO))] s.heap := hP
  have hD : va_D A [((bd 0), .inr (4, [.int th, .ref (bd 1), .ref (bd 2), .ref (bd 3), .ref (bd 4), .int (nI n), .ref (bd 5), .ref (bd 6), .ref (bd 7), .ref (bd 8), .ref (bd 9), .ref (bd 10), .ref (bd 11), .ref (bd 12), .ref (bd 13), .int (nI unk), .int (nI cnt)])), ((bd 1), .inl (cI, 120, .inl K)), ((bd 2), .inl (cI, 120, .inl F)), ((bd 3), .inl (cI, 120, .inl S)), ((bd 4), .inl (cI, 120, .inl DD)), ((bd 5), .inl (cI, 5, .inl NU)), ((bd 6), .inl (cI, 120, .inl VA)), ((bd 7), .inl (cI, 120, .inl BE)), ((bd 8), .inl (cI, 128, .inl WA)), ((bd 9), .inl (cI, 30, .inl LE)), ((bd 10), .inl (cI, 30, .inl AA)), ((bd 11), .inl (cI, 30, .inl RI)), ((bd 12), .inl (cI, 10, .inl UN)), ((bd 13), .inl (cZ, 30, .inl CO))] := hD
  have hA0 := hA
  refine lv_aload_n hx hb d_Mo_unknown_0 rfl (lv_at hl 0 rfl) ?_
  refine lv_aload_n hx hb d_Mo_unknown_1 rfl (lv_at hl 0 rfl) ?_
  refine va_get (D := (dC, dI)) (ci := 4) (v := .int (nI unk)) (C := R_Mo) (T := F_Mo) (N := 17) hx hb htb ul_Mo hown hK hP 0 rfl rfl 15 (by decide) (htb _ mw_563) (fun _ h9 => h9) rfl d_Mo_unknown_2 ?_
  refine lv_bipush (v := 10) hx hb d_Mo_unknown_5 (by decide) ?_
  refine lv_icmp_ne (tgt := 14) hx hb d_Mo_unknown_7 (by decide) (fun c_7 => ?_) (fun c_7 => ?_)
  · refine lv_iconst (v := 0) hx hb d_Mo_unknown_14 (by decide) ?_
    refine wy_callV (n := 1) (wr := []) (As := [.int 0]) (rest := []) ⟨hx, hb, hml, hown, htb⟩ (c_Mo_refuses l dC dI cI cL cZ bd th K F S DD n NU VA BE WA LE AA RI UN CO unk cnt hn hunk hcnt 0 s.heap.size) (gV mw_620 mw_622 mp_19 mw_5 mc_Mo_refuses) rfl rfl (by decide +kernel) ⟨Nat.le_of_ble_eq_true rfl, Nat.le_of_ble_eq_true rfl⟩ hP hD hS hA hK [0, 1, 2, 3, 4, 5, 6, 7, 8, 9, 10, 11, 12, 13] [] rfl rfl (by decide) (by decide) (hP.sub [0, 1, 2, 3, 4, 5, 6, 7, 8, 9, 10, 11, 12, 13] rfl) ((hD.sub [0, 1, 2, 3, 4, 5, 6, 7, 8, 9, 10, 11, 12, 13] (by decide) rfl).weaken (fun _ _ _ _ => trivial)) (ci := 4) (q0 := 0) rfl rfl rfl rfl hl.1 rfl (Nat.le_of_ble_eq_true rfl) d_Mo_unknown_15 ⟨Nat.le_of_ble_eq_true rfl, Nat.le_of_ble_eq_true rfl⟩ (fun r u H locs hpost hP hD hS => ?_)
    subst hpost
    have hP : va_P (dC, dI) classes [((bd 0), .inr (4, [.int 0, .ref (bd 1), .ref (bd 2), .ref (bd 3), .ref (bd 4), .int (nI n), .ref (bd 5), .ref (bd 6), .ref (bd 7), .ref (bd 8), .ref (bd 9), .ref (bd 10), .ref (bd 11), .ref (bd 12), .ref (bd 13), .int (nI unk), .int (nI cnt)])), ((bd 1), .inl (cI, 120, .inl K)), ((bd 2), .inl (cI, 120, .inl F)), ((bd 3), .inl (cI, 120, .inl S)), ((bd 4), .inl (cI, 120, .inl DD)), ((bd 5), .inl (cI, 5, .inl NU)), ((bd 6), .inl (cI, 120, .inl VA)), ((bd 7), .inl (cI, 120, .inl BE)), ((bd 8), .inl (cI, 128, .inl WA)), ((bd 9), .inl (cI, 30, .inl LE)), ((bd 10), .inl (cI, 30, .inl AA)), ((bd 11), .inl (cI, 30, .inl RI)), ((bd 12), .inl (cI, 10, .inl UN)), ((bd 13), .inl (cZ, 30, .inl CO))] H := hP
    have hD : va_D A [((bd 0), .inr (4, [.int 0, .ref (bd 1), .ref (bd 2), .ref (bd 3), .ref (bd 4), .int (nI n), .ref (bd 5), .ref (bd 6), .ref (bd 7), .ref (bd 8), .ref (bd 9), .ref (bd 10), .ref (bd 11), .ref (bd 12), .ref (bd 13), .int (nI unk), .int (nI cnt)])), ((bd 1), .inl (cI, 120, .inl K)), ((bd 2), .inl (cI, 120, .inl F)), ((bd 3), .inl (cI, 120, .inl S)), ((bd 4), .inl (cI, 120, .inl DD)), ((bd 5), .inl (cI, 5, .inl NU)), ((bd 6), .inl (cI, 120, .inl VA)), ((bd 7), .inl (cI, 120, .inl BE)), ((bd 8), .inl (cI, 128, .inl WA)), ((bd 9), .inl (cI, 30, .inl LE)), ((bd 10), .inl (cI, 30, .inl AA)), ((bd 11), .inl (cI, 30, .inl RI)), ((bd 12), .inl (cI, 10, .inl UN)), ((bd 13), .inl (cZ, 30, .inl CO))] := hD
    refine W.eq (g2 := F0 m 18 ls [.int (if 0 ≤ 0 then 0 else 1)]) rfl ?_
    refine lv_if_eq (tgt := 23) hx hb d_Mo_unknown_18 (by decide) (fun c_18 => ?_) (fun c_18 => ?_)
    · refine lv_aload_n hx hb d_Mo_unknown_23 rfl (lv_at hl 0 rfl) ?_
      refine lv_dup hx hb d_Mo_unknown_24 rfl ?_
      refine va_get (D := (dC, dI)) (ci := 4) (v := .int (nI unk)) (C := R_Mo) (T := F_Mo) (N := 17) hx hb htb ul_Mo hown hK hP 0 rfl rfl 15 (by decide) (htb _ mw_563) (fun _ h9 => h9) rfl d_Mo_unknown_25 ?_
      refine lv_iconst (v := 1) hx hb d_Mo_unknown_28 (by decide) ?_
      refine lv_iadd hx hb d_Mo_unknown_29 ?_
      rw [nI_1]
      refine va_put (D := (dC, dI)) (ci := 4) (v := .int (nI (unk + 1))) (ty := .int) (C := R_Mo) (T := F_Mo) (N := 17) hx hb htb ul_Mo t_Mo t_Mo_ok n_Mo hown hK hP hD hS 0 rfl rfl 15 (by decide) (htb _ mw_563) (fun _ h9 => h9) rfl (by decide +kernel) rfl rfl (Nat.le_of_ble_eq_true rfl) d_Mo_unknown_30 (fun H locs hP hD hS => ?_)
      have hP : va_P (dC, dI) classes [((bd 0), .inr (4, [.int 0, .ref (bd 1), .ref (bd 2), .ref (bd 3), .ref (bd 4), .int (nI n), .ref (bd 5), .ref (bd 6), .ref (bd 7), .ref (bd 8), .ref (bd 9), .ref (bd 10), .ref (bd 11), .ref (bd 12), .ref (bd 13), .int (nI (unk + 1)), .int (nI cnt)])), ((bd 1), .inl (cI, 120, .inl K)), ((bd 2), .inl (cI, 120, .inl F)), ((bd 3), .inl (cI, 120, .inl S)), ((bd 4), .inl (cI, 120, .inl DD)), ((bd 5), .inl (cI, 5, .inl NU)), ((bd 6), .inl (cI, 120, .inl VA)), ((bd 7), .inl (cI, 120, .inl BE)), ((bd 8), .inl (cI, 128, .inl WA)), ((bd 9), .inl (cI, 30, .inl LE)), ((bd 10), .inl (cI, 30, .inl AA)), ((bd 11), .inl (cI, 30, .inl RI)), ((bd 12), .inl (cI, 10, .inl UN)), ((bd 13), .inl (cZ, 30, .inl CO))] H := hP
      have hD : va_D A [((bd 0), .inr (4, [.int 0, .ref (bd 1), .ref (bd 2), .ref (bd 3), .ref (bd 4), .int (nI n), .ref (bd 5), .ref (bd 6), .ref (bd 7), .ref (bd 8), .ref (bd 9), .ref (bd 10), .ref (bd 11), .ref (bd 12), .ref (bd 13), .int (nI (unk + 1)), .int (nI cnt)])), ((bd 1), .inl (cI, 120, .inl K)), ((bd 2), .inl (cI, 120, .inl F)), ((bd 3), .inl (cI, 120, .inl S)), ((bd 4), .inl (cI, 120, .inl DD)), ((bd 5), .inl (cI, 5, .inl NU)), ((bd 6), .inl (cI, 120, .inl VA)), ((bd 7), .inl (cI, 120, .inl BE)), ((bd 8), .inl (cI, 128, .inl WA)), ((bd 9), .inl (cI, 30, .inl LE)), ((bd 10), .inl (cI, 30, .inl AA)), ((bd 11), .inl (cI, 30, .inl RI)), ((bd 12), .inl (cI, 10, .inl UN)), ((bd 13), .inl (cZ, 30, .inl CO))] := hD
      refine lv_aload_n hx hb d_Mo_unknown_33 rfl (lv_at hl 0 rfl) ?_
      refine va_get (D := (dC, dI)) (ci := 4) (v := .int (nI (unk + 1))) (C := R_Mo) (T := F_Mo) (N := 17) hx hb htb ul_Mo hown hK hP 0 rfl rfl 15 (by decide) (htb _ mw_563) (fun _ h9 => h9) rfl d_Mo_unknown_34 ?_
      refine lv_iconst (v := 1) hx hb d_Mo_unknown_37 (by decide) ?_
      refine lv_isub hx hb d_Mo_unknown_38 ?_
      rw [nI_pred]
      exact W.iret (v := (nI unk)) hx hb hr (fun t ht hW => ⟨⟨(nI unk), (), rfl, rfl, by rw [ht]; exact hP, va_K.moved hW.alike hK, hD⟩, hS.F ht⟩) hS.2.2 d_Mo_unknown_39
    · exact absurd (by decide) c_18
  · exact absurd ((nI_eq (b := 10) (by omega) (by decide)).mp c_7) h0

set_option maxHeartbeats 4000000 in
set_option maxRecDepth 100000 in
theorem c1_Mo_need (l : Launch) (dC : Nat → ClassId) (dI : Nat → Nat → Nat) (cI cL cZ : ClassId) (bd : Nat → Nat) (th : Int32) (K F S DD : Nat → Int32) (n : Nat) (NU VA BE WA LE AA RI UN CO : Nat → Int32) (unk cnt : Nat) (hn : n ≤ 120) (hunk : unk ≤ 10) (hcnt : cnt ≤ 30) (x k y : Int32) (hp : sdm x unk = 0 ∨ sdm y unk = 0) (sz : Nat) : Met l y_Mo_need (cw_Mo_need :: tb) (rmH 2 0 0) (va_Pc [.ref (bd 0), .int x, .int k, .int y] (wy_P (dC, dI) classes (wMo cI cZ bd th K F S DD n NU VA BE WA LE AA RI UN CO unk cnt) (tyI cI cL cZ) sz)) (wy_Q ry_i (fun r (u : Unit) => r = 0) (wy_B (dC, dI) classes (tyI cI cL cZ) (va_A (wMo cI cZ bd th K F S DD n NU VA BE WA LE AA RI UN CO unk cnt) sz) (fun u : Unit => (wMo cI cZ bd 1 K F S DD n NU VA BE WA LE AA RI UN CO unk cnt))) (va_A (wMo cI cZ bd th K F S DD n NU VA BE WA LE AA RI UN CO unk cnt) sz)) 0 0 (va_A (wMo cI cZ bd th K F S DD n NU VA BE WA LE AA RI UN CO unk cnt) sz) := by
  refine Met.ofW (cc := b_Mo_need) (maxL := 4) (ret := (some .int)) (by decide +kernel) rfl ?_
  intro p e s m args below meth c s₁ B hml0 hv
  have C0 := cx_of B hml0 rfl
  obtain ⟨hx, hb, hr, hml, hown, htb, hlocks⟩ := id C0
  obtain ⟨rfl, hsz, hP, hK, hD0⟩ := hv
  subst hsz
  have hD := hD0.self (sz := s.heap.size)
  generalize hAe : va_A (wMo cI cZ bd th K F S DD n NU VA BE WA LE AA RI UN CO unk cnt) s.heap.size = A at hD ⊢
  have hA : ∀ q : Nat, s.heap.size ≤ q → A q := fun q h => by rw [← hAe]; exact Or.inr h
  have hS : va_S A s.heap s.heap [] := va_S.rf
  have hl := lv_entry ([.ref (bd 0), .int x, .int k, .int y]) (n := 4) (Nat.le_of_ble_eq_true rfl)
  rw [lg_entry_eq]
  generalize (lg_sl ([.ref (bd 0), .int x, .int k, .int y]) ++ List.replicate (4 - (lg_sl ([.ref (bd 0), .int x, .int k, .int y])).length) Slot.unset).toArray = ls at hl ⊢
  have hl : lv_has ls 4 [(0, .ref (bd 0)), (1, .int x), (2, .int k), (3, .int y)] := hl
  have hP : va_P (dC, dI) classes [((bd 0), .inr (4, [.int th, .ref (bd 1), .ref (bd 2), .ref (bd 3), .ref (bd 4), .int (nI n), .ref (bd 5), .ref (bd 6), .ref (bd 7), .ref (bd 8), .ref (bd 9), .ref (bd 10), .ref (bd 11), .ref (bd 12), .ref (bd 13), .int (nI unk), .int (nI cnt)])), ((bd 1), .inl (cI, 120, .inl K)), ((bd 2), .inl (cI, 120, .inl F)), ((bd 3), .inl (cI, 120, .inl S)), ((bd 4), .inl (cI, 120, .inl DD)), ((bd 5), .inl (cI, 5, .inl NU)), ((bd 6), .inl (cI, 120, .inl VA)), ((bd 7), .inl (cI, 120, .inl BE)), ((bd 8), .inl (cI, 128, .inl WA)), ((bd 9), .inl (cI, 30, .inl LE)), ((bd 10), .inl (cI, 30, .inl AA)), ((bd 11), .inl (cI, 30, .inl RI)), ((bd 12), .inl (cI, 10, .inl UN)), ((bd 13), .inl (cZ, 30, .inl CO))] s.heap := hP
  have hD : va_D A [((bd 0), .inr (4, [.int th, .ref (bd 1), .ref (bd 2), .ref (bd 3), .ref (bd 4), .int (nI n), .ref (bd 5), .ref (bd 6), .ref (bd 7), .ref (bd 8), .ref (bd 9), .ref (bd 10), .ref (bd 11), .ref (bd 12), .ref (bd 13), .int (nI unk), .int (nI cnt)])), ((bd 1), .inl (cI, 120, .inl K)), ((bd 2), .inl (cI, 120, .inl F)), ((bd 3), .inl (cI, 120, .inl S)), ((bd 4), .inl (cI, 120, .inl DD)), ((bd 5), .inl (cI, 5, .inl NU)), ((bd 6), .inl (cI, 120, .inl VA)), ((bd 7), .inl (cI, 120, .inl BE)), ((bd 8), .inl (cI, 128, .inl WA)), ((bd 9), .inl (cI, 30, .inl LE)), ((bd 10), .inl (cI, 30, .inl AA)), ((bd 11), .inl (cI, 30, .inl RI)), ((bd 12), .inl (cI, 10, .inl UN)), ((bd 13), .inl (cZ, 30, .inl CO))] := hD
  have hA0 := hA
  refine lv_aload_n hx hb d_Mo_need_0 rfl (lv_at hl 0 rfl) ?_
  refine lv_aload_n hx hb d_Mo_need_1 rfl (lv_at hl 0 rfl) ?_
  refine lv_iload_n hx hb d_Mo_need_2 rfl (lv_at hl 1 rfl) ?_
  refine ry_callV (n := 1) (As := [.int x]) (rest := [.ref (bd 0)]) ⟨hx, hb, hml, hown, htb⟩ (c_Mo_isSide l dC dI cI cL cZ bd th K F S DD n NU VA BE WA LE AA RI UN CO unk cnt hn hunk hcnt x) (gV mw_706 mw_708 mp_28 mw_5 mc_Mo_isSide) rfl rfl (by decide +kernel) ⟨Nat.le_of_ble_eq_true rfl, Nat.le_of_ble_eq_true rfl⟩ (hP.sub [0, 1, 2, 3, 4, 5, 6, 7, 8, 9, 10, 11, 12, 13] rfl) hK (ci := 4) (q0 := 0) rfl rfl rfl rfl hl.1 rfl (Nat.le_of_ble_eq_true rfl) d_Mo_need_3 ⟨Nat.zero_le _, Nat.zero_le _⟩ (fun r_1 hr_1 => ?_)
  subst hr_1
  refine W.eq (g2 := F0 m 6 ls [.int (sdm x unk), .ref (bd 0)]) rfl ?_
  refine lv_if_eq (tgt := 17) hx hb d_Mo_need_6 (by decide) (fun c_6 => ?_) (fun c_6 => ?_)
  · refine lv_iconst (v := 1) hx hb d_Mo_need_17 (by decide) ?_
    refine lv_goto (tgt := 51) hx hb d_Mo_need_18 (by decide) ?_
    refine wy_callV (n := 1) (wr := []) (As := [.int 1]) (rest := []) ⟨hx, hb, hml, hown, htb⟩ (c_Mo_refuses l dC dI cI cL cZ bd th K F S DD n NU VA BE WA LE AA RI UN CO unk cnt hn hunk hcnt 1 s.heap.size) (gV mw_620 mw_622 mp_19 mw_5 mc_Mo_refuses) rfl rfl (by decide +kernel) ⟨Nat.le_of_ble_eq_true rfl, Nat.le_of_ble_eq_true rfl⟩ hP hD hS hA hK [0, 1, 2, 3, 4, 5, 6, 7, 8, 9, 10, 11, 12, 13] [] rfl rfl (by decide) (by decide) (hP.sub [0, 1, 2, 3, 4, 5, 6, 7, 8, 9, 10, 11, 12, 13] rfl) ((hD.sub [0, 1, 2, 3, 4, 5, 6, 7, 8, 9, 10, 11, 12, 13] (by decide) rfl).weaken (fun _ _ _ _ => trivial)) (ci := 4) (q0 := 0) rfl rfl rfl rfl hl.1 rfl (Nat.le_of_ble_eq_true rfl) d_Mo_need_51 ⟨Nat.le_of_ble_eq_true rfl, Nat.le_of_ble_eq_true rfl⟩ (fun r u H locs hpost hP hD hS => ?_)
    subst hpost
    have hP : va_P (dC, dI) classes [((bd 0), .inr (4, [.int 1, .ref (bd 1), .ref (bd 2), .ref (bd 3), .ref (bd 4), .int (nI n), .ref (bd 5), .ref (bd 6), .ref (bd 7), .ref (bd 8), .ref (bd 9), .ref (bd 10), .ref (bd 11), .ref (bd 12), .ref (bd 13), .int (nI unk), .int (nI cnt)])), ((bd 1), .inl (cI, 120, .inl K)), ((bd 2), .inl (cI, 120, .inl F)), ((bd 3), .inl (cI, 120, .inl S)), ((bd 4), .inl (cI, 120, .inl DD)), ((bd 5), .inl (cI, 5, .inl NU)), ((bd 6), .inl (cI, 120, .inl VA)), ((bd 7), .inl (cI, 120, .inl BE)), ((bd 8), .inl (cI, 128, .inl WA)), ((bd 9), .inl (cI, 30, .inl LE)), ((bd 10), .inl (cI, 30, .inl AA)), ((bd 11), .inl (cI, 30, .inl RI)), ((bd 12), .inl (cI, 10, .inl UN)), ((bd 13), .inl (cZ, 30, .inl CO))] H := hP
    have hD : va_D A [((bd 0), .inr (4, [.int 1, .ref (bd 1), .ref (bd 2), .ref (bd 3), .ref (bd 4), .int (nI n), .ref (bd 5), .ref (bd 6), .ref (bd 7), .ref (bd 8), .ref (bd 9), .ref (bd 10), .ref (bd 11), .ref (bd 12), .ref (bd 13), .int (nI unk), .int (nI cnt)])), ((bd 1), .inl (cI, 120, .inl K)), ((bd 2), .inl (cI, 120, .inl F)), ((bd 3), .inl (cI, 120, .inl S)), ((bd 4), .inl (cI, 120, .inl DD)), ((bd 5), .inl (cI, 5, .inl NU)), ((bd 6), .inl (cI, 120, .inl VA)), ((bd 7), .inl (cI, 120, .inl BE)), ((bd 8), .inl (cI, 128, .inl WA)), ((bd 9), .inl (cI, 30, .inl LE)), ((bd 10), .inl (cI, 30, .inl AA)), ((bd 11), .inl (cI, 30, .inl RI)), ((bd 12), .inl (cI, 10, .inl UN)), ((bd 13), .inl (cZ, 30, .inl CO))] := hD
    refine W.eq (g2 := F0 m 54 ls [.int (if 1 ≤ 0 then 0 else 1)]) rfl ?_
    refine lv_if_eq (tgt := 59) hx hb d_Mo_need_54 (by decide) (fun c_54 => ?_) (fun c_54 => ?_)
    · exact absurd c_54 (by decide)
    · refine lv_iconst (v := 0) hx hb d_Mo_need_57 (by decide) ?_
      exact W.iret (v := 0) hx hb hr (fun t ht hW => ⟨⟨0, (), rfl, rfl, by rw [ht]; exact hP, va_K.moved hW.alike hK, hD⟩, hS.F ht⟩) hS.2.2 d_Mo_need_58
  · refine lv_aload_n hx hb d_Mo_need_9 rfl (lv_at hl 0 rfl) ?_
    refine lv_iload_n hx hb d_Mo_need_10 rfl (lv_at hl 3 rfl) ?_
    refine ry_callV (n := 1) (As := [.int y]) (rest := [.ref (bd 0)]) ⟨hx, hb, hml, hown, htb⟩ (c_Mo_isSide l dC dI cI cL cZ bd th K F S DD n NU VA BE WA LE AA RI UN CO unk cnt hn hunk hcnt y) (gV mw_706 mw_708 mp_28 mw_5 mc_Mo_isSide) rfl rfl (by decide +kernel) ⟨Nat.le_of_ble_eq_true rfl, Nat.le_of_ble_eq_true rfl⟩ (hP.sub [0, 1, 2, 3, 4, 5, 6, 7, 8, 9, 10, 11, 12, 13] rfl) hK (ci := 4) (q0 := 0) rfl rfl rfl rfl hl.1 rfl (Nat.le_of_ble_eq_true rfl) d_Mo_need_11 ⟨Nat.zero_le _, Nat.zero_le _⟩ (fun r_2 hr_2 => ?_)
    subst hr_2
    refine W.eq (g2 := F0 m 14 ls [.int (sdm y unk), .ref (bd 0)]) rfl ?_
    refine lv_if_ne (tgt := 21) hx hb d_Mo_need_14 (by decide) (fun c_14 => ?_) (fun c_14 => ?_)
    · exact absurd hp (fun z => z.elim c_6 c_14)
    · refine lv_iconst (v := 1) hx hb d_Mo_need_17 (by decide) ?_
      refine lv_goto (tgt := 51) hx hb d_Mo_need_18 (by decide) ?_
      refine wy_callV (n := 1) (wr := []) (As := [.int 1]) (rest := []) ⟨hx, hb, hml, hown, htb⟩ (c_Mo_refuses l dC dI cI cL cZ bd th K F S DD n NU VA BE WA LE AA RI UN CO unk cnt hn hunk hcnt 1 s.heap.size) (gV mw_620 mw_622 mp_19 mw_5 mc_Mo_refuses) rfl rfl (by decide +kernel) ⟨Nat.le_of_ble_eq_true rfl, Nat.le_of_ble_eq_true rfl⟩ hP hD hS hA hK [0, 1, 2, 3, 4, 5, 6, 7, 8, 9, 10, 11, 12, 13] [] rfl rfl (by decide) (by decide) (hP.sub [0, 1, 2, 3, 4, 5, 6, 7, 8, 9, 10, 11, 12, 13] rfl) ((hD.sub [0, 1, 2, 3, 4, 5, 6, 7, 8, 9, 10, 11, 12, 13] (by decide) rfl).weaken (fun _ _ _ _ => trivial)) (ci := 4) (q0 := 0) rfl rfl rfl rfl hl.1 rfl (Nat.le_of_ble_eq_true rfl) d_Mo_need_51 ⟨Nat.le_of_ble_eq_true rfl, Nat.le_of_ble_eq_true rfl⟩ (fun r u H locs hpost hP hD hS => ?_)
      subst hpost
      have hP : va_P (dC, dI) classes [((bd 0), .inr (4, [.int 1, .ref (bd 1), .ref (bd 2), .ref (bd 3), .ref (bd 4), .int (nI n), .ref (bd 5), .ref (bd 6), .ref (bd 7), .ref (bd 8), .ref (bd 9), .ref (bd 10), .ref (bd 11), .ref (bd 12), .ref (bd 13), .int (nI unk), .int (nI cnt)])), ((bd 1), .inl (cI, 120, .inl K)), ((bd 2), .inl (cI, 120, .inl F)), ((bd 3), .inl (cI, 120, .inl S)), ((bd 4), .inl (cI, 120, .inl DD)), ((bd 5), .inl (cI, 5, .inl NU)), ((bd 6), .inl (cI, 120, .inl VA)), ((bd 7), .inl (cI, 120, .inl BE)), ((bd 8), .inl (cI, 128, .inl WA)), ((bd 9), .inl (cI, 30, .inl LE)), ((bd 10), .inl (cI, 30, .inl AA)), ((bd 11), .inl (cI, 30, .inl RI)), ((bd 12), .inl (cI, 10, .inl UN)), ((bd 13), .inl (cZ, 30, .inl CO))] H := hP
      have hD : va_D A [((bd 0), .inr (4, [.int 1, .ref (bd 1), .ref (bd 2), .ref (bd 3), .ref (bd 4), .int (nI n), .ref (bd 5), .ref (bd 6), .ref (bd 7), .ref (bd 8), .ref (bd 9), .ref (bd 10), .ref (bd 11), .ref (bd 12), .ref (bd 13), .int (nI unk), .int (nI cnt)])), ((bd 1), .inl (cI, 120, .inl K)), ((bd 2), .inl (cI, 120, .inl F)), ((bd 3), .inl (cI, 120, .inl S)), ((bd 4), .inl (cI, 120, .inl DD)), ((bd 5), .inl (cI, 5, .inl NU)), ((bd 6), .inl (cI, 120, .inl VA)), ((bd 7), .inl (cI, 120, .inl BE)), ((bd 8), .inl (cI, 128, .inl WA)), ((bd 9), .inl (cI, 30, .inl LE)), ((bd 10), .inl (cI, 30, .inl AA)), ((bd 11), .inl (cI, 30, .inl RI)), ((bd 12), .inl (cI, 10, .inl UN)), ((bd 13), .inl (cZ, 30, .inl CO))] := hD
      refine W.eq (g2 := F0 m 54 ls [.int (if 1 ≤ 0 then 0 else 1)]) rfl ?_
      refine lv_if_eq (tgt := 59) hx hb d_Mo_need_54 (by decide) (fun c_54 => ?_) (fun c_54 => ?_)
      · exact absurd c_54 (by decide)
      · refine lv_iconst (v := 0) hx hb d_Mo_need_57 (by decide) ?_
        exact W.iret (v := 0) hx hb hr (fun t ht hW => ⟨⟨0, (), rfl, rfl, by rw [ht]; exact hP, va_K.moved hW.alike hK, hD⟩, hS.F ht⟩) hS.2.2 d_Mo_need_58

set_option maxHeartbeats 4000000 in
set_option maxRecDepth 100000 in
theorem c2_Mo_need (l : Launch) (dC : Nat → ClassId) (dI : Nat → Nat → Nat) (cI cL cZ : ClassId) (bd : Nat → Nat) (th : Int32) (K F S DD : Nat → Int32) (n : Nat) (NU VA BE WA LE AA RI UN CO : Nat → Int32) (unk cnt : Nat) (hn : n ≤ 120) (hunk : unk ≤ 10) (hcnt : cnt ≤ 30) (x k y : Int32) (hp : sdm x unk = 1) (hp2 : sdm y unk = 1) (hk : k < -20 ∨ ¬ k ≤ 20) (sz : Nat) : Met l y_Mo_need (cw_Mo_need :: tb) (rmH 2 0 0) (va_Pc [.ref (bd 0), .int x, .int k, .int y] (wy_P (dC, dI) classes (wMo cI cZ bd th K F S DD n NU VA BE WA LE AA RI UN CO unk cnt) (tyI cI cL cZ) sz)) (wy_Q ry_i (fun r (u : Unit) => r = 0) (wy_B (dC, dI) classes (tyI cI cL cZ) (va_A (wMo cI cZ bd th K F S DD n NU VA BE WA LE AA RI UN CO unk cnt) sz) (fun u : Unit => (wMo cI cZ bd 2 K F S DD n NU VA BE WA LE AA RI UN CO unk cnt))) (va_A (wMo cI cZ bd th K F S DD n NU VA BE WA LE AA RI UN CO unk cnt) sz)) 0 0 (va_A (wMo cI cZ bd th K F S DD n NU VA BE WA LE AA RI UN CO unk cnt) sz) := by
  refine Met.ofW (cc := b_Mo_need) (maxL := 4) (ret := (some .int)) (by decide +kernel) rfl ?_
  intro p e s m args below meth c s₁ B hml0 hv
  have C0 := cx_of B hml0 rfl
  obtain ⟨hx, hb, hr, hml, hown, htb, hlocks⟩ := id C0
  obtain ⟨rfl, hsz, hP, hK, hD0⟩ := hv
  subst hsz
  have hD := hD0.self (sz := s.heap.size)
  generalize hAe : va_A (wMo cI cZ bd th K F S DD n NU VA BE WA LE AA RI UN CO unk cnt) s.heap.size = A at hD ⊢
  have hA : ∀ q : Nat, s.heap.size ≤ q → A q := fun q h => by rw [← hAe]; exact Or.inr h
  have hS : va_S A s.heap s.heap [] := va_S.rf
  have hl := lv_entry ([.ref (bd 0), .int x, .int k, .int y]) (n := 4) (Nat.le_of_ble_eq_true rfl)
  rw [lg_entry_eq]
  generalize (lg_sl ([.ref (bd 0), .int x, .int k, .int y]) ++ List.replicate (4 - (lg_sl ([.ref (bd 0), .int x, .int k, .int y])).length) Slot.unset).toArray = ls at hl ⊢
  have hl : lv_has ls 4 [(0, .ref (bd 0)), (1, .int x), (2, .int k), (3, .int y)] := hl
  have hP : va_P (dC, dI) classes [((bd 0), .inr (4, [.int th, .ref (bd 1), .ref (bd 2), .ref (bd 3), .ref (bd 4), .int (nI n), .ref (bd 5), .ref (bd 6), .ref (bd 7), .ref (bd 8), .ref (bd 9), .ref (bd 10), .ref (bd 11), .ref (bd 12), .ref (bd 13), .int (nI unk), .int (nI cnt)])), ((bd 1), .inl (cI, 120, .inl K)), ((bd 2), .inl (cI, 120, .inl F)), ((bd 3), .inl (cI, 120, .inl S)), ((bd 4), .inl (cI, 120, .inl DD)), ((bd 5), .inl (cI, 5, .inl NU)), ((bd 6), .inl (cI, 120, .inl VA)), ((bd 7), .inl (cI, 120, .inl BE)), ((bd 8), .inl (cI, 128, .inl WA)), ((bd 9), .inl (cI, 30, .inl LE)), ((bd 10), .inl (cI, 30, .inl AA)), ((bd 11), .inl (cI, 30, .inl RI)), ((bd 12), .inl (cI, 10, .inl UN)), ((bd 13), .inl (cZ, 30, .inl CO))] s.heap := hP
  have hD : va_D A [((bd 0), .inr (4, [.int th, .ref (bd 1), .ref (bd 2), .ref (bd 3), .ref (bd 4), .int (nI n), .ref (bd 5), .ref (bd 6), .ref (bd 7), .ref (bd 8), .ref (bd 9), .ref (bd 10), .ref (bd 11), .ref (bd 12), .ref (bd 13), .int (nI unk), .int (nI cnt)])), ((bd 1), .inl (cI, 120, .inl K)), ((bd 2), .inl (cI, 120, .inl F)), ((bd 3), .inl (cI, 120, .inl S)), ((bd 4), .inl (cI, 120, .inl DD)), ((bd 5), .inl (cI, 5, .inl NU)), ((bd 6), .inl (cI, 120, .inl VA)), ((bd 7), .inl (cI, 120, .inl BE)), ((bd 8), .inl (cI, 128, .inl WA)), ((bd 9), .inl (cI, 30, .inl LE)), ((bd 10), .inl (cI, 30, .inl AA)), ((bd 11), .inl (cI, 30, .inl RI)), ((bd 12), .inl (cI, 10, .inl UN)), ((bd 13), .inl (cZ, 30, .inl CO))] := hD
  have hA0 := hA
  refine lv_aload_n hx hb d_Mo_need_0 rfl (lv_at hl 0 rfl) ?_
  refine lv_aload_n hx hb d_Mo_need_1 rfl (lv_at hl 0 rfl) ?_
  refine lv_iload_n hx hb d_Mo_need_2 rfl (lv_at hl 1 rfl) ?_
  refine ry_callV (n := 1) (As := [.int x]) (rest := [.ref (bd 0)]) ⟨hx, hb, hml, hown, htb⟩ (c_Mo_isSide l dC dI cI cL cZ bd th K F S DD n NU VA BE WA LE AA RI UN CO unk cnt hn hunk hcnt x) (gV mw_706 mw_708 mp_28 mw_5 mc_Mo_isSide) rfl rfl (by decide +kernel) ⟨Nat.le_of_ble_eq_true rfl, Nat.le_of_ble_eq_true rfl⟩ (hP.sub [0, 1, 2, 3, 4, 5, 6, 7, 8, 9, 10, 11, 12, 13] rfl) hK (ci := 4) (q0 := 0) rfl rfl rfl rfl hl.1 rfl (Nat.le_of_ble_eq_true rfl) d_Mo_need_3 ⟨Nat.zero_le _, Nat.zero_le _⟩ (fun r_1 hr_1 => ?_)
  subst hr_1
  refine W.eq (g2 := F0 m 6 ls [.int (sdm x unk), .ref (bd 0)]) rfl ?_
  refine lv_if_eq (tgt := 17) hx hb d_Mo_need_6 (by decide) (fun c_6 => ?_) (fun c_6 => ?_)
  · exact absurd (hp.symm.trans c_6) (by decide)
  · refine lv_aload_n hx hb d_Mo_need_9 rfl (lv_at hl 0 rfl) ?_
    refine lv_iload_n hx hb d_Mo_need_10 rfl (lv_at hl 3 rfl) ?_
    refine ry_callV (n := 1) (As := [.int y]) (rest := [.ref (bd 0)]) ⟨hx, hb, hml, hown, htb⟩ (c_Mo_isSide l dC dI cI cL cZ bd th K F S DD n NU VA BE WA LE AA RI UN CO unk cnt hn hunk hcnt y) (gV mw_706 mw_708 mp_28 mw_5 mc_Mo_isSide) rfl rfl (by decide +kernel) ⟨Nat.le_of_ble_eq_true rfl, Nat.le_of_ble_eq_true rfl⟩ (hP.sub [0, 1, 2, 3, 4, 5, 6, 7, 8, 9, 10, 11, 12, 13] rfl) hK (ci := 4) (q0 := 0) rfl rfl rfl rfl hl.1 rfl (Nat.le_of_ble_eq_true rfl) d_Mo_need_11 ⟨Nat.zero_le _, Nat.zero_le _⟩ (fun r_2 hr_2 => ?_)
    subst hr_2
    refine W.eq (g2 := F0 m 14 ls [.int (sdm y unk), .ref (bd 0)]) rfl ?_
    refine lv_if_ne (tgt := 21) hx hb d_Mo_need_14 (by decide) (fun c_14 => ?_) (fun c_14 => ?_)
    · refine lv_iload_n hx hb d_Mo_need_21 rfl (lv_at hl 2 rfl) ?_
      refine lv_bipush (v := (-20)) hx hb d_Mo_need_22 (by decide) ?_
      refine lv_icmp_lt (tgt := 33) hx hb d_Mo_need_24 (by decide) (fun c_24 => ?_) (fun c_24 => ?_)
      · refine lv_iconst (v := 2) hx hb d_Mo_need_33 (by decide) ?_
        refine lv_goto (tgt := 51) hx hb d_Mo_need_34 (by decide) ?_
        refine wy_callV (n := 1) (wr := []) (As := [.int 2]) (rest := []) ⟨hx, hb, hml, hown, htb⟩ (c_Mo_refuses l dC dI cI cL cZ bd th K F S DD n NU VA BE WA LE AA RI UN CO unk cnt hn hunk hcnt 2 s.heap.size) (gV mw_620 mw_622 mp_19 mw_5 mc_Mo_refuses) rfl rfl (by decide +kernel) ⟨Nat.le_of_ble_eq_true rfl, Nat.le_of_ble_eq_true rfl⟩ hP hD hS hA hK [0, 1, 2, 3, 4, 5, 6, 7, 8, 9, 10, 11, 12, 13] [] rfl rfl (by decide) (by decide) (hP.sub [0, 1, 2, 3, 4, 5, 6, 7, 8, 9, 10, 11, 12, 13] rfl) ((hD.sub [0, 1, 2, 3, 4, 5, 6, 7, 8, 9, 10, 11, 12, 13] (by decide) rfl).weaken (fun _ _ _ _ => trivial)) (ci := 4) (q0 := 0) rfl rfl rfl rfl hl.1 rfl (Nat.le_of_ble_eq_true rfl) d_Mo_need_51 ⟨Nat.le_of_ble_eq_true rfl, Nat.le_of_ble_eq_true rfl⟩ (fun r u H locs hpost hP hD hS => ?_)
        subst hpost
        have hP : va_P (dC, dI) classes [((bd 0), .inr (4, [.int 2, .ref (bd 1), .ref (bd 2), .ref (bd 3), .ref (bd 4), .int (nI n), .ref (bd 5), .ref (bd 6), .ref (bd 7), .ref (bd 8), .ref (bd 9), .ref (bd 10), .ref (bd 11), .ref (bd 12), .ref (bd 13), .int (nI unk), .int (nI cnt)])), ((bd 1), .inl (cI, 120, .inl K)), ((bd 2), .inl (cI, 120, .inl F)), ((bd 3), .inl (cI, 120, .inl S)), ((bd 4), .inl (cI, 120, .inl DD)), ((bd 5), .inl (cI, 5, .inl NU)), ((bd 6), .inl (cI, 120, .inl VA)), ((bd 7), .inl (cI, 120, .inl BE)), ((bd 8), .inl (cI, 128, .inl WA)), ((bd 9), .inl (cI, 30, .inl LE)), ((bd 10), .inl (cI, 30, .inl AA)), ((bd 11), .inl (cI, 30, .inl RI)), ((bd 12), .inl (cI, 10, .inl UN)), ((bd 13), .inl (cZ, 30, .inl CO))] H := hP
        have hD : va_D A [((bd 0), .inr (4, [.int 2, .ref (bd 1), .ref (bd 2), .ref (bd 3), .ref (bd 4), .int (nI n), .ref (bd 5), .ref (bd 6), .ref (bd 7), .ref (bd 8), .ref (bd 9), .ref (bd 10), .ref (bd 11), .ref (bd 12), .ref (bd 13), .int (nI unk), .int (nI cnt)])), ((bd 1), .inl (cI, 120, .inl K)), ((bd 2), .inl (cI, 120, .inl F)), ((bd 3), .inl (cI, 120, .inl S)), ((bd 4), .inl (cI, 120, .inl DD)), ((bd 5), .inl (cI, 5, .inl NU)), ((bd 6), .inl (cI, 120, .inl VA)), ((bd 7), .inl (cI, 120, .inl BE)), ((bd 8), .inl (cI, 128, .inl WA)), ((bd 9), .inl (cI, 30, .inl LE)), ((bd 10), .inl (cI, 30, .inl AA)), ((bd 11), .inl (cI, 30, .inl RI)), ((bd 12), .inl (cI, 10, .inl UN)), ((bd 13), .inl (cZ, 30, .inl CO))] := hD
        refine W.eq (g2 := F0 m 54 ls [.int (if 2 ≤ 0 then 0 else 1)]) rfl ?_
        refine lv_if_eq (tgt := 59) hx hb d_Mo_need_54 (by decide) (fun c_54 => ?_) (fun c_54 => ?_)
        · exact absurd c_54 (by decide)
        · refine lv_iconst (v := 0) hx hb d_Mo_need_57 (by decide) ?_
          exact W.iret (v := 0) hx hb hr (fun t ht hW => ⟨⟨0, (), rfl, rfl, by rw [ht]; exact hP, va_K.moved hW.alike hK, hD⟩, hS.F ht⟩) hS.2.2 d_Mo_need_58
      · refine lv_iload_n hx hb d_Mo_need_27 rfl (lv_at hl 2 rfl) ?_
        refine lv_bipush (v := 20) hx hb d_Mo_need_28 (by decide) ?_
        refine lv_icmp_le (tgt := 37) hx hb d_Mo_need_30 (by decide) (fun c_30 => ?_) (fun c_30 => ?_)
        · exact absurd hk (fun z => z.elim c_24 (fun y => y c_30))
        · refine lv_iconst (v := 2) hx hb d_Mo_need_33 (by decide) ?_
          refine lv_goto (tgt := 51) hx hb d_Mo_need_34 (by decide) ?_
          refine wy_callV (n := 1) (wr := []) (As := [.int 2]) (rest := []) ⟨hx, hb, hml, hown, htb⟩ (c_Mo_refuses l dC dI cI cL cZ bd th K F S DD n NU VA BE WA LE AA RI UN CO unk cnt hn hunk hcnt 2 s.heap.size) (gV mw_620 mw_622 mp_19 mw_5 mc_Mo_refuses) rfl rfl (by decide +kernel) ⟨Nat.le_of_ble_eq_true rfl, Nat.le_of_ble_eq_true rfl⟩ hP hD hS hA hK [0, 1, 2, 3, 4, 5, 6, 7, 8, 9, 10, 11, 12, 13] [] rfl rfl (by decide) (by decide) (hP.sub [0, 1, 2, 3, 4, 5, 6, 7, 8, 9, 10, 11, 12, 13] rfl) ((hD.sub [0, 1, 2, 3, 4, 5, 6, 7, 8, 9, 10, 11, 12, 13] (by decide) rfl).weaken (fun _ _ _ _ => trivial)) (ci := 4) (q0 := 0) rfl rfl rfl rfl hl.1 rfl (Nat.le_of_ble_eq_true rfl) d_Mo_need_51 ⟨Nat.le_of_ble_eq_true rfl, Nat.le_of_ble_eq_true rfl⟩ (fun r u H locs hpost hP hD hS => ?_)
          subst hpost
          have hP : va_P (dC, dI) classes [((bd 0), .inr (4, [.int 2, .ref (bd 1), .ref (bd 2), .ref (bd 3), .ref (bd 4), .int (nI n), .ref (bd 5), .ref (bd 6), .ref (bd 7), .ref (bd 8), .ref (bd 9), .ref (bd 10), .ref (bd 11), .ref (bd 12), .ref (bd 13), .int (nI unk), .int (nI cnt)])), ((bd 1), .inl (cI, 120, .inl K)), ((bd 2), .inl (cI, 120, .inl F)), ((bd 3), .inl (cI, 120, .inl S)), ((bd 4), .inl (cI, 120, .inl DD)), ((bd 5), .inl (cI, 5, .inl NU)), ((bd 6), .inl (cI, 120, .inl VA)), ((bd 7), .inl (cI, 120, .inl BE)), ((bd 8), .inl (cI, 128, .inl WA)), ((bd 9), .inl (cI, 30, .inl LE)), ((bd 10), .inl (cI, 30, .inl AA)), ((bd 11), .inl (cI, 30, .inl RI)), ((bd 12), .inl (cI, 10, .inl UN)), ((bd 13), .inl (cZ, 30, .inl CO))] H := hP
          have hD : va_D A [((bd 0), .inr (4, [.int 2, .ref (bd 1), .ref (bd 2), .ref (bd 3), .ref (bd 4), .int (nI n), .ref (bd 5), .ref (bd 6), .ref (bd 7), .ref (bd 8), .ref (bd 9), .ref (bd 10), .ref (bd 11), .ref (bd 12), .ref (bd 13), .int (nI unk), .int (nI cnt)])), ((bd 1), .inl (cI, 120, .inl K)), ((bd 2), .inl (cI, 120, .inl F)), ((bd 3), .inl (cI, 120, .inl S)), ((bd 4), .inl (cI, 120, .inl DD)), ((bd 5), .inl (cI, 5, .inl NU)), ((bd 6), .inl (cI, 120, .inl VA)), ((bd 7), .inl (cI, 120, .inl BE)), ((bd 8), .inl (cI, 128, .inl WA)), ((bd 9), .inl (cI, 30, .inl LE)), ((bd 10), .inl (cI, 30, .inl AA)), ((bd 11), .inl (cI, 30, .inl RI)), ((bd 12), .inl (cI, 10, .inl UN)), ((bd 13), .inl (cZ, 30, .inl CO))] := hD
          refine W.eq (g2 := F0 m 54 ls [.int (if 2 ≤ 0 then 0 else 1)]) rfl ?_
          refine lv_if_eq (tgt := 59) hx hb d_Mo_need_54 (by decide) (fun c_54 => ?_) (fun c_54 => ?_)
          · exact absurd c_54 (by decide)
          · refine lv_iconst (v := 0) hx hb d_Mo_need_57 (by decide) ?_
            exact W.iret (v := 0) hx hb hr (fun t ht hW => ⟨⟨0, (), rfl, rfl, by rw [ht]; exact hP, va_K.moved hW.alike hK, hD⟩, hS.F ht⟩) hS.2.2 d_Mo_need_58
    · exact absurd (hp2.symm.trans c_14) (by decide)

set_option maxHeartbeats 4000000 in
set_option maxRecDepth 100000 in
theorem c3_Mo_need (l : Launch) (dC : Nat → ClassId) (dI : Nat → Nat → Nat) (cI cL cZ : ClassId) (bd : Nat → Nat) (th : Int32) (K F S DD : Nat → Int32) (n : Nat) (NU VA BE WA LE AA RI UN CO : Nat → Int32) (unk cnt : Nat) (hn : n ≤ 120) (hunk : unk ≤ 10) (hcnt : cnt ≤ 30) (x k y : Int32) (hp : sdm x unk = 1) (hp2 : sdm y unk = 1) (hk : ¬ (k < -20 ∨ ¬ k ≤ 20)) (h0 : cnt = 30) (sz : Nat) : Met l y_Mo_need (cw_Mo_need :: tb) (rmH 2 0 0) (va_Pc [.ref (bd 0), .int x, .int k, .int y] (wy_P (dC, dI) classes (wMo cI cZ bd th K F S DD n NU VA BE WA LE AA RI UN CO unk cnt) (tyI cI cL cZ) sz)) (wy_Q ry_i (fun r (u : Unit) => r = 0) (wy_B (dC, dI) classes (tyI cI cL cZ) (va_A (wMo cI cZ bd th K F S DD n NU VA BE WA LE AA RI UN CO unk cnt) sz) (fun u : Unit => (wMo cI cZ bd 3 K F S DD n NU VA BE WA LE AA RI UN CO unk cnt))) (va_A (wMo cI cZ bd th K F S DD n NU VA BE WA LE AA RI UN CO unk cnt) sz)) 0 0 (va_A (wMo cI cZ bd th K F S DD n NU VA BE WA LE AA RI UN CO unk cnt) sz) := by
  refine Met.ofW (cc := b_Mo_need) (maxL := 4) (ret := (some .int)) (by decide +kernel) rfl ?_
  intro p e s m args below meth c s₁ B hml0 hv
  have C0 := cx_of B hml0 rfl
  obtain ⟨hx, hb, hr, hml, hown, htb, hlocks⟩ := id C0
  obtain ⟨rfl, hsz, hP, hK, hD0⟩ := hv
  subst hsz
  have hD := hD0.self (sz := s.heap.size)
  generalize hAe : va_A (wMo cI cZ bd th K F S DD n NU VA BE WA LE AA RI UN CO unk cnt) s.heap.size = A at hD ⊢
  have hA : ∀ q : Nat, s.heap.size ≤ q → A q := fun q h => by rw [← hAe]; exact Or.inr h
  have hS : va_S A s.heap s.heap [] := va_S.rf
  have hl := lv_entry ([.ref (bd 0), .int x, .int k, .int y]) (n := 4) (Nat.le_of_ble_eq_true rfl)
  rw [lg_entry_eq]
  generalize (lg_sl ([.ref (bd 0), .int x, .int k, .int y]) ++ List.replicate (4 - (lg_sl ([.ref (bd 0), .int x, .int k, .int y])).length) Slot.unset).toArray = ls at hl ⊢
  have hl : lv_has ls 4 [(0, .ref (bd 0)), (1, .int x), (2, .int k), (3, .int y)] := hl
  have hP : va_P (dC, dI) classes [((bd 0), .inr (4, [.int th, .ref (bd 1), .ref (bd 2), .ref (bd 3), .ref (bd 4), .int (nI n), .ref (bd 5), .ref (bd 6), .ref (bd 7), .ref (bd 8), .ref (bd 9), .ref (bd 10), .ref (bd 11), .ref (bd 12), .ref (bd 13), .int (nI unk), .int (nI cnt)])), ((bd 1), .inl (cI, 120, .inl K)), ((bd 2), .inl (cI, 120, .inl F)), ((bd 3), .inl (cI, 120, .inl S)), ((bd 4), .inl (cI, 120, .inl DD)), ((bd 5), .inl (cI, 5, .inl NU)), ((bd 6), .inl (cI, 120, .inl VA)), ((bd 7), .inl (cI, 120, .inl BE)), ((bd 8), .inl (cI, 128, .inl WA)), ((bd 9), .inl (cI, 30, .inl LE)), ((bd 10), .inl (cI, 30, .inl AA)), ((bd 11), .inl (cI, 30, .inl RI)), ((bd 12), .inl (cI, 10, .inl UN)), ((bd 13), .inl (cZ, 30, .inl CO))] s.heap := hP
  have hD : va_D A [((bd 0), .inr (4, [.int th, .ref (bd 1), .ref (bd 2), .ref (bd 3), .ref (bd 4), .int (nI n), .ref (bd 5), .ref (bd 6), .ref (bd 7), .ref (bd 8), .ref (bd 9), .ref (bd 10), .ref (bd 11), .ref (bd 12), .ref (bd 13), .int (nI unk), .int (nI cnt)])), ((bd 1), .inl (cI, 120, .inl K)), ((bd 2), .inl (cI, 120, .inl F)), ((bd 3), .inl (cI, 120, .inl S)), ((bd 4), .inl (cI, 120, .inl DD)), ((bd 5), .inl (cI, 5, .inl NU)), ((bd 6), .inl (cI, 120, .inl VA)), ((bd 7), .inl (cI, 120, .inl BE)), ((bd 8), .inl (cI, 128, .inl WA)), ((bd 9), .inl (cI, 30, .inl LE)), ((bd 10), .inl (cI, 30, .inl AA)), ((bd 11), .inl (cI, 30, .inl RI)), ((bd 12), .inl (cI, 10, .inl UN)), ((bd 13), .inl (cZ, 30, .inl CO))] := hD
  have hA0 := hA
  refine lv_aload_n hx hb d_Mo_need_0 rfl (lv_at hl 0 rfl) ?_
  refine lv_aload_n hx hb d_Mo_need_1 rfl (lv_at hl 0 rfl) ?_
  refine lv_iload_n hx hb d_Mo_need_2 rfl (lv_at hl 1 rfl) ?_
  refine ry_callV (n := 1) (As := [.int x]) (rest := [.ref (bd 0)]) ⟨hx, hb, hml, hown, htb⟩ (c_Mo_isSide l dC dI cI cL cZ bd th K F S DD n NU VA BE WA LE AA RI UN CO unk cnt hn hunk hcnt x) (gV mw_706 mw_708 mp_28 mw_5 mc_Mo_isSide) rfl rfl (by decide +kernel) ⟨Nat.le_of_ble_eq_true rfl, Nat.le_of_ble_eq_true rfl⟩ (hP.sub [0, 1, 2, 3, 4, 5, 6, 7, 8, 9, 10, 11, 12, 13] rfl) hK (ci := 4) (q0 := 0) rfl rfl rfl rfl hl.1 rfl (Nat.le_of_ble_eq_true rfl) d_Mo_need_3 ⟨Nat.zero_le _, Nat.zero_le _⟩ (fun r_1 hr_1 => ?_)
  subst hr_1
  refine W.eq (g2 := F0 m 6 ls [.int (sdm x unk), .ref (bd 0)]) rfl ?_
  refine lv_if_eq (tgt := 17) hx hb d_Mo_need_6 (by decide) (fun c_6 => ?_) (fun c_6 => ?_)
  · exact absurd (hp.symm.trans c_6) (by decide)
  · refine lv_aload_n hx hb d_Mo_need_9 rfl (lv_at hl 0 rfl) ?_
    refine lv_iload_n hx hb d_Mo_need_10 rfl (lv_at hl 3 rfl) ?_
    refine ry_callV (n := 1) (As := [.int y]) (rest := [.ref (bd 0)]) ⟨hx, hb, hml, hown, htb⟩ (c_Mo_isSide l dC dI cI cL cZ bd th K F S DD n NU VA BE WA LE AA RI UN CO unk cnt hn hunk hcnt y) (gV mw_706 mw_708 mp_28 mw_5 mc_Mo_isSide) rfl rfl (by decide +kernel) ⟨Nat.le_of_ble_eq_true rfl, Nat.le_of_ble_eq_true rfl⟩ (hP.sub [0, 1, 2, 3, 4, 5, 6, 7, 8, 9, 10, 11, 12, 13] rfl) hK (ci := 4) (q0 := 0) rfl rfl rfl rfl hl.1 rfl (Nat.le_of_ble_eq_true rfl) d_Mo_need_11 ⟨Nat.zero_le _, Nat.zero_le _⟩ (fun r_2 hr_2 => ?_)
    subst hr_2
    refine W.eq (g2 := F0 m 14 ls [.int (sdm y unk), .ref (bd 0)]) rfl ?_
    refine lv_if_ne (tgt := 21) hx hb d_Mo_need_14 (by decide) (fun c_14 => ?_) (fun c_14 => ?_)
    · refine lv_iload_n hx hb d_Mo_need_21 rfl (lv_at hl 2 rfl) ?_
      refine lv_bipush (v := (-20)) hx hb d_Mo_need_22 (by decide) ?_
      refine lv_icmp_lt (tgt := 33) hx hb d_Mo_need_24 (by decide) (fun c_24 => ?_) (fun c_24 => ?_)
      · exact absurd (Or.inl c_24) hk
      · refine lv_iload_n hx hb d_Mo_need_27 rfl (lv_at hl 2 rfl) ?_
        refine lv_bipush (v := 20) hx hb d_Mo_need_28 (by decide) ?_
        refine lv_icmp_le (tgt := 37) hx hb d_Mo_need_30 (by decide) (fun c_30 => ?_) (fun c_30 => ?_)
        · refine lv_aload_n hx hb d_Mo_need_37 rfl (lv_at hl 0 rfl) ?_
          refine va_get (D := (dC, dI)) (ci := 4) (v := .int (nI cnt)) (C := R_Mo) (T := F_Mo) (N := 17) hx hb htb ul_Mo hown hK hP 0 rfl rfl 16 (by decide) (htb _ mw_564) (fun _ h9 => h9) rfl d_Mo_need_38 ?_
          refine lv_bipush (v := 30) hx hb d_Mo_need_41 (by decide) ?_
          refine lv_icmp_ne (tgt := 50) hx hb d_Mo_need_43 (by decide) (fun c_43 => ?_) (fun c_43 => ?_)
          · exact absurd (by rw [h0]; rfl) c_43
          · refine lv_iconst (v := 3) hx hb d_Mo_need_46 (by decide) ?_
            refine lv_goto (tgt := 51) hx hb d_Mo_need_47 (by decide) ?_
            refine wy_callV (n := 1) (wr := []) (As := [.int 3]) (rest := []) ⟨hx, hb, hml, hown, htb⟩ (c_Mo_refuses l dC dI cI cL cZ bd th K F S DD n NU VA BE WA LE AA RI UN CO unk cnt hn hunk hcnt 3 s.heap.size) (gV mw_620 mw_622 mp_19 mw_5 mc_Mo_refuses) rfl rfl (by decide +kernel) ⟨Nat.le_of_ble_eq_true rfl, Nat.le_of_ble_eq_true rfl⟩ hP hD hS hA hK [0, 1, 2, 3, 4, 5, 6, 7, 8, 9, 10, 11, 12, 13] [] rfl rfl (by decide) (by decide) (hP.sub [0, 1, 2, 3, 4, 5, 6, 7, 8, 9, 10, 11, 12, 13] rfl) ((hD.sub [0, 1, 2, 3, 4, 5, 6, 7, 8, 9, 10, 11, 12, 13] (by decide) rfl).weaken (fun _ _ _ _ => trivial)) (ci := 4) (q0 := 0) rfl rfl rfl rfl hl.1 rfl (Nat.le_of_ble_eq_true rfl) d_Mo_need_51 ⟨Nat.le_of_ble_eq_true rfl, Nat.le_of_ble_eq_true rfl⟩ (fun r u H locs hpost hP hD hS => ?_)
            subst hpost
            have hP : va_P (dC, dI) classes [((bd 0), .inr (4, [.int 3, .ref (bd 1), .ref (bd 2), .ref (bd 3), .ref (bd 4), .int (nI n), .ref (bd 5), .ref (bd 6), .ref (bd 7), .ref (bd 8), .ref (bd 9), .ref (bd 10), .ref (bd 11), .ref (bd 12), .ref (bd 13), .int (nI unk), .int (nI cnt)])), ((bd 1), .inl (cI, 120, .inl K)), ((bd 2), .inl (cI, 120, .inl F)), ((bd 3), .inl (cI, 120, .inl S)), ((bd 4), .inl (cI, 120, .inl DD)), ((bd 5), .inl (cI, 5, .inl NU)), ((bd 6), .inl (cI, 120, .inl VA)), ((bd 7), .inl (cI, 120, .inl BE)), ((bd 8), .inl (cI, 128, .inl WA)), ((bd 9), .inl (cI, 30, .inl LE)), ((bd 10), .inl (cI, 30, .inl AA)), ((bd 11), .inl (cI, 30, .inl RI)), ((bd 12), .inl (cI, 10, .inl UN)), ((bd 13), .inl (cZ, 30, .inl CO))] H := hP
            have hD : va_D A [((bd 0), .inr (4, [.int 3, .ref (bd 1), .ref (bd 2), .ref (bd 3), .ref (bd 4), .int (nI n), .ref (bd 5), .ref (bd 6), .ref (bd 7), .ref (bd 8), .ref (bd 9), .ref (bd 10), .ref (bd 11), .ref (bd 12), .ref (bd 13), .int (nI unk), .int (nI cnt)])), ((bd 1), .inl (cI, 120, .inl K)), ((bd 2), .inl (cI, 120, .inl F)), ((bd 3), .inl (cI, 120, .inl S)), ((bd 4), .inl (cI, 120, .inl DD)), ((bd 5), .inl (cI, 5, .inl NU)), ((bd 6), .inl (cI, 120, .inl VA)), ((bd 7), .inl (cI, 120, .inl BE)), ((bd 8), .inl (cI, 128, .inl WA)), ((bd 9), .inl (cI, 30, .inl LE)), ((bd 10), .inl (cI, 30, .inl AA)), ((bd 11), .inl (cI, 30, .inl RI)), ((bd 12), .inl (cI, 10, .inl UN)), ((bd 13), .inl (cZ, 30, .inl CO))] := hD
            refine W.eq (g2 := F0 m 54 ls [.int (if 3 ≤ 0 then 0 else 1)]) rfl ?_
            refine lv_if_eq (tgt := 59) hx hb d_Mo_need_54 (by decide) (fun c_54 => ?_) (fun c_54 => ?_)
            · exact absurd c_54 (by decide)
            · refine lv_iconst (v := 0) hx hb d_Mo_need_57 (by decide) ?_
              exact W.iret (v := 0) hx hb hr (fun t ht hW => ⟨⟨0, (), rfl, rfl, by rw [ht]; exact hP, va_K.moved hW.alike hK, hD⟩, hS.F ht⟩) hS.2.2 d_Mo_need_58
        · exact absurd (Or.inr c_30) hk
    · exact absurd (hp2.symm.trans c_14) (by decide)

set_option maxHeartbeats 4000000 in
set_option maxRecDepth 100000 in
theorem c_Mo_need (l : Launch) (dC : Nat → ClassId) (dI : Nat → Nat → Nat) (cI cL cZ : ClassId) (bd : Nat → Nat) (th : Int32) (K F S DD : Nat → Int32) (n : Nat) (NU VA BE WA LE AA RI UN CO : Nat → Int32) (unk cnt : Nat) (hn : n ≤ 120) (hunk : unk ≤ 10) (hcnt : cnt ≤ 30) (x k y : Int32) (hp : sdm x unk = 1) (hp2 : sdm y unk = 1) (hk : ¬ (k < -20 ∨ ¬ k ≤ 20)) (h0 : ¬ cnt = 30) (sz : Nat) : Met l y_Mo_need (cw_Mo_need :: tb) (rmH 2 0 0) (va_Pc [.ref (bd 0), .int x, .int k, .int y] (wy_P (dC, dI) classes (wMo cI cZ bd th K F S DD n NU VA BE WA LE AA RI UN CO unk cnt) (tyI cI cL cZ) sz)) (wy_Q ry_i (fun r (u : Unit) => r = nI cnt) (wy_B (dC, dI) classes (tyI cI cL cZ) (va_A (wMo cI cZ bd th K F S DD n NU VA BE WA LE AA RI UN CO unk cnt) sz) (fun u : Unit => (wMo cI cZ bd 0 K F S DD n NU VA BE WA (upd LE cnt x) (upd AA cnt k) (upd RI cnt y) UN CO unk (cnt + 1)))) (va_A (wMo cI cZ bd th K F S DD n NU VA BE WA LE AA RI UN CO unk cnt) sz)) 0 0 (va_A (wMo cI cZ bd th K F S DD n NU VA BE WA LE AA RI UN CO unk cnt) sz) := by
  refine Met.ofW (cc := b_Mo_need) (maxL := 4) (ret := (some .int)) (by decide +kernel) rfl ?_
  intro p e s m args below meth c s₁ B hml0 hv
  have C0 := cx_of B hml0 rfl
  obtain ⟨hx, hb, hr, hml, hown, htb, hlocks⟩ := id C0
  obtain ⟨rfl, hsz, hP, hK, hD0⟩ := hv
  subst hsz
  have hD := hD0.self (sz := s.heap.size)
  generalize hAe : va_A (wMo cI cZ bd th K F S DD n NU VA BE WA LE AA RI UN CO unk cnt) s.heap.size = A at hD ⊢
  have hA : ∀ q : Nat, s.heap.size ≤ q → A q := fun q h => by rw [← hAe]; exact Or.inr h
  have hS : va_S A s.heap s.heap [] := va_S.rf
  have hl := lv_entry ([.ref (bd 0), .int x, .int k, .int y]) (n := 4) (Nat.le_of_ble_eq_true rfl)
  rw [lg_entry_eq]
  generalize (lg_sl ([.ref (bd 0), .int x, .int k, .int y]) ++ List.replicate (4 - (lg_sl ([.ref (bd 0), .int x, .int k, .int y])).length) Slot.unset).toArray = ls at hl ⊢
  have hl : lv_has ls 4 [(0, .ref (bd 0)), (1, .int x), (2, .int k), (3, .int y)] := hl
  have hP : va_P (dC, dI) classes [((bd 0), .inr (4, [.int th, .ref (bd 1), .ref (bd 2), .ref (bd 3), .ref (bd 4), .int (nI n), .ref (bd 5), .ref (bd 6), .ref (bd 7), .ref (bd 8), .ref (bd 9), .ref (bd 10), .ref (bd 11), .ref (bd 12), .ref (bd 13), .int (nI unk), .int (nI cnt)])), ((bd 1), .inl (cI, 120, .inl K)), ((bd 2), .inl (cI, 120, .inl F)), ((bd 3), .inl (cI, 120, .inl S)), ((bd 4), .inl (cI, 120, .inl DD)), ((bd 5), .inl (cI, 5, .inl NU)), ((bd 6), .inl (cI, 120, .inl VA)), ((bd 7), .inl (cI, 120, .inl BE)), ((bd 8), .inl (cI, 128, .inl WA)), ((bd 9), .inl (cI, 30, .inl LE)), ((bd 10), .inl (cI, 30, .inl AA)), ((bd 11), .inl (cI, 30, .inl RI)), ((bd 12), .inl (cI, 10, .inl UN)), ((bd 13), .inl (cZ, 30, .inl CO))] s.heap := hP
  have hD : va_D A [((bd 0), .inr (4, [.int th, .ref (bd 1), .ref (bd 2), .ref (bd 3), .ref (bd 4), .int (nI n), .ref (bd 5), .ref (bd 6), .ref (bd 7), .ref (bd 8), .ref (bd 9), .ref (bd 10), .ref (bd 11), .ref (bd 12), .ref (bd 13), .int (nI unk), .int (nI cnt)])), ((bd 1), .inl (cI, 120, .inl K)), ((bd 2), .inl (cI, 120, .inl F)), ((bd 3), .inl (cI, 120, .inl S)), ((bd 4), .inl (cI, 120, .inl DD)), ((bd 5), .inl (cI, 5, .inl NU)), ((bd 6), .inl (cI, 120, .inl VA)), ((bd 7), .inl (cI, 120, .inl BE)), ((bd 8), .inl (cI, 128, .inl WA)), ((bd 9), .inl (cI, 30, .inl LE)), ((bd 10), .inl (cI, 30, .inl AA)), ((bd 11), .inl (cI, 30, .inl RI)), ((bd 12), .inl (cI, 10, .inl UN)), ((bd 13), .inl (cZ, 30, .inl CO))] := hD
  have hA0 := hA
  refine lv_aload_n hx hb d_Mo_need_0 rfl (lv_at hl 0 rfl) ?_
  refine lv_aload_n hx hb d_Mo_need_1 rfl (lv_at hl 0 rfl) ?_
  refine lv_iload_n hx hb d_Mo_need_2 rfl (lv_at hl 1 rfl) ?_
  refine ry_callV (n := 1) (As := [.int x]) (rest := [.ref (bd 0)]) ⟨hx, hb, hml, hown, htb⟩ (c_Mo_isSide l dC dI cI cL cZ bd th K F S DD n NU VA BE WA LE AA RI UN CO unk cnt hn hunk hcnt x) (gV mw_706 mw_708 mp_28 mw_5 mc_Mo_isSide) rfl rfl (by decide +kernel) ⟨Nat.le_of_ble_eq_true rfl, Nat.le_of_ble_eq_true rfl⟩ (hP.sub [0, 1, 2, 3, 4, 5, 6, 7, 8, 9, 10, 11, 12, 13] rfl) hK (ci := 4) (q0 := 0) rfl rfl rfl rfl hl.1 rfl (Nat.le_of_ble_eq_true rfl) d_Mo_need_3 ⟨Nat.zero_le _, Nat.zero_le _⟩ (fun r_1 hr_1 => ?_)
  subst hr_1
  refine W.eq (g2 := F0 m 6 ls [.int (sdm x unk), .ref (bd 0)]) rfl ?_
  refine lv_if_eq (tgt := 17) hx hb d_Mo_need_6 (by decide) (fun c_6 => ?_) (fun c_6 => ?_)
  · exact absurd (hp.symm.trans c_6) (by decide)
  · refine lv_aload_n hx hb d_Mo_need_9 rfl (lv_at hl 0 rfl) ?_
    refine lv_iload_n hx hb d_Mo_need_10 rfl (lv_at hl 3 rfl) ?_
    refine ry_callV (n := 1) (As := [.int y]) (rest := [.ref (bd 0)]) ⟨hx, hb, hml, hown, htb⟩ (c_Mo_isSide l dC dI cI cL cZ bd th K F S DD n NU VA BE WA LE AA RI UN CO unk cnt hn hunk hcnt y) (gV mw_706 mw_708 mp_28 mw_5 mc_Mo_isSide) rfl rfl (by decide +kernel) ⟨Nat.le_of_ble_eq_true rfl, Nat.le_of_ble_eq_true rfl⟩ (hP.sub [0, 1, 2, 3, 4, 5, 6, 7, 8, 9, 10, 11, 12, 13] rfl) hK (ci := 4) (q0 := 0) rfl rfl rfl rfl hl.1 rfl (Nat.le_of_ble_eq_true rfl) d_Mo_need_11 ⟨Nat.zero_le _, Nat.zero_le _⟩ (fun r_2 hr_2 => ?_)
    subst hr_2
    refine W.eq (g2 := F0 m 14 ls [.int (sdm y unk), .ref (bd 0)]) rfl ?_
    refine lv_if_ne (tgt := 21) hx hb d_Mo_need_14 (by decide) (fun c_14 => ?_) (fun c_14 => ?_)
    · refine lv_iload_n hx hb d_Mo_need_21 rfl (lv_at hl 2 rfl) ?_
      refine lv_bipush (v := (-20)) hx hb d_Mo_need_22 (by decide) ?_
      refine lv_icmp_lt (tgt := 33) hx hb d_Mo_need_24 (by decide) (fun c_24 => ?_) (fun c_24 => ?_)
      · exact absurd (Or.inl c_24) hk
      · refine lv_iload_n hx hb d_Mo_need_27 rfl (lv_at hl 2 rfl) ?_
        refine lv_bipush (v := 20) hx hb d_Mo_need_28 (by decide) ?_
        refine lv_icmp_le (tgt := 37) hx hb d_Mo_need_30 (by decide) (fun c_30 => ?_) (fun c_30 => ?_)
        · refine lv_aload_n hx hb d_Mo_need_37 rfl (lv_at hl 0 rfl) ?_
          refine va_get (D := (dC, dI)) (ci := 4) (v := .int (nI cnt)) (C := R_Mo) (T := F_Mo) (N := 17) hx hb htb ul_Mo hown hK hP 0 rfl rfl 16 (by decide) (htb _ mw_564) (fun _ h9 => h9) rfl d_Mo_need_38 ?_
          refine lv_bipush (v := 30) hx hb d_Mo_need_41 (by decide) ?_
          refine lv_icmp_ne (tgt := 50) hx hb d_Mo_need_43 (by decide) (fun c_43 => ?_) (fun c_43 => ?_)
          · refine lv_iconst (v := 0) hx hb d_Mo_need_50 (by decide) ?_
            refine wy_callV (n := 1) (wr := []) (As := [.int 0]) (rest := []) ⟨hx, hb, hml, hown, htb⟩ (c_Mo_refuses l dC dI cI cL cZ bd th K F S DD n NU VA BE WA LE AA RI UN CO unk cnt hn hunk hcnt 0 s.heap.size) (gV mw_620 mw_622 mp_19 mw_5 mc_Mo_refuses) rfl rfl (by decide +kernel) ⟨Nat.le_of_ble_eq_true rfl, Nat.le_of_ble_eq_true rfl⟩ hP hD hS hA hK [0, 1, 2, 3, 4, 5, 6, 7, 8, 9, 10, 11, 12, 13] [] rfl rfl (by decide) (by decide) (hP.sub [0, 1, 2, 3, 4, 5, 6, 7, 8, 9, 10, 11, 12, 13] rfl) ((hD.sub [0, 1, 2, 3, 4, 5, 6, 7, 8, 9, 10, 11, 12, 13] (by decide) rfl).weaken (fun _ _ _ _ => trivial)) (ci := 4) (q0 := 0) rfl rfl rfl rfl hl.1 rfl (Nat.le_of_ble_eq_true rfl) d_Mo_need_51 ⟨Nat.le_of_ble_eq_true rfl, Nat.le_of_ble_eq_true rfl⟩ (fun r u H locs hpost hP hD hS => ?_)
            subst hpost
            have hP : va_P (dC, dI) classes [((bd 0), .inr (4, [.int 0, .ref (bd 1), .ref (bd 2), .ref (bd 3), .ref (bd 4), .int (nI n), .ref (bd 5), .ref (bd 6), .ref (bd 7), .ref (bd 8), .ref (bd 9), .ref (bd 10), .ref (bd 11), .ref (bd 12), .ref (bd 13), .int (nI unk), .int (nI cnt)])), ((bd 1), .inl (cI, 120, .inl K)), ((bd 2), .inl (cI, 120, .inl F)), ((bd 3), .inl (cI, 120, .inl S)), ((bd 4), .inl (cI, 120, .inl DD)), ((bd 5), .inl (cI, 5, .inl NU)), ((bd 6), .inl (cI, 120, .inl VA)), ((bd 7), .inl (cI, 120, .inl BE)), ((bd 8), .inl (cI, 128, .inl WA)), ((bd 9), .inl (cI, 30, .inl LE)), ((bd 10), .inl (cI, 30, .inl AA)), ((bd 11), .inl (cI, 30, .inl RI)), ((bd 12), .inl (cI, 10, .inl UN)), ((bd 13), .inl (cZ, 30, .inl CO))] H := hP
            have hD : va_D A [((bd 0), .inr (4, [.int 0, .ref (bd 1), .ref (bd 2), .ref (bd 3), .ref (bd 4), .int (nI n), .ref (bd 5), .ref (bd 6), .ref (bd 7), .ref (bd 8), .ref (bd 9), .ref (bd 10), .ref (bd 11), .ref (bd 12), .ref (bd 13), .int (nI unk), .int (nI cnt)])), ((bd 1), .inl (cI, 120, .inl K)), ((bd 2), .inl (cI, 120, .inl F)), ((bd 3), .inl (cI, 120, .inl S)), ((bd 4), .inl (cI, 120, .inl DD)), ((bd 5), .inl (cI, 5, .inl NU)), ((bd 6), .inl (cI, 120, .inl VA)), ((bd 7), .inl (cI, 120, .inl BE)), ((bd 8), .inl (cI, 128, .inl WA)), ((bd 9), .inl (cI, 30, .inl LE)), ((bd 10), .inl (cI, 30, .inl AA)), ((bd 11), .inl (cI, 30, .inl RI)), ((bd 12), .inl (cI, 10, .inl UN)), ((bd 13), .inl (cZ, 30, .inl CO))] := hD
            refine W.eq (g2 := F0 m 54 ls [.int (if 0 ≤ 0 then 0 else 1)]) rfl ?_
            refine lv_if_eq (tgt := 59) hx hb d_Mo_need_54 (by decide) (fun c_54 => ?_) (fun c_54 => ?_)
            · refine lv_aload_n hx hb d_Mo_need_59 rfl (lv_at hl 0 rfl) ?_
              refine va_get (D := (dC, dI)) (ci := 4) (v := .ref (bd 9)) (C := R_Mo) (T := F_Mo) (N := 17) hx hb htb ul_Mo hown hK hP 0 rfl rfl 10 (by decide) (htb _ mw_558) (fun _ h9 => h9) rfl d_Mo_need_60 ?_
              refine lv_aload_n hx hb d_Mo_need_63 rfl (lv_at hl 0 rfl) ?_
              refine va_get (D := (dC, dI)) (ci := 4) (v := .int (nI cnt)) (C := R_Mo) (T := F_Mo) (N := 17) hx hb htb ul_Mo hown hK hP 0 rfl rfl 16 (by decide) (htb _ mw_564) (fun _ h9 => h9) rfl d_Mo_need_64 ?_
              refine lv_iload_n hx hb d_Mo_need_67 rfl (lv_at hl 1 rfl) ?_
              refine ry_iast (D := (dC, dI)) (j := cnt) hx hb hK hP hD hS 9 0 rfl rfl (by omega) (by decide) d_Mo_need_68 (fun H locs hP hD hS => ?_)
              have hP : va_P (dC, dI) classes [((bd 0), .inr (4, [.int 0, .ref (bd 1), .ref (bd 2), .ref (bd 3), .ref (bd 4), .int (nI n), .ref (bd 5), .ref (bd 6), .ref (bd 7), .ref (bd 8), .ref (bd 9), .ref (bd 10), .ref (bd 11), .ref (bd 12), .ref (bd 13), .int (nI unk), .int (nI cnt)])), ((bd 1), .inl (cI, 120, .inl K)), ((bd 2), .inl (cI, 120, .inl F)), ((bd 3), .inl (cI, 120, .inl S)), ((bd 4), .inl (cI, 120, .inl DD)), ((bd 5), .inl (cI, 5, .inl NU)), ((bd 6), .inl (cI, 120, .inl VA)), ((bd 7), .inl (cI, 120, .inl BE)), ((bd 8), .inl (cI, 128, .inl WA)), ((bd 9), .inl (cI, 30, .inl (upd LE cnt x))), ((bd 10), .inl (cI, 30, .inl AA)), ((bd 11), .inl (cI, 30, .inl RI)), ((bd 12), .inl (cI, 10, .inl UN)), ((bd 13), .inl (cZ, 30, .inl CO))] H := hP
              have hD : va_D A [((bd 0), .inr (4, [.int 0, .ref (bd 1), .ref (bd 2), .ref (bd 3), .ref (bd 4), .int (nI n), .ref (bd 5), .ref (bd 6), .ref (bd 7), .ref (bd 8), .ref (bd 9), .ref (bd 10), .ref (bd 11), .ref (bd 12), .ref (bd 13), .int (nI unk), .int (nI cnt)])), ((bd 1), .inl (cI, 120, .inl K)), ((bd 2), .inl (cI, 120, .inl F)), ((bd 3), .inl (cI, 120, .inl S)), ((bd 4), .inl (cI, 120, .inl DD)), ((bd 5), .inl (cI, 5, .inl NU)), ((bd 6), .inl (cI, 120, .inl VA)), ((bd 7), .inl (cI, 120, .inl BE)), ((bd 8), .inl (cI, 128, .inl WA)), ((bd 9), .inl (cI, 30, .inl (upd LE cnt x))), ((bd 10), .inl (cI, 30, .inl AA)), ((bd 11), .inl (cI, 30, .inl RI)), ((bd 12), .inl (cI, 10, .inl UN)), ((bd 13), .inl (cZ, 30, .inl CO))] := hD
              refine lv_aload_n hx hb d_Mo_need_69 rfl (lv_at hl 0 rfl) ?_
              refine va_get (D := (dC, dI)) (ci := 4) (v := .ref (bd 10)) (C := R_Mo) (T := F_Mo) (N := 17) hx hb htb ul_Mo hown hK hP 0 rfl rfl 11 (by decide) (htb _ mw_559) (fun _ h9 => h9) rfl d_Mo_need_70 ?_
              refine lv_aload_n hx hb d_Mo_need_73 rfl (lv_at hl 0 rfl) ?_
              refine va_get (D := (dC, dI)) (ci := 4) (v := .int (nI cnt)) (C := R_Mo) (T := F_Mo) (N := 17) hx hb htb ul_Mo hown hK hP 0 rfl rfl 16 (by decide) (htb _ mw_564) (fun _ h9 => h9) rfl d_Mo_need_74 ?_
              refine lv_iload_n hx hb d_Mo_need_77 rfl (lv_at hl 2 rfl) ?_
              refine ry_iast (D := (dC, dI)) (j := cnt) hx hb hK hP hD hS 10 0 rfl rfl (by omega) (by decide) d_Mo_need_78 (fun H locs hP hD hS => ?_)
              have hP : va_P (dC, dI) classes [((bd 0), .inr (4, [.int 0, .ref (bd 1), .ref (bd 2), .ref (bd 3), .ref (bd 4), .int (nI n), .ref (bd 5), .ref (bd 6), .ref (bd 7), .ref (bd 8), .ref (bd 9), .ref (bd 10), .ref (bd 11), .ref (bd 12), .ref (bd 13), .int (nI unk), .int (nI cnt)])), ((bd 1), .inl (cI, 120, .inl K)), ((bd 2), .inl (cI, 120, .inl F)), ((bd 3), .inl (cI, 120, .inl S)), ((bd 4), .inl (cI, 120, .inl DD)), ((bd 5), .inl (cI, 5, .inl NU)), ((bd 6), .inl (cI, 120, .inl VA)), ((bd 7), .inl (cI, 120, .inl BE)), ((bd 8), .inl (cI, 128, .inl WA)), ((bd 9), .inl (cI, 30, .inl (upd LE cnt x))), ((bd 10), .inl (cI, 30, .inl (upd AA cnt k))), ((bd 11), .inl (cI, 30, .inl RI)), ((bd 12), .inl (cI, 10, .inl UN)), ((bd 13), .inl (cZ, 30, .inl CO))] H := hP
              have hD : va_D A [((bd 0), .inr (4, [.int 0, .ref (bd 1), .ref (bd 2), .ref (bd 3), .ref (bd 4), .int (nI n), .ref (bd 5), .ref (bd 6), .ref (bd 7), .ref (bd 8), .ref (bd 9), .ref (bd 10), .ref (bd 11), .ref (bd 12), .ref (bd 13), .int (nI unk), .int (nI cnt)])), ((bd 1), .inl (cI, 120, .inl K)), ((bd 2), .inl (cI, 120, .inl F)), ((bd 3), .inl (cI, 120, .inl S)), ((bd 4), .inl (cI, 120, .inl DD)), ((bd 5), .inl (cI, 5, .inl NU)), ((bd 6), .inl (cI, 120, .inl VA)), ((bd 7), .inl (cI, 120, .inl BE)), ((bd 8), .inl (cI, 128, .inl WA)), ((bd 9), .inl (cI, 30, .inl (upd LE cnt x))), ((bd 10), .inl (cI, 30, .inl (upd AA cnt k))), ((bd 11), .inl (cI, 30, .inl RI)), ((bd 12), .inl (cI, 10, .inl UN)), ((bd 13), .inl (cZ, 30, .inl CO))] := hD
              refine lv_aload_n hx hb d_Mo_need_79 rfl (lv_at hl 0 rfl) ?_
              refine va_get (D := (dC, dI)) (ci := 4) (v := .ref (bd 11)) (C := R_Mo) (T := F_Mo) (N := 17) hx hb htb ul_Mo hown hK hP 0 rfl rfl 12 (by decide) (htb _ mw_560) (fun _ h9 => h9) rfl d_Mo_need_80 ?_
              refine lv_aload_n hx hb d_Mo_need_83 rfl (lv_at hl 0 rfl) ?_
              refine va_get (D := (dC, dI)) (ci := 4) (v := .int (nI cnt)) (C := R_Mo) (T := F_Mo) (N := 17) hx hb htb ul_Mo hown hK hP 0 rfl rfl 16 (by decide) (htb _ mw_564) (fun _ h9 => h9) rfl d_Mo_need_84 ?_
              refine lv_iload_n hx hb d_Mo_need_87 rfl (lv_at hl 3 rfl) ?_
              refine ry_iast (D := (dC, dI)) (j := cnt) hx hb hK hP hD hS 11 0 rfl rfl (by omega) (by decide) d_Mo_need_88 (fun H locs hP hD hS => ?_)
              have hP : va_P (dC, dI) classes [((bd 0), .inr (4, [.int 0, .ref (bd 1), .ref (bd 2), .ref (bd 3), .ref (bd 4), .int (nI n), .ref (bd 5), .ref (bd 6), .ref (bd 7), .ref (bd 8), .ref (bd 9), .ref (bd 10), .ref (bd 11), .ref (bd 12), .ref (bd 13), .int (nI unk), .int (nI cnt)])), ((bd 1), .inl (cI, 120, .inl K)), ((bd 2), .inl (cI, 120, .inl F)), ((bd 3), .inl (cI, 120, .inl S)), ((bd 4), .inl (cI, 120, .inl DD)), ((bd 5), .inl (cI, 5, .inl NU)), ((bd 6), .inl (cI, 120, .inl VA)), ((bd 7), .inl (cI, 120, .inl BE)), ((bd 8), .inl (cI, 128, .inl WA)), ((bd 9), .inl (cI, 30, .inl (upd LE cnt x))), ((bd 10), .inl (cI, 30, .inl (upd AA cnt k))), ((bd 11), .inl (cI, 30, .inl (upd RI cnt y))), ((bd 12), .inl (cI, 10, .inl UN)), ((bd 13), .inl (cZ, 30, .inl CO))] H := hP
              have hD : va_D A [((bd 0), .inr (4, [.int 0, .ref (bd 1), .ref (bd 2), .ref (bd 3), .ref (bd 4), .int (nI n), .ref (bd 5), .ref (bd 6), .ref (bd 7), .ref (bd 8), .ref (bd 9), .ref (bd 10), .ref (bd 11), .ref (bd 12), .ref (bd 13), .int (nI unk), .int (nI cnt)])), ((bd 1), .inl (cI, 120, .inl K)), ((bd 2), .inl (cI, 120, .inl F)), ((bd 3), .inl (cI, 120, .inl S)), ((bd 4), .inl (cI, 120, .inl DD)), ((bd 5), .inl (cI, 5, .inl NU)), ((bd 6), .inl (cI, 120, .inl VA)), ((bd 7), .inl (cI, 120, .inl BE)), ((bd 8), .inl (cI, 128, .inl WA)), ((bd 9), .inl (cI, 30, .inl (upd LE cnt x))), ((bd 10), .inl (cI, 30, .inl (upd AA cnt k))), ((bd 11), .inl (cI, 30, .inl (upd RI cnt y))), ((bd 12), .inl (cI, 10, .inl UN)), ((bd 13), .inl (cZ, 30, .inl CO))] := hD
              refine lv_aload_n hx hb d_Mo_need_89 rfl (lv_at hl 0 rfl) ?_
              refine lv_dup hx hb d_Mo_need_90 rfl ?_
              refine va_get (D := (dC, dI)) (ci := 4) (v := .int (nI cnt)) (C := R_Mo) (T := F_Mo) (N := 17) hx hb htb ul_Mo hown hK hP 0 rfl rfl 16 (by decide) (htb _ mw_564) (fun _ h9 => h9) rfl d_Mo_need_91 ?_
              refine lv_iconst (v := 1) hx hb d_Mo_need_94 (by decide) ?_
              refine lv_iadd hx hb d_Mo_need_95 ?_
              rw [nI_1]
              refine va_put (D := (dC, dI)) (ci := 4) (v := .int (nI (cnt + 1))) (ty := .int) (C := R_Mo) (T := F_Mo) (N := 17) hx hb htb ul_Mo t_Mo t_Mo_ok n_Mo hown hK hP hD hS 0 rfl rfl 16 (by decide) (htb _ mw_564) (fun _ h9 => h9) rfl (by decide +kernel) rfl rfl (Nat.le_of_ble_eq_true rfl) d_Mo_need_96 (fun H locs hP hD hS => ?_)
              have hP : va_P (dC, dI) classes [((bd 0), .inr (4, [.int 0, .ref (bd 1), .ref (bd 2), .ref (bd 3), .ref (bd 4), .int (nI n), .ref (bd 5), .ref (bd 6), .ref (bd 7), .ref (bd 8), .ref (bd 9), .ref (bd 10), .ref (bd 11), .ref (bd 12), .ref (bd 13), .int (nI unk), .int (nI (cnt + 1))])), ((bd 1), .inl (cI, 120, .inl K)), ((bd 2), .inl (cI, 120, .inl F)), ((bd 3), .inl (cI, 120, .inl S)), ((bd 4), .inl (cI, 120, .inl DD)), ((bd 5), .inl (cI, 5, .inl NU)), ((bd 6), .inl (cI, 120, .inl VA)), ((bd 7), .inl (cI, 120, .inl BE)), ((bd 8), .inl (cI, 128, .inl WA)), ((bd 9), .inl (cI, 30, .inl (upd LE cnt x))), ((bd 10), .inl (cI, 30, .inl (upd AA cnt k))), ((bd 11), .inl (cI, 30, .inl (upd RI cnt y))), ((bd 12), .inl (cI, 10, .inl UN)), ((bd 13), .inl (cZ, 30, .inl CO))] H := hP
              have hD : va_D A [((bd 0), .inr (4, [.int 0, .ref (bd 1), .ref (bd 2), .ref (bd 3), .ref (bd 4), .int (nI n), .ref (bd 5), .ref (bd 6), .ref (bd 7), .ref (bd 8), .ref (bd 9), .ref (bd 10), .ref (bd 11), .ref (bd 12), .ref (bd 13), .int (nI unk), .int (nI (cnt + 1))])), ((bd 1), .inl (cI, 120, .inl K)), ((bd 2), .inl (cI, 120, .inl F)), ((bd 3), .inl (cI, 120, .inl S)), ((bd 4), .inl (cI, 120, .inl DD)), ((bd 5), .inl (cI, 5, .inl NU)), ((bd 6), .inl (cI, 120, .inl VA)), ((bd 7), .inl (cI, 120, .inl BE)), ((bd 8), .inl (cI, 128, .inl WA)), ((bd 9), .inl (cI, 30, .inl (upd LE cnt x))), ((bd 10), .inl (cI, 30, .inl (upd AA cnt k))), ((bd 11), .inl (cI, 30, .inl (upd RI cnt y))), ((bd 12), .inl (cI, 10, .inl UN)), ((bd 13), .inl (cZ, 30, .inl CO))] := hD
              refine lv_aload_n hx hb d_Mo_need_99 rfl (lv_at hl 0 rfl) ?_
              refine va_get (D := (dC, dI)) (ci := 4) (v := .int (nI (cnt + 1))) (C := R_Mo) (T := F_Mo) (N := 17) hx hb htb ul_Mo hown hK hP 0 rfl rfl 16 (by decide) (htb _ mw_564) (fun _ h9 => h9) rfl d_Mo_need_100 ?_
              refine lv_iconst (v := 1) hx hb d_Mo_need_103 (by decide) ?_
              refine lv_isub hx hb d_Mo_need_104 ?_
              rw [nI_pred]
              exact W.iret (v := (nI cnt)) hx hb hr (fun t ht hW => ⟨⟨(nI cnt), (), rfl, rfl, by rw [ht]; exact hP, va_K.moved hW.alike hK, hD⟩, hS.F ht⟩) hS.2.2 d_Mo_need_105
            · exact absurd (by decide) c_54
          · exact absurd ((nI_eq (b := 30) (by omega) (by decide)).mp c_43) h0
        · exact absurd (Or.inr c_30) hk
    · exact absurd (hp2.symm.trans c_14) (by decide)
