set_option maxHeartbeats 4000000 in
set_option maxRecDepth 100000 in
theorem c0_Mo_changed (l : Launch) (dC : Nat → ClassId) (dI : Nat → Nat → Nat) (cI cL cZ : ClassId) (bd : Nat → Nat) (th : Int32) (K F S DD : Nat → Int32) (n : Nat) (NU VA BE WA LE AA RI UN CO : Nat → Int32) (unk cnt : Nat) (hn : n ≤ 120) (hunk : unk ≤ 10) (hcnt : cnt ≤ 30) (nd : Nat → Nat × Nat × Nat) (hok : MoOk nd n K F S DD) (x : Nat) (hx1 : x < n) (k01 : (nd x).1 < 2) (o1 o2 : Int32) (p9 y9 : Nat) (hp9 : p9 < 5) : Met l y_Mo_changed (cw_Mo_changed :: tb) (rmH 4 0 0) (va_Pc [.ref (bd 0), .int (nI x), .int o1, .int o2, .int (nI p9), .int (nI y9)] (ry_P (dC, dI) classes (wMo cI cZ bd th K F S DD n NU VA BE WA LE AA RI UN CO unk cnt) (tyI cI cL cZ))) (ry_S ry_i (fun r => r = nI (if (nd x).1 = 1 ∧ (nd x).2.1 = p9 then y9 else x))) 0 0 (fun _ => False) := by
  refine Met.ofW (cc := b_Mo_changed) (maxL := 8) (ret := (some .int)) (by decide +kernel) rfl ?_
  intro p e s m args below meth c s₁ B hml0 hv
  have C0 := cx_of B hml0 rfl
  obtain ⟨hx, hb, hr, hml, hown, htb, hlocks⟩ := id C0
  obtain ⟨rfl, hP, hK⟩ := hv
  have hl := lv_entry ([.ref (bd 0), .int (nI x), .int o1, .int o2, .int (nI p9), .int (nI y9)]) (n := 8) (Nat.le_of_ble_eq_true rfl)
  rw [lg_entry_eq]
  generalize (lg_sl ([.ref (bd 0), .int (nI x), .int o1, .int o2, .int (nI p9), .int (nI y9)]) ++ List.replicate (8 - (lg_sl ([.ref (bd 0), .int (nI x), .int o1, .int o2, .int (nI p9), .int (nI y9)])).length) Slot.unset).toArray = ls at hl ⊢
  have hl : lv_has ls 8 [(0, .ref (bd 0)), (1, .int (nI x)), (2, .int o1), (3, .int o2), (4, .int (nI p9)), (5, .int (nI y9))] := hl
  have hP : va_P (dC, dI) classes [((bd 0), .inr (4, [.int th, .ref (bd 1), .ref (bd 2), .ref (bd 3), .ref (bd 4), .int (nI n), .ref (bd 5), .ref (bd 6), .ref (bd 7), .ref (bd 8), .ref (bd 9), .ref (bd 10), .ref (bd 11), .ref (bd 12), .ref (bd 13), .int (nI unk), .int (nI cnt)])), ((bd 1), .inl (cI, 120, .inl K)), ((bd 2), .inl (cI, 120, .inl F)), ((bd 3), .inl (cI, 120, .inl S)), ((bd 4), .inl (cI, 120, .inl DD)), ((bd 5), .inl (cI, 5, .inl NU)), ((bd 6), .inl (cI, 120, .inl VA)), ((bd 7), .inl (cI, 120, .inl BE)), ((bd 8), .inl (cI, 128, .inl WA)), ((bd 9), .inl (cI, 30, .inl LE)), ((bd 10), .inl (cI, 30, .inl AA)), ((bd 11), .inl (cI, 30, .inl RI)), ((bd 12), .inl (cI, 10, .inl UN)), ((bd 13), .inl (cZ, 30, .inl CO))] s.heap := hP
  have hrx := hok.1.2.1 x hx1
  have hkx := (hok.2.1 x hx1).1
  have hkb := hrx.1
  refine lv_aload_n hx hb d_Mo_changed_0 rfl (lv_at hl 0 rfl) ?_
  refine va_get (D := (dC, dI)) (ci := 4) (v := .ref (bd 1)) (C := R_Mo) (T := F_Mo) (N := 17) hx hb htb ul_Mo hown hK hP 0 rfl rfl 1 (by decide) (htb _ mw_549) (fun _ h9 => h9) rfl d_Mo_changed_1 ?_
  refine lv_iload_n hx hb d_Mo_changed_4 rfl (lv_at hl 1 rfl) ?_
  refine ry_iald (D := (dC, dI)) (j := x) hx hb hK hP 1 0 rfl rfl (by omega) (by decide) d_Mo_changed_5 ?_
  rw [hkx]
  refine lv_iconst (v := 2) hx hb d_Mo_changed_6 (by decide) ?_
  refine lv_icmp_ge (tgt := 38) hx hb d_Mo_changed_7 (by decide) (fun c_7 => ?_) (fun c_7 => ?_)
  · exact absurd ((nI_leI (a := 2) (by decide) (by omega)).mp c_7) (by omega)
  · refine lv_aload_n hx hb d_Mo_changed_10 rfl (lv_at hl 0 rfl) ?_
    refine va_get (D := (dC, dI)) (ci := 4) (v := .ref (bd 1)) (C := R_Mo) (T := F_Mo) (N := 17) hx hb htb ul_Mo hown hK hP 0 rfl rfl 1 (by decide) (htb _ mw_549) (fun _ h9 => h9) rfl d_Mo_changed_11 ?_
    refine lv_iload_n hx hb d_Mo_changed_14 rfl (lv_at hl 1 rfl) ?_
    refine ry_iald (D := (dC, dI)) (j := x) hx hb hK hP 1 0 rfl rfl (by omega) (by decide) d_Mo_changed_15 ?_
    rw [hkx]
    refine lv_iconst (v := 1) hx hb d_Mo_changed_16 (by decide) ?_
    refine lv_icmp_ne (tgt := 36) hx hb d_Mo_changed_17 (by decide) (fun c_17 => ?_) (fun c_17 => ?_)
    · refine lv_iload_n hx hb d_Mo_changed_36 rfl (lv_at hl 1 rfl) ?_
      exact W.iret (v := (nI x)) hx hb hr (fun t ht hW => ⟨(nI x), rfl, (by rw [if_neg (fun z => c_17 (by rw [z.1]; rfl))]), ht⟩) (fun _ h => by cases h) d_Mo_changed_37
    · have k1 : (nd x).1 = 1 := (nI_eq (b := 1) (by omega) (by decide)).mp c_17
      have hfx : F x = nI (nd x).2.1 := by rw [(hok.2.1 x hx1).2.1, fF_n (by omega)]
      have hf5 := hrx.2.1 k1
      refine lv_aload_n hx hb d_Mo_changed_20 rfl (lv_at hl 0 rfl) ?_
      refine va_get (D := (dC, dI)) (ci := 4) (v := .ref (bd 2)) (C := R_Mo) (T := F_Mo) (N := 17) hx hb htb ul_Mo hown hK hP 0 rfl rfl 2 (by decide) (htb _ mw_550) (fun _ h9 => h9) rfl d_Mo_changed_21 ?_
      refine lv_iload_n hx hb d_Mo_changed_24 rfl (lv_at hl 1 rfl) ?_
      refine ry_iald (D := (dC, dI)) (j := x) hx hb hK hP 2 0 rfl rfl (by omega) (by decide) d_Mo_changed_25 ?_
      rw [hfx]
      refine lv_iload hx hb d_Mo_changed_26 (lv_at hl 4 rfl) ?_
      refine lv_icmp_ne (tgt := 36) hx hb d_Mo_changed_28 (by decide) (fun c_28 => ?_) (fun c_28 => ?_)
      · refine lv_iload_n hx hb d_Mo_changed_36 rfl (lv_at hl 1 rfl) ?_
        exact W.iret (v := (nI x)) hx hb hr (fun t ht hW => ⟨(nI x), rfl, (by rw [if_neg (fun z => c_28 (by rw [z.2]))]), ht⟩) (fun _ h => by cases h) d_Mo_changed_37
      · refine lv_iload hx hb d_Mo_changed_31 (lv_at hl 5 rfl) ?_
        refine lv_goto (tgt := 37) hx hb d_Mo_changed_33 (by decide) ?_
        exact W.iret (v := (nI y9)) hx hb hr (fun t ht hW => ⟨(nI y9), rfl, (by rw [if_pos ⟨k1, (nI_eq (by omega) (by omega)).mp c_28⟩]), ht⟩) (fun _ h => by cases h) d_Mo_changed_37

set_option maxHeartbeats 4000000 in
set_option maxRecDepth 100000 in
theorem c2_Mo_changed (l : Launch) (dC : Nat → ClassId) (dI : Nat → Nat → Nat) (cI cL cZ : ClassId) (bd : Nat → Nat) (th : Int32) (K F S DD : Nat → Int32) (n : Nat) (NU VA BE WA LE AA RI UN CO : Nat → Int32) (unk cnt : Nat) (hn : n ≤ 120) (hunk : unk ≤ 10) (hcnt : cnt ≤ 30) (nd : Nat → Nat × Nat × Nat) (hok : MoOk nd n K F S DD) (x : Nat) (hx1 : x < n) (k2 : (nd x).1 = 2) (r1 : Nat) (hr1 : r1 < n) (hb1 : BE (nd x).2.1 = nI r1) (p9 y9 : Nat) (hth0 : th = 0) (sz : Nat) : Met l y_Mo_changed (cw_Mo_changed :: tb) (rmH 4 0 0) (va_Pc [.ref (bd 0), .int (nI x), .int (nI (nd x).2.1), .int (-1), .int (nI p9), .int (nI y9)] (wy_P (dC, dI) classes (wMo cI cZ bd th K F S DD n NU VA BE WA LE AA RI UN CO unk cnt) (tyI cI cL cZ) sz)) (wy_Q ry_i (fun r (u : MoS × Int32) => chg (mk1 (nd, n) (2, r1, 0)) r u) (wy_B (dC, dI) classes (tyI cI cL cZ) (va_A (wMo cI cZ bd th K F S DD n NU VA BE WA LE AA RI UN CO unk cnt) sz) (fun u : MoS × Int32 => (wMo cI cZ bd u.2 u.1.1 u.1.2.1 u.1.2.2.1 u.1.2.2.2.1 u.1.2.2.2.2 NU VA BE WA LE AA RI UN CO unk cnt))) (va_A (wMo cI cZ bd th K F S DD n NU VA BE WA LE AA RI UN CO unk cnt) sz)) 0 0 (va_A (wMo cI cZ bd th K F S DD n NU VA BE WA LE AA RI UN CO unk cnt) sz) := by
  refine Met.ofW (cc := b_Mo_changed) (maxL := 8) (ret := (some .int)) (by decide +kernel) rfl ?_
  intro p e s m args below meth c s₁ B hml0 hv
  have C0 := cx_of B hml0 rfl
  obtain ⟨hx, hb, hr, hml, hown, htb, hlocks⟩ := id C0
  obtain ⟨rfl, hsz, hP, hK, hD0⟩ := hv
  subst hsz
  have hD := hD0.self (sz := s.heap.size)
  generalize hAe : va_A (wMo cI cZ bd th K F S DD n NU VA BE WA LE AA RI UN CO unk cnt) s.heap.size = A at hD ⊢
  have hA : ∀ q : Nat, s.heap.size ≤ q → A q := fun q h => by rw [← hAe]; exact Or.inr h
  have hS : va_S A s.heap s.heap [] := va_S.rf
  have hl := lv_entry ([.ref (bd 0), .int (nI x), .int (nI (nd x).2.1), .int (-1), .int (nI p9), .int (nI y9)]) (n := 8) (Nat.le_of_ble_eq_true rfl)
  rw [lg_entry_eq]
  generalize (lg_sl ([.ref (bd 0), .int (nI x), .int (nI (nd x).2.1), .int (-1), .int (nI p9), .int (nI y9)]) ++ List.replicate (8 - (lg_sl ([.ref (bd 0), .int (nI x), .int (nI (nd x).2.1), .int (-1), .int (nI p9), .int (nI y9)])).length) Slot.unset).toArray = ls at hl ⊢
  have hl : lv_has ls 8 [(0, .ref (bd 0)), (1, .int (nI x)), (2, .int (nI (nd x).2.1)), (3, .int (-1)), (4, .int (nI p9)), (5, .int (nI y9))] := hl
  have hP : va_P (dC, dI) classes [((bd 0), .inr (4, [.int th, .ref (bd 1), .ref (bd 2), .ref (bd 3), .ref (bd 4), .int (nI n), .ref (bd 5), .ref (bd 6), .ref (bd 7), .ref (bd 8), .ref (bd 9), .ref (bd 10), .ref (bd 11), .ref (bd 12), .ref (bd 13), .int (nI unk), .int (nI cnt)])), ((bd 1), .inl (cI, 120, .inl K)), ((bd 2), .inl (cI, 120, .inl F)), ((bd 3), .inl (cI, 120, .inl S)), ((bd 4), .inl (cI, 120, .inl DD)), ((bd 5), .inl (cI, 5, .inl NU)), ((bd 6), .inl (cI, 120, .inl VA)), ((bd 7), .inl (cI, 120, .inl BE)), ((bd 8), .inl (cI, 128, .inl WA)), ((bd 9), .inl (cI, 30, .inl LE)), ((bd 10), .inl (cI, 30, .inl AA)), ((bd 11), .inl (cI, 30, .inl RI)), ((bd 12), .inl (cI, 10, .inl UN)), ((bd 13), .inl (cZ, 30, .inl CO))] s.heap := hP
  have hD : va_D A [((bd 0), .inr (4, [.int th, .ref (bd 1), .ref (bd 2), .ref (bd 3), .ref (bd 4), .int (nI n), .ref (bd 5), .ref (bd 6), .ref (bd 7), .ref (bd 8), .ref (bd 9), .ref (bd 10), .ref (bd 11), .ref (bd 12), .ref (bd 13), .int (nI unk), .int (nI cnt)])), ((bd 1), .inl (cI, 120, .inl K)), ((bd 2), .inl (cI, 120, .inl F)), ((bd 3), .inl (cI, 120, .inl S)), ((bd 4), .inl (cI, 120, .inl DD)), ((bd 5), .inl (cI, 5, .inl NU)), ((bd 6), .inl (cI, 120, .inl VA)), ((bd 7), .inl (cI, 120, .inl BE)), ((bd 8), .inl (cI, 128, .inl WA)), ((bd 9), .inl (cI, 30, .inl LE)), ((bd 10), .inl (cI, 30, .inl AA)), ((bd 11), .inl (cI, 30, .inl RI)), ((bd 12), .inl (cI, 10, .inl UN)), ((bd 13), .inl (cZ, 30, .inl CO))] := hD
  have hA0 := hA
  have hrx := hok.1.2.1 x hx1
  have hkx := (hok.2.1 x hx1).1
  have hkb := hrx.1
  refine lv_aload_n hx hb d_Mo_changed_0 rfl (lv_at hl 0 rfl) ?_
  refine va_get (D := (dC, dI)) (ci := 4) (v := .ref (bd 1)) (C := R_Mo) (T := F_Mo) (N := 17) hx hb htb ul_Mo hown hK hP 0 rfl rfl 1 (by decide) (htb _ mw_549) (fun _ h9 => h9) rfl d_Mo_changed_1 ?_
  refine lv_iload_n hx hb d_Mo_changed_4 rfl (lv_at hl 1 rfl) ?_
  refine ry_iald (D := (dC, dI)) (j := x) hx hb hK hP 1 0 rfl rfl (by omega) (by decide) d_Mo_changed_5 ?_
  rw [hkx]
  refine lv_iconst (v := 2) hx hb d_Mo_changed_6 (by decide) ?_
  refine lv_icmp_ge (tgt := 38) hx hb d_Mo_changed_7 (by decide) (fun c_7 => ?_) (fun c_7 => ?_)
  · have ha := hrx.2.2.1 (by omega)
    have hdr := hok.2.2 r1 hr1
    have hdb := hok.1.2.2.1 r1 hr1
    refine lv_aload_n hx hb d_Mo_changed_38 rfl (lv_at hl 0 rfl) ?_
    refine va_get (D := (dC, dI)) (ci := 4) (v := .ref (bd 7)) (C := R_Mo) (T := F_Mo) (N := 17) hx hb htb ul_Mo hown hK hP 0 rfl rfl 8 (by decide) (htb _ mw_556) (fun _ h9 => h9) rfl d_Mo_changed_39 ?_
    refine lv_iload_n hx hb d_Mo_changed_42 rfl (lv_at hl 2 rfl) ?_
    refine ry_iald (D := (dC, dI)) (j := (nd x).2.1) hx hb hK hP 7 0 rfl rfl (by omega) (by decide) d_Mo_changed_43 ?_
    rw [hb1]
    refine lv_istore (lv' := [(6, .int (nI r1)), (0, .ref (bd 0)), (1, .int (nI x)), (2, .int (nI (nd x).2.1)), (3, .int (-1)), (4, .int (nI p9)), (5, .int (nI y9))]) hx hb d_Mo_changed_44 hl (by decide) rfl (fun ls hl => ?_)
    refine lv_iload_n hx hb d_Mo_changed_46 rfl (lv_at hl 4 rfl) ?_
    refine lv_if_ge (tgt := 54) hx hb d_Mo_changed_47 (by decide) (fun c_47 => ?_) (fun c_47 => ?_)
    · exact absurd c_47 (by decide)
    · refine lv_iconst (v := (-1)) hx hb d_Mo_changed_50 (by decide) ?_
      refine lv_goto (tgt := 60) hx hb d_Mo_changed_51 (by decide) ?_
      refine lv_istore (lv' := [(7, .int (-1)), (6, .int (nI r1)), (0, .ref (bd 0)), (1, .int (nI x)), (2, .int (nI (nd x).2.1)), (3, .int (-1)), (4, .int (nI p9)), (5, .int (nI y9))]) hx hb d_Mo_changed_60 hl (by decide) rfl (fun ls hl => ?_)
      refine lv_iload hx hb d_Mo_changed_62 (lv_at hl 1 rfl) ?_
      refine lv_iload_n hx hb d_Mo_changed_64 rfl (lv_at hl 4 rfl) ?_
      refine lv_icmp_ne (tgt := 76) hx hb d_Mo_changed_65 (by decide) (fun c_65 => ?_) (fun c_65 => ?_)
      · refine lv_aload_n hx hb d_Mo_changed_76 rfl (lv_at hl 2 rfl) ?_
        refine va_get (D := (dC, dI)) (ci := 4) (v := .ref (bd 1)) (C := R_Mo) (T := F_Mo) (N := 17) hx hb htb ul_Mo hown hK hP 0 rfl rfl 1 (by decide) (htb _ mw_549) (fun _ h9 => h9) rfl d_Mo_changed_77 ?_
        refine lv_iload_n hx hb d_Mo_changed_80 rfl (lv_at hl 3 rfl) ?_
        refine ry_iald (D := (dC, dI)) (j := x) hx hb hK hP 1 0 rfl rfl (by omega) (by decide) d_Mo_changed_81 ?_
        rw [hkx]
        refine lv_iconst (v := 2) hx hb d_Mo_changed_82 (by decide) ?_
        refine lv_icmp_ne (tgt := 105) hx hb d_Mo_changed_83 (by decide) (fun c_83 => ?_) (fun c_83 => ?_)
        · exact absurd (by rw [k2]; rfl) c_83
        · refine lv_aload_n hx hb d_Mo_changed_86 rfl (lv_at hl 2 rfl) ?_
          refine va_get (D := (dC, dI)) (ci := 4) (v := .ref (bd 4)) (C := R_Mo) (T := F_Mo) (N := 17) hx hb htb ul_Mo hown hK hP 0 rfl rfl 4 (by decide) (htb _ mw_552) (fun _ h9 => h9) rfl d_Mo_changed_87 ?_
          refine lv_iload hx hb d_Mo_changed_90 (lv_at hl 1 rfl) ?_
          refine ry_iald (D := (dC, dI)) (j := r1) hx hb hK hP 4 0 rfl rfl (by omega) (by decide) d_Mo_changed_92 ?_
          rw [hdr]
          refine lv_bipush (v := 60) hx hb d_Mo_changed_93 (by decide) ?_
          refine lv_icmp_ne (tgt := 105) hx hb d_Mo_changed_95 (by decide) (fun c_95 => ?_) (fun c_95 => ?_)
          · refine lv_aload_n hx hb d_Mo_changed_105 rfl (lv_at hl 2 rfl) ?_
            refine lv_aload_n hx hb d_Mo_changed_106 rfl (lv_at hl 2 rfl) ?_
            refine va_get (D := (dC, dI)) (ci := 4) (v := .ref (bd 1)) (C := R_Mo) (T := F_Mo) (N := 17) hx hb htb ul_Mo hown hK hP 0 rfl rfl 1 (by decide) (htb _ mw_549) (fun _ h9 => h9) rfl d_Mo_changed_107 ?_
            refine lv_iload_n hx hb d_Mo_changed_110 rfl (lv_at hl 3 rfl) ?_
            refine ry_iald (D := (dC, dI)) (j := x) hx hb hK hP 1 0 rfl rfl (by omega) (by decide) d_Mo_changed_111 ?_
            rw [hkx]
            refine lv_iload hx hb d_Mo_changed_112 (lv_at hl 1 rfl) ?_
            refine lv_iload hx hb d_Mo_changed_114 (lv_at hl 0 rfl) ?_
            refine lv_iconst (v := 3) hx hb d_Mo_changed_116 (by decide) ?_
            have hdd : ¬ (((2, r1, 0) : Nat × Nat × Nat).1 = 2 ∧ 60 ≤ dp nd ((2, r1, 0) : Nat × Nat × Nat).2.1) := (fun z => c_95 (by have h9 : 60 ≤ dp nd r1 := z.2; rw [show dp nd r1 = 60 by omega]; rfl))
            rw [k2]
            refine wy_callV (n := 4) (wr := []) (As := [.int (nI 2), .int (nI r1), .int (-1), .int 3]) (rest := []) ⟨hx, hb, hml, hown, htb⟩ (c_Mo_made l dC dI cI cL cZ bd th K F S DD n NU VA BE WA LE AA RI UN CO unk cnt hn hunk hcnt nd hok (2, r1, 0) (row2 n hr1) hdd 3 s.heap.size) (gV mw_608 mw_610 mp_17 mw_5 mc_Mo_made) rfl rfl (by decide +kernel) ⟨Nat.le_of_ble_eq_true rfl, Nat.le_of_ble_eq_true rfl⟩ hP hD hS hA hK [0, 1, 2, 3, 4, 5, 6, 7, 8, 9, 10, 11, 12, 13] [] rfl rfl (by decide) (by decide) (hP.sub [0, 1, 2, 3, 4, 5, 6, 7, 8, 9, 10, 11, 12, 13] rfl) ((hD.sub [0, 1, 2, 3, 4, 5, 6, 7, 8, 9, 10, 11, 12, 13] (by decide) rfl).weaken (fun _ _ _ _ => trivial)) (ci := 4) (q0 := 0) rfl rfl rfl rfl hl.1 rfl (Nat.le_of_ble_eq_true rfl) d_Mo_changed_117 ⟨Nat.le_of_ble_eq_true rfl, Nat.le_of_ble_eq_true rfl⟩ (fun r u H locs hpost hP hD hS => ?_)
            have hP : va_P (dC, dI) classes [((bd 0), .inr (4, [.int u.2, .ref (bd 1), .ref (bd 2), .ref (bd 3), .ref (bd 4), .int (nI u.1.2.2.2.2), .ref (bd 5), .ref (bd 6), .ref (bd 7), .ref (bd 8), .ref (bd 9), .ref (bd 10), .ref (bd 11), .ref (bd 12), .ref (bd 13), .int (nI unk), .int (nI cnt)])), ((bd 1), .inl (cI, 120, .inl u.1.1)), ((bd 2), .inl (cI, 120, .inl u.1.2.1)), ((bd 3), .inl (cI, 120, .inl u.1.2.2.1)), ((bd 4), .inl (cI, 120, .inl u.1.2.2.2.1)), ((bd 5), .inl (cI, 5, .inl NU)), ((bd 6), .inl (cI, 120, .inl VA)), ((bd 7), .inl (cI, 120, .inl BE)), ((bd 8), .inl (cI, 128, .inl WA)), ((bd 9), .inl (cI, 30, .inl LE)), ((bd 10), .inl (cI, 30, .inl AA)), ((bd 11), .inl (cI, 30, .inl RI)), ((bd 12), .inl (cI, 10, .inl UN)), ((bd 13), .inl (cZ, 30, .inl CO))] H := hP
            have hD : va_D A [((bd 0), .inr (4, [.int u.2, .ref (bd 1), .ref (bd 2), .ref (bd 3), .ref (bd 4), .int (nI u.1.2.2.2.2), .ref (bd 5), .ref (bd 6), .ref (bd 7), .ref (bd 8), .ref (bd 9), .ref (bd 10), .ref (bd 11), .ref (bd 12), .ref (bd 13), .int (nI unk), .int (nI cnt)])), ((bd 1), .inl (cI, 120, .inl u.1.1)), ((bd 2), .inl (cI, 120, .inl u.1.2.1)), ((bd 3), .inl (cI, 120, .inl u.1.2.2.1)), ((bd 4), .inl (cI, 120, .inl u.1.2.2.2.1)), ((bd 5), .inl (cI, 5, .inl NU)), ((bd 6), .inl (cI, 120, .inl VA)), ((bd 7), .inl (cI, 120, .inl BE)), ((bd 8), .inl (cI, 128, .inl WA)), ((bd 9), .inl (cI, 30, .inl LE)), ((bd 10), .inl (cI, 30, .inl AA)), ((bd 11), .inl (cI, 30, .inl RI)), ((bd 12), .inl (cI, 10, .inl UN)), ((bd 13), .inl (cZ, 30, .inl CO))] := hD
            refine W.eq (g2 := F0 m 120 ls [.int r]) rfl ?_
            exact W.iret (v := r) hx hb hr (fun t ht hW => ⟨⟨r, u, rfl, (mdp_mk1 hok.1 hdd hpost), by rw [ht]; exact hP, va_K.moved hW.alike hK, hD⟩, hS.F ht⟩) hS.2.2 d_Mo_changed_120
          · refine lv_aload_n hx hb d_Mo_changed_98 rfl (lv_at hl 2 rfl) ?_
            refine lv_iconst (v := 2) hx hb d_Mo_changed_99 (by decide) ?_
            refine va_put (D := (dC, dI)) (ci := 4) (v := .int 2) (ty := .int) (C := R_Mo) (T := F_Mo) (N := 17) hx hb htb ul_Mo t_Mo t_Mo_ok n_Mo hown hK hP hD hS 0 rfl rfl 0 (by decide) (htb _ mw_548) (fun _ h9 => h9) rfl (by decide +kernel) rfl rfl (Nat.le_of_ble_eq_true rfl) d_Mo_changed_100 (fun H locs hP hD hS => ?_)
            have hP : va_P (dC, dI) classes [((bd 0), .inr (4, [.int 2, .ref (bd 1), .ref (bd 2), .ref (bd 3), .ref (bd 4), .int (nI n), .ref (bd 5), .ref (bd 6), .ref (bd 7), .ref (bd 8), .ref (bd 9), .ref (bd 10), .ref (bd 11), .ref (bd 12), .ref (bd 13), .int (nI unk), .int (nI cnt)])), ((bd 1), .inl (cI, 120, .inl K)), ((bd 2), .inl (cI, 120, .inl F)), ((bd 3), .inl (cI, 120, .inl S)), ((bd 4), .inl (cI, 120, .inl DD)), ((bd 5), .inl (cI, 5, .inl NU)), ((bd 6), .inl (cI, 120, .inl VA)), ((bd 7), .inl (cI, 120, .inl BE)), ((bd 8), .inl (cI, 128, .inl WA)), ((bd 9), .inl (cI, 30, .inl LE)), ((bd 10), .inl (cI, 30, .inl AA)), ((bd 11), .inl (cI, 30, .inl RI)), ((bd 12), .inl (cI, 10, .inl UN)), ((bd 13), .inl (cZ, 30, .inl CO))] H := hP
            have hD : va_D A [((bd 0), .inr (4, [.int 2, .ref (bd 1), .ref (bd 2), .ref (bd 3), .ref (bd 4), .int (nI n), .ref (bd 5), .ref (bd 6), .ref (bd 7), .ref (bd 8), .ref (bd 9), .ref (bd 10), .ref (bd 11), .ref (bd 12), .ref (bd 13), .int (nI unk), .int (nI cnt)])), ((bd 1), .inl (cI, 120, .inl K)), ((bd 2), .inl (cI, 120, .inl F)), ((bd 3), .inl (cI, 120, .inl S)), ((bd 4), .inl (cI, 120, .inl DD)), ((bd 5), .inl (cI, 5, .inl NU)), ((bd 6), .inl (cI, 120, .inl VA)), ((bd 7), .inl (cI, 120, .inl BE)), ((bd 8), .inl (cI, 128, .inl WA)), ((bd 9), .inl (cI, 30, .inl LE)), ((bd 10), .inl (cI, 30, .inl AA)), ((bd 11), .inl (cI, 30, .inl RI)), ((bd 12), .inl (cI, 10, .inl UN)), ((bd 13), .inl (cZ, 30, .inl CO))] := hD
            refine lv_iconst (v := 0) hx hb d_Mo_changed_103 (by decide) ?_
            exact W.iret (v := 0) hx hb hr (fun t ht hW => ⟨⟨0, ((K, F, S, DD, n), 2), rfl, (chg_2 hok k2 ((nI_eq (b := 60) (by omega) (by decide)).mp c_95)), by rw [ht]; exact hP, va_K.moved hW.alike hK, hD⟩, hS.F ht⟩) hS.2.2 d_Mo_changed_104
      · refine lv_iload hx hb d_Mo_changed_68 (lv_at hl 0 rfl) ?_
        refine lv_iload_n hx hb d_Mo_changed_70 rfl (lv_at hl 5 rfl) ?_
        refine lv_icmp_ne (tgt := 76) hx hb d_Mo_changed_71 (by decide) (fun c_71 => ?_) (fun c_71 => ?_)
        · exact absurd rfl c_71
        · refine lv_iload_n hx hb d_Mo_changed_74 rfl (lv_at hl 3 rfl) ?_
          exact W.iret (v := (nI x)) hx hb hr (fun t ht hW => ⟨⟨(nI x), ((K, F, S, DD, n), th), rfl, (chg_x (q := (2, r1, 0)) hth0 hok hx1 (q3 k2 ((nI_eq (by omega) (by omega)).mp c_65).symm (hrx.2.2.2.2.2 (by omega)))), by rw [ht]; exact hP, va_K.moved hW.alike hK, hD⟩, hS.F ht⟩) hS.2.2 d_Mo_changed_75
  · exact absurd ((nI_leI (a := 2) (by decide) (by omega)).mpr (by omega)) c_7

set_option maxHeartbeats 4000000 in
set_option maxRecDepth 100000 in
theorem c3_Mo_changed (l : Launch) (dC : Nat → ClassId) (dI : Nat → Nat → Nat) (cI cL cZ : ClassId) (bd : Nat → Nat) (th : Int32) (K F S DD : Nat → Int32) (n : Nat) (NU VA BE WA LE AA RI UN CO : Nat → Int32) (unk cnt : Nat) (hn : n ≤ 120) (hunk : unk ≤ 10) (hcnt : cnt ≤ 30) (nd : Nat → Nat × Nat × Nat) (hok : MoOk nd n K F S DD) (x : Nat) (hx1 : x < n) (k3 : 3 ≤ (nd x).1) (r1 : Nat) (hr1 : r1 < n) (hb1 : BE (nd x).2.1 = nI r1) (r2 : Nat) (hr2 : r2 < n) (hb2 : BE (nd x).2.2 = nI r2) (p9 y9 : Nat) (hth0 : th = 0) (sz : Nat) : Met l y_Mo_changed (cw_Mo_changed :: tb) (rmH 4 0 0) (va_Pc [.ref (bd 0), .int (nI x), .int (nI (nd x).2.1), .int (nI (nd x).2.2), .int (nI p9), .int (nI y9)] (wy_P (dC, dI) classes (wMo cI cZ bd th K F S DD n NU VA BE WA LE AA RI UN CO unk cnt) (tyI cI cL cZ) sz)) (wy_Q ry_i (fun r (u : MoS × Int32) => chg (mk1 (nd, n) ((nd x).1, r1, r2)) r u) (wy_B (dC, dI) classes (tyI cI cL cZ) (va_A (wMo cI cZ bd th K F S DD n NU VA BE WA LE AA RI UN CO unk cnt) sz) (fun u : MoS × Int32 => (wMo cI cZ bd u.2 u.1.1 u.1.2.1 u.1.2.2.1 u.1.2.2.2.1 u.1.2.2.2.2 NU VA BE WA LE AA RI UN CO unk cnt))) (va_A (wMo cI cZ bd th K F S DD n NU VA BE WA LE AA RI UN CO unk cnt) sz)) 0 0 (va_A (wMo cI cZ bd th K F S DD n NU VA BE WA LE AA RI UN CO unk cnt) sz) := by
  refine Met.ofW (cc := b_Mo_changed) (maxL := 8) (ret := (some .int)) (by decide +kernel) rfl ?_
  intro p e s m args below meth c s₁ B hml0 hv
  have C0 := cx_of B hml0 rfl
  obtain ⟨hx, hb, hr, hml, hown, htb, hlocks⟩ := id C0
  obtain ⟨rfl, hsz, hP, hK, hD0⟩ := hv
  subst hsz
  have hD := hD0.self (sz := s.heap.size)
  generalize hAe : va_A (wMo cI cZ bd th K F S DD n NU VA BE WA LE AA RI UN CO unk cnt) s.heap.size = A at hD ⊢
  have hA : ∀ q : Nat, s.heap.size ≤ q → A q := fun q h => by rw [← hAe]; exact Or.inr h
  have hS : va_S A s.heap s.heap [] := va_S.rf
  have hl := lv_entry ([.ref (bd 0), .int (nI x), .int (nI (nd x).2.1), .int (nI (nd x).2.2), .int (nI p9), .int (nI y9)]) (n := 8) (Nat.le_of_ble_eq_true rfl)
  rw [lg_entry_eq]
  generalize (lg_sl ([.ref (bd 0), .int (nI x), .int (nI (nd x).2.1), .int (nI (nd x).2.2), .int (nI p9), .int (nI y9)]) ++ List.replicate (8 - (lg_sl ([.ref (bd 0), .int (nI x), .int (nI (nd x).2.1), .int (nI (nd x).2.2), .int (nI p9), .int (nI y9)])).length) Slot.unset).toArray = ls at hl ⊢
  have hl : lv_has ls 8 [(0, .ref (bd 0)), (1, .int (nI x)), (2, .int (nI (nd x).2.1)), (3, .int (nI (nd x).2.2)), (4, .int (nI p9)), (5, .int (nI y9))] := hl
  have hP : va_P (dC, dI) classes [((bd 0), .inr (4, [.int th, .ref (bd 1), .ref (bd 2), .ref (bd 3), .ref (bd 4), .int (nI n), .ref (bd 5), .ref (bd 6), .ref (bd 7), .ref (bd 8), .ref (bd 9), .ref (bd 10), .ref (bd 11), .ref (bd 12), .ref (bd 13), .int (nI unk), .int (nI cnt)])), ((bd 1), .inl (cI, 120, .inl K)), ((bd 2), .inl (cI, 120, .inl F)), ((bd 3), .inl (cI, 120, .inl S)), ((bd 4), .inl (cI, 120, .inl DD)), ((bd 5), .inl (cI, 5, .inl NU)), ((bd 6), .inl (cI, 120, .inl VA)), ((bd 7), .inl (cI, 120, .inl BE)), ((bd 8), .inl (cI, 128, .inl WA)), ((bd 9), .inl (cI, 30, .inl LE)), ((bd 10), .inl (cI, 30, .inl AA)), ((bd 11), .inl (cI, 30, .inl RI)), ((bd 12), .inl (cI, 10, .inl UN)), ((bd 13), .inl (cZ, 30, .inl CO))] s.heap := hP
  have hD : va_D A [((bd 0), .inr (4, [.int th, .ref (bd 1), .ref (bd 2), .ref (bd 3), .ref (bd 4), .int (nI n), .ref (bd 5), .ref (bd 6), .ref (bd 7), .ref (bd 8), .ref (bd 9), .ref (bd 10), .ref (bd 11), .ref (bd 12), .ref (bd 13), .int (nI unk), .int (nI cnt)])), ((bd 1), .inl (cI, 120, .inl K)), ((bd 2), .inl (cI, 120, .inl F)), ((bd 3), .inl (cI, 120, .inl S)), ((bd 4), .inl (cI, 120, .inl DD)), ((bd 5), .inl (cI, 5, .inl NU)), ((bd 6), .inl (cI, 120, .inl VA)), ((bd 7), .inl (cI, 120, .inl BE)), ((bd 8), .inl (cI, 128, .inl WA)), ((bd 9), .inl (cI, 30, .inl LE)), ((bd 10), .inl (cI, 30, .inl AA)), ((bd 11), .inl (cI, 30, .inl RI)), ((bd 12), .inl (cI, 10, .inl UN)), ((bd 13), .inl (cZ, 30, .inl CO))] := hD
  have hA0 := hA
  have hrx := hok.1.2.1 x hx1
  have hkx := (hok.2.1 x hx1).1
  have hkb := hrx.1
  refine lv_aload_n hx hb d_Mo_changed_0 rfl (lv_at hl 0 rfl) ?_
  refine va_get (D := (dC, dI)) (ci := 4) (v := .ref (bd 1)) (C := R_Mo) (T := F_Mo) (N := 17) hx hb htb ul_Mo hown hK hP 0 rfl rfl 1 (by decide) (htb _ mw_549) (fun _ h9 => h9) rfl d_Mo_changed_1 ?_
  refine lv_iload_n hx hb d_Mo_changed_4 rfl (lv_at hl 1 rfl) ?_
  refine ry_iald (D := (dC, dI)) (j := x) hx hb hK hP 1 0 rfl rfl (by omega) (by decide) d_Mo_changed_5 ?_
  rw [hkx]
  refine lv_iconst (v := 2) hx hb d_Mo_changed_6 (by decide) ?_
  refine lv_icmp_ge (tgt := 38) hx hb d_Mo_changed_7 (by decide) (fun c_7 => ?_) (fun c_7 => ?_)
  · have ha := hrx.2.2.1 (by omega)
    have hb9 := hrx.2.2.2.1 (by omega)
    have hdr := hok.2.2 r1 hr1
    have hdb := hok.1.2.2.1 r1 hr1
    refine lv_aload_n hx hb d_Mo_changed_38 rfl (lv_at hl 0 rfl) ?_
    refine va_get (D := (dC, dI)) (ci := 4) (v := .ref (bd 7)) (C := R_Mo) (T := F_Mo) (N := 17) hx hb htb ul_Mo hown hK hP 0 rfl rfl 8 (by decide) (htb _ mw_556) (fun _ h9 => h9) rfl d_Mo_changed_39 ?_
    refine lv_iload_n hx hb d_Mo_changed_42 rfl (lv_at hl 2 rfl) ?_
    refine ry_iald (D := (dC, dI)) (j := (nd x).2.1) hx hb hK hP 7 0 rfl rfl (by omega) (by decide) d_Mo_changed_43 ?_
    rw [hb1]
    refine lv_istore (lv' := [(6, .int (nI r1)), (0, .ref (bd 0)), (1, .int (nI x)), (2, .int (nI (nd x).2.1)), (3, .int (nI (nd x).2.2)), (4, .int (nI p9)), (5, .int (nI y9))]) hx hb d_Mo_changed_44 hl (by decide) rfl (fun ls hl => ?_)
    refine lv_iload_n hx hb d_Mo_changed_46 rfl (lv_at hl 4 rfl) ?_
    refine lv_if_ge (tgt := 54) hx hb d_Mo_changed_47 (by decide) (fun c_47 => ?_) (fun c_47 => ?_)
    · refine lv_aload_n hx hb d_Mo_changed_54 rfl (lv_at hl 1 rfl) ?_
      refine va_get (D := (dC, dI)) (ci := 4) (v := .ref (bd 7)) (C := R_Mo) (T := F_Mo) (N := 17) hx hb htb ul_Mo hown hK hP 0 rfl rfl 8 (by decide) (htb _ mw_556) (fun _ h9 => h9) rfl d_Mo_changed_55 ?_
      refine lv_iload_n hx hb d_Mo_changed_58 rfl (lv_at hl 4 rfl) ?_
      refine ry_iald (D := (dC, dI)) (j := (nd x).2.2) hx hb hK hP 7 0 rfl rfl (by omega) (by decide) d_Mo_changed_59 ?_
      rw [hb2]
      refine lv_istore (lv' := [(7, .int (nI r2)), (6, .int (nI r1)), (0, .ref (bd 0)), (1, .int (nI x)), (2, .int (nI (nd x).2.1)), (3, .int (nI (nd x).2.2)), (4, .int (nI p9)), (5, .int (nI y9))]) hx hb d_Mo_changed_60 hl (by decide) rfl (fun ls hl => ?_)
      refine lv_iload hx hb d_Mo_changed_62 (lv_at hl 1 rfl) ?_
      refine lv_iload_n hx hb d_Mo_changed_64 rfl (lv_at hl 4 rfl) ?_
      refine lv_icmp_ne (tgt := 76) hx hb d_Mo_changed_65 (by decide) (fun c_65 => ?_) (fun c_65 => ?_)
      · refine lv_aload_n hx hb d_Mo_changed_76 rfl (lv_at hl 2 rfl) ?_
        refine va_get (D := (dC, dI)) (ci := 4) (v := .ref (bd 1)) (C := R_Mo) (T := F_Mo) (N := 17) hx hb htb ul_Mo hown hK hP 0 rfl rfl 1 (by decide) (htb _ mw_549) (fun _ h9 => h9) rfl d_Mo_changed_77 ?_
        refine lv_iload_n hx hb d_Mo_changed_80 rfl (lv_at hl 3 rfl) ?_
        refine ry_iald (D := (dC, dI)) (j := x) hx hb hK hP 1 0 rfl rfl (by omega) (by decide) d_Mo_changed_81 ?_
        rw [hkx]
        refine lv_iconst (v := 2) hx hb d_Mo_changed_82 (by decide) ?_
        refine lv_icmp_ne (tgt := 105) hx hb d_Mo_changed_83 (by decide) (fun c_83 => ?_) (fun c_83 => ?_)
        · refine lv_aload_n hx hb d_Mo_changed_105 rfl (lv_at hl 2 rfl) ?_
          refine lv_aload_n hx hb d_Mo_changed_106 rfl (lv_at hl 2 rfl) ?_
          refine va_get (D := (dC, dI)) (ci := 4) (v := .ref (bd 1)) (C := R_Mo) (T := F_Mo) (N := 17) hx hb htb ul_Mo hown hK hP 0 rfl rfl 1 (by decide) (htb _ mw_549) (fun _ h9 => h9) rfl d_Mo_changed_107 ?_
          refine lv_iload_n hx hb d_Mo_changed_110 rfl (lv_at hl 3 rfl) ?_
          refine ry_iald (D := (dC, dI)) (j := x) hx hb hK hP 1 0 rfl rfl (by omega) (by decide) d_Mo_changed_111 ?_
          rw [hkx]
          refine lv_iload hx hb d_Mo_changed_112 (lv_at hl 1 rfl) ?_
          refine lv_iload hx hb d_Mo_changed_114 (lv_at hl 0 rfl) ?_
          refine lv_iconst (v := 3) hx hb d_Mo_changed_116 (by decide) ?_
          have hdd : ¬ ((((nd x).1, r1, r2) : Nat × Nat × Nat).1 = 2 ∧ 60 ≤ dp nd (((nd x).1, r1, r2) : Nat × Nat × Nat).2.1) := (fun z => by have h9 : (nd x).1 = 2 := z.1; omega)
          refine W.eq (g2 := F0 m 117 ls [.int 3, .int (fS ((nd x).1, r1, r2)), .int (fF ((nd x).1, r1, r2)), .int (nI (nd x).1), .ref (bd 0)]) (by rw [fF_n (show 1 ≤ (((nd x).1, r1, r2) : Nat × Nat × Nat).1 by show 1 ≤ (nd x).1; omega), fS_n (show 3 ≤ (((nd x).1, r1, r2) : Nat × Nat × Nat).1 from k3)]) ?_
          refine wy_callV (n := 4) (wr := []) (As := [.int (nI (nd x).1), .int (fF ((nd x).1, r1, r2)), .int (fS ((nd x).1, r1, r2)), .int 3]) (rest := []) ⟨hx, hb, hml, hown, htb⟩ (c_Mo_made l dC dI cI cL cZ bd th K F S DD n NU VA BE WA LE AA RI UN CO unk cnt hn hunk hcnt nd hok ((nd x).1, r1, r2) (rowk k3 hkb hr1 hr2) hdd 3 s.heap.size) (gV mw_608 mw_610 mp_17 mw_5 mc_Mo_made) rfl rfl (by decide +kernel) ⟨Nat.le_of_ble_eq_true rfl, Nat.le_of_ble_eq_true rfl⟩ hP hD hS hA hK [0, 1, 2, 3, 4, 5, 6, 7, 8, 9, 10, 11, 12, 13] [] rfl rfl (by decide) (by decide) (hP.sub [0, 1, 2, 3, 4, 5, 6, 7, 8, 9, 10, 11, 12, 13] rfl) ((hD.sub [0, 1, 2, 3, 4, 5, 6, 7, 8, 9, 10, 11, 12, 13] (by decide) rfl).weaken (fun _ _ _ _ => trivial)) (ci := 4) (q0 := 0) rfl rfl rfl rfl hl.1 rfl (Nat.le_of_ble_eq_true rfl) d_Mo_changed_117 ⟨Nat.le_of_ble_eq_true rfl, Nat.le_of_ble_eq_true rfl⟩ (fun r u H locs hpost hP hD hS => ?_)
          have hP : va_P (dC, dI) classes [((bd 0), .inr (4, [.int u.2, .ref (bd 1), .ref (bd 2), .ref (bd 3), .ref (bd 4), .int (nI u.1.2.2.2.2), .ref (bd 5), .ref (bd 6), .ref (bd 7), .ref (bd 8), .ref (bd 9), .ref (bd 10), .ref (bd 11), .ref (bd 12), .ref (bd 13), .int (nI unk), .int (nI cnt)])), ((bd 1), .inl (cI, 120, .inl u.1.1)), ((bd 2), .inl (cI, 120, .inl u.1.2.1)), ((bd 3), .inl (cI, 120, .inl u.1.2.2.1)), ((bd 4), .inl (cI, 120, .inl u.1.2.2.2.1)), ((bd 5), .inl (cI, 5, .inl NU)), ((bd 6), .inl (cI, 120, .inl VA)), ((bd 7), .inl (cI, 120, .inl BE)), ((bd 8), .inl (cI, 128, .inl WA)), ((bd 9), .inl (cI, 30, .inl LE)), ((bd 10), .inl (cI, 30, .inl AA)), ((bd 11), .inl (cI, 30, .inl RI)), ((bd 12), .inl (cI, 10, .inl UN)), ((bd 13), .inl (cZ, 30, .inl CO))] H := hP
          have hD : va_D A [((bd 0), .inr (4, [.int u.2, .ref (bd 1), .ref (bd 2), .ref (bd 3), .ref (bd 4), .int (nI u.1.2.2.2.2), .ref (bd 5), .ref (bd 6), .ref (bd 7), .ref (bd 8), .ref (bd 9), .ref (bd 10), .ref (bd 11), .ref (bd 12), .ref (bd 13), .int (nI unk), .int (nI cnt)])), ((bd 1), .inl (cI, 120, .inl u.1.1)), ((bd 2), .inl (cI, 120, .inl u.1.2.1)), ((bd 3), .inl (cI, 120, .inl u.1.2.2.1)), ((bd 4), .inl (cI, 120, .inl u.1.2.2.2.1)), ((bd 5), .inl (cI, 5, .inl NU)), ((bd 6), .inl (cI, 120, .inl VA)), ((bd 7), .inl (cI, 120, .inl BE)), ((bd 8), .inl (cI, 128, .inl WA)), ((bd 9), .inl (cI, 30, .inl LE)), ((bd 10), .inl (cI, 30, .inl AA)), ((bd 11), .inl (cI, 30, .inl RI)), ((bd 12), .inl (cI, 10, .inl UN)), ((bd 13), .inl (cZ, 30, .inl CO))] := hD
          refine W.eq (g2 := F0 m 120 ls [.int r]) rfl ?_
          exact W.iret (v := r) hx hb hr (fun t ht hW => ⟨⟨r, u, rfl, (mdp_mk1 hok.1 hdd hpost), by rw [ht]; exact hP, va_K.moved hW.alike hK, hD⟩, hS.F ht⟩) hS.2.2 d_Mo_changed_120
        · exact absurd ((nI_eq (b := 2) (by omega) (by decide)).mp c_83) (by omega)
      · refine lv_iload hx hb d_Mo_changed_68 (lv_at hl 0 rfl) ?_
        refine lv_iload_n hx hb d_Mo_changed_70 rfl (lv_at hl 5 rfl) ?_
        refine lv_icmp_ne (tgt := 76) hx hb d_Mo_changed_71 (by decide) (fun c_71 => ?_) (fun c_71 => ?_)
        · refine lv_aload_n hx hb d_Mo_changed_76 rfl (lv_at hl 2 rfl) ?_
          refine va_get (D := (dC, dI)) (ci := 4) (v := .ref (bd 1)) (C := R_Mo) (T := F_Mo) (N := 17) hx hb htb ul_Mo hown hK hP 0 rfl rfl 1 (by decide) (htb _ mw_549) (fun _ h9 => h9) rfl d_Mo_changed_77 ?_
          refine lv_iload_n hx hb d_Mo_changed_80 rfl (lv_at hl 3 rfl) ?_
          refine ry_iald (D := (dC, dI)) (j := x) hx hb hK hP 1 0 rfl rfl (by omega) (by decide) d_Mo_changed_81 ?_
          rw [hkx]
          refine lv_iconst (v := 2) hx hb d_Mo_changed_82 (by decide) ?_
          refine lv_icmp_ne (tgt := 105) hx hb d_Mo_changed_83 (by decide) (fun c_83 => ?_) (fun c_83 => ?_)
          · refine lv_aload_n hx hb d_Mo_changed_105 rfl (lv_at hl 2 rfl) ?_
            refine lv_aload_n hx hb d_Mo_changed_106 rfl (lv_at hl 2 rfl) ?_
            refine va_get (D := (dC, dI)) (ci := 4) (v := .ref (bd 1)) (C := R_Mo) (T := F_Mo) (N := 17) hx hb htb ul_Mo hown hK hP 0 rfl rfl 1 (by decide) (htb _ mw_549) (fun _ h9 => h9) rfl d_Mo_changed_107 ?_
            refine lv_iload_n hx hb d_Mo_changed_110 rfl (lv_at hl 3 rfl) ?_
            refine ry_iald (D := (dC, dI)) (j := x) hx hb hK hP 1 0 rfl rfl (by omega) (by decide) d_Mo_changed_111 ?_
            rw [hkx]
            refine lv_iload hx hb d_Mo_changed_112 (lv_at hl 1 rfl) ?_
            refine lv_iload hx hb d_Mo_changed_114 (lv_at hl 0 rfl) ?_
            refine lv_iconst (v := 3) hx hb d_Mo_changed_116 (by decide) ?_
            have hdd : ¬ ((((nd x).1, r1, r2) : Nat × Nat × Nat).1 = 2 ∧ 60 ≤ dp nd (((nd x).1, r1, r2) : Nat × Nat × Nat).2.1) := (fun z => by have h9 : (nd x).1 = 2 := z.1; omega)
            refine W.eq (g2 := F0 m 117 ls [.int 3, .int (fS ((nd x).1, r1, r2)), .int (fF ((nd x).1, r1, r2)), .int (nI (nd x).1), .ref (bd 0)]) (by rw [fF_n (show 1 ≤ (((nd x).1, r1, r2) : Nat × Nat × Nat).1 by show 1 ≤ (nd x).1; omega), fS_n (show 3 ≤ (((nd x).1, r1, r2) : Nat × Nat × Nat).1 from k3)]) ?_
            refine wy_callV (n := 4) (wr := []) (As := [.int (nI (nd x).1), .int (fF ((nd x).1, r1, r2)), .int (fS ((nd x).1, r1, r2)), .int 3]) (rest := []) ⟨hx, hb, hml, hown, htb⟩ (c_Mo_made l dC dI cI cL cZ bd th K F S DD n NU VA BE WA LE AA RI UN CO unk cnt hn hunk hcnt nd hok ((nd x).1, r1, r2) (rowk k3 hkb hr1 hr2) hdd 3 s.heap.size) (gV mw_608 mw_610 mp_17 mw_5 mc_Mo_made) rfl rfl (by decide +kernel) ⟨Nat.le_of_ble_eq_true rfl, Nat.le_of_ble_eq_true rfl⟩ hP hD hS hA hK [0, 1, 2, 3, 4, 5, 6, 7, 8, 9, 10, 11, 12, 13] [] rfl rfl (by decide) (by decide) (hP.sub [0, 1, 2, 3, 4, 5, 6, 7, 8, 9, 10, 11, 12, 13] rfl) ((hD.sub [0, 1, 2, 3, 4, 5, 6, 7, 8, 9, 10, 11, 12, 13] (by decide) rfl).weaken (fun _ _ _ _ => trivial)) (ci := 4) (q0 := 0) rfl rfl rfl rfl hl.1 rfl (Nat.le_of_ble_eq_true rfl) d_Mo_changed_117 ⟨Nat.le_of_ble_eq_true rfl, Nat.le_of_ble_eq_true rfl⟩ (fun r u H locs hpost hP hD hS => ?_)
            have hP : va_P (dC, dI) classes [((bd 0), .inr (4, [.int u.2, .ref (bd 1), .ref (bd 2), .ref (bd 3), .ref (bd 4), .int (nI u.1.2.2.2.2), .ref (bd 5), .ref (bd 6), .ref (bd 7), .ref (bd 8), .ref (bd 9), .ref (bd 10), .ref (bd 11), .ref (bd 12), .ref (bd 13), .int (nI unk), .int (nI cnt)])), ((bd 1), .inl (cI, 120, .inl u.1.1)), ((bd 2), .inl (cI, 120, .inl u.1.2.1)), ((bd 3), .inl (cI, 120, .inl u.1.2.2.1)), ((bd 4), .inl (cI, 120, .inl u.1.2.2.2.1)), ((bd 5), .inl (cI, 5, .inl NU)), ((bd 6), .inl (cI, 120, .inl VA)), ((bd 7), .inl (cI, 120, .inl BE)), ((bd 8), .inl (cI, 128, .inl WA)), ((bd 9), .inl (cI, 30, .inl LE)), ((bd 10), .inl (cI, 30, .inl AA)), ((bd 11), .inl (cI, 30, .inl RI)), ((bd 12), .inl (cI, 10, .inl UN)), ((bd 13), .inl (cZ, 30, .inl CO))] H := hP
            have hD : va_D A [((bd 0), .inr (4, [.int u.2, .ref (bd 1), .ref (bd 2), .ref (bd 3), .ref (bd 4), .int (nI u.1.2.2.2.2), .ref (bd 5), .ref (bd 6), .ref (bd 7), .ref (bd 8), .ref (bd 9), .ref (bd 10), .ref (bd 11), .ref (bd 12), .ref (bd 13), .int (nI unk), .int (nI cnt)])), ((bd 1), .inl (cI, 120, .inl u.1.1)), ((bd 2), .inl (cI, 120, .inl u.1.2.1)), ((bd 3), .inl (cI, 120, .inl u.1.2.2.1)), ((bd 4), .inl (cI, 120, .inl u.1.2.2.2.1)), ((bd 5), .inl (cI, 5, .inl NU)), ((bd 6), .inl (cI, 120, .inl VA)), ((bd 7), .inl (cI, 120, .inl BE)), ((bd 8), .inl (cI, 128, .inl WA)), ((bd 9), .inl (cI, 30, .inl LE)), ((bd 10), .inl (cI, 30, .inl AA)), ((bd 11), .inl (cI, 30, .inl RI)), ((bd 12), .inl (cI, 10, .inl UN)), ((bd 13), .inl (cZ, 30, .inl CO))] := hD
            refine W.eq (g2 := F0 m 120 ls [.int r]) rfl ?_
            exact W.iret (v := r) hx hb hr (fun t ht hW => ⟨⟨r, u, rfl, (mdp_mk1 hok.1 hdd hpost), by rw [ht]; exact hP, va_K.moved hW.alike hK, hD⟩, hS.F ht⟩) hS.2.2 d_Mo_changed_120
          · exact absurd ((nI_eq (b := 2) (by omega) (by decide)).mp c_83) (by omega)
        · refine lv_iload_n hx hb d_Mo_changed_74 rfl (lv_at hl 3 rfl) ?_
          exact W.iret (v := (nI x)) hx hb hr (fun t ht hW => ⟨⟨(nI x), ((K, F, S, DD, n), th), rfl, (chg_x (q := ((nd x).1, r1, r2)) hth0 hok hx1 (q3 rfl ((nI_eq (by omega) (by omega)).mp c_65).symm ((nI_eq (by omega) (by omega)).mp c_71).symm)), by rw [ht]; exact hP, va_K.moved hW.alike hK, hD⟩, hS.F ht⟩) hS.2.2 d_Mo_changed_75
    · exact absurd ((nI_leI (a := 0) (by decide) (by omega)).mpr (Nat.zero_le _)) c_47
  · exact absurd ((nI_leI (a := 2) (by decide) (by omega)).mpr (by omega)) c_7
