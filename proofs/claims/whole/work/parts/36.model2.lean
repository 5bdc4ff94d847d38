set_option maxHeartbeats 4000000 in
set_option maxRecDepth 100000 in
theorem c_Mo_made (l : Launch) (dC : Nat → ClassId) (dI : Nat → Nat → Nat) (cI cL cZ : ClassId) (bd : Nat → Nat) (th : Int32) (K F S DD : Nat → Int32) (n : Nat) (NU VA BE WA LE AA RI UN CO : Nat → Int32) (unk cnt : Nat) (hn : n ≤ 120) (hunk : unk ≤ 10) (hcnt : cnt ≤ 30) (nd : Nat → Nat × Nat × Nat) (hok : MoOk nd n K F S DD) (q : Nat × Nat × Nat) (hq : rowOk q n) (hdd : ¬ (q.1 = 2 ∧ 60 ≤ dp nd q.2.1)) (f : Int32) (sz : Nat) : Met l y_Mo_made (cw_Mo_made :: tb) (rmH 3 0 0) (va_Pc [.ref (bd 0), .int (nI q.1), .int (fF q), .int (fS q), .int f] (wy_P (dC, dI) classes (wMo cI cZ bd th K F S DD n NU VA BE WA LE AA RI UN CO unk cnt) (tyI cI cL cZ) sz)) (wy_Q ry_i (fun r (u : MoS × Int32) => ∃ nd', mdp nd n q f r u.2 nd' u.1.2.2.2.2 ∧ MoU nd' u.1) (wy_B (dC, dI) classes (tyI cI cL cZ) (va_A (wMo cI cZ bd th K F S DD n NU VA BE WA LE AA RI UN CO unk cnt) sz) (fun u : MoS × Int32 => (wMo cI cZ bd u.2 u.1.1 u.1.2.1 u.1.2.2.1 u.1.2.2.2.1 u.1.2.2.2.2 NU VA BE WA LE AA RI UN CO unk cnt))) (va_A (wMo cI cZ bd th K F S DD n NU VA BE WA LE AA RI UN CO unk cnt) sz)) 0 0 (va_A (wMo cI cZ bd th K F S DD n NU VA BE WA LE AA RI UN CO unk cnt) sz) := by
  refine Met.ofW (cc := b_Mo_made) (maxL := 6) (ret := (some .int)) (by decide +kernel) rfl ?_
  intro p e s m args below meth c s₁ B hml0 hv
  have C0 := cx_of B hml0 rfl
  obtain ⟨hx, hb, hr, hml, hown, htb, hlocks⟩ := id C0
  obtain ⟨rfl, hsz, hP, hK, hD0⟩ := hv
  subst hsz
  have hD := hD0.self (sz := s.heap.size)
  generalize hAe : va_A (wMo cI cZ bd th K F S DD n NU VA BE WA LE AA RI UN CO unk cnt) s.heap.size = A at hD ⊢
  have hA : ∀ q : Nat, s.heap.size ≤ q → A q := fun q h => by rw [← hAe]; exact Or.inr h
  have hS : va_S A s.heap s.heap [] := va_S.rf
  have hl := lv_entry ([.ref (bd 0), .int (nI q.1), .int (fF q), .int (fS q), .int f]) (n := 6) (Nat.le_of_ble_eq_true rfl)
  rw [lg_entry_eq]
  generalize (lg_sl ([.ref (bd 0), .int (nI q.1), .int (fF q), .int (fS q), .int f]) ++ List.replicate (6 - (lg_sl ([.ref (bd 0), .int (nI q.1), .int (fF q), .int (fS q), .int f])).length) Slot.unset).toArray = ls at hl ⊢
  have hl : lv_has ls 6 [(0, .ref (bd 0)), (1, .int (nI q.1)), (2, .int (fF q)), (3, .int (fS q)), (4, .int f)] := hl
  have hP : va_P (dC, dI) classes [((bd 0), .inr (4, [.int th, .ref (bd 1), .ref (bd 2), .ref (bd 3), .ref (bd 4), .int (nI n), .ref (bd 5), .ref (bd 6), .ref (bd 7), .ref (bd 8), .ref (bd 9), .ref (bd 10), .ref (bd 11), .ref (bd 12), .ref (bd 13), .int (nI unk), .int (nI cnt)])), ((bd 1), .inl (cI, 120, .inl K)), ((bd 2), .inl (cI, 120, .inl F)), ((bd 3), .inl (cI, 120, .inl S)), ((bd 4), .inl (cI, 120, .inl DD)), ((bd 5), .inl (cI, 5, .inl NU)), ((bd 6), .inl (cI, 120, .inl VA)), ((bd 7), .inl (cI, 120, .inl BE)), ((bd 8), .inl (cI, 128, .inl WA)), ((bd 9), .inl (cI, 30, .inl LE)), ((bd 10), .inl (cI, 30, .inl AA)), ((bd 11), .inl (cI, 30, .inl RI)), ((bd 12), .inl (cI, 10, .inl UN)), ((bd 13), .inl (cZ, 30, .inl CO))] s.heap := hP
  have hD : va_D A [((bd 0), .inr (4, [.int th, .ref (bd 1), .ref (bd 2), .ref (bd 3), .ref (bd 4), .int (nI n), .ref (bd 5), .ref (bd 6), .ref (bd 7), .ref (bd 8), .ref (bd 9), .ref (bd 10), .ref (bd 11), .ref (bd 12), .ref (bd 13), .int (nI unk), .int (nI cnt)])), ((bd 1), .inl (cI, 120, .inl K)), ((bd 2), .inl (cI, 120, .inl F)), ((bd 3), .inl (cI, 120, .inl S)), ((bd 4), .inl (cI, 120, .inl DD)), ((bd 5), .inl (cI, 5, .inl NU)), ((bd 6), .inl (cI, 120, .inl VA)), ((bd 7), .inl (cI, 120, .inl BE)), ((bd 8), .inl (cI, 128, .inl WA)), ((bd 9), .inl (cI, 30, .inl LE)), ((bd 10), .inl (cI, 30, .inl AA)), ((bd 11), .inl (cI, 30, .inl RI)), ((bd 12), .inl (cI, 10, .inl UN)), ((bd 13), .inl (cZ, 30, .inl CO))] := hD
  have hA0 := hA
  refine lv_aload_n hx hb d_Mo_made_0 rfl (lv_at hl 0 rfl) ?_
  refine lv_iload_n hx hb d_Mo_made_1 rfl (lv_at hl 1 rfl) ?_
  refine lv_iload_n hx hb d_Mo_made_2 rfl (lv_at hl 2 rfl) ?_
  refine lv_iload_n hx hb d_Mo_made_3 rfl (lv_at hl 3 rfl) ?_
  refine wy_callV (n := 3) (wr := []) (As := [.int (nI q.1), .int (fF q), .int (fS q)]) (rest := []) ⟨hx, hb, hml, hown, htb⟩ (c_Mo_make l dC dI cI cL cZ bd th K F S DD n NU VA BE WA LE AA RI UN CO unk cnt hn hunk hcnt nd hok q hq hdd s.heap.size) (gV mw_612 mw_614 mp_18 mw_5 mc_Mo_make) rfl rfl (by decide +kernel) ⟨Nat.le_of_ble_eq_true rfl, Nat.le_of_ble_eq_true rfl⟩ hP hD hS hA hK [0, 1, 2, 3, 4, 5, 6, 7, 8, 9, 10, 11, 12, 13] [] rfl rfl (by decide) (by decide) (hP.sub [0, 1, 2, 3, 4, 5, 6, 7, 8, 9, 10, 11, 12, 13] rfl) ((hD.sub [0, 1, 2, 3, 4, 5, 6, 7, 8, 9, 10, 11, 12, 13] (by decide) rfl).weaken (fun _ _ _ _ => trivial)) (ci := 4) (q0 := 0) rfl rfl rfl rfl hl.1 rfl (Nat.le_of_ble_eq_true rfl) d_Mo_made_4 ⟨Nat.le_of_ble_eq_true rfl, Nat.le_of_ble_eq_true rfl⟩ (fun r u H locs hpost hP hD hS => ?_)
  obtain ⟨nd', hm, hu⟩ := hpost
  have hP : va_P (dC, dI) classes [((bd 0), .inr (4, [.int th, .ref (bd 1), .ref (bd 2), .ref (bd 3), .ref (bd 4), .int (nI u.2.2.2.2), .ref (bd 5), .ref (bd 6), .ref (bd 7), .ref (bd 8), .ref (bd 9), .ref (bd 10), .ref (bd 11), .ref (bd 12), .ref (bd 13), .int (nI unk), .int (nI cnt)])), ((bd 1), .inl (cI, 120, .inl u.1)), ((bd 2), .inl (cI, 120, .inl u.2.1)), ((bd 3), .inl (cI, 120, .inl u.2.2.1)), ((bd 4), .inl (cI, 120, .inl u.2.2.2.1)), ((bd 5), .inl (cI, 5, .inl NU)), ((bd 6), .inl (cI, 120, .inl VA)), ((bd 7), .inl (cI, 120, .inl BE)), ((bd 8), .inl (cI, 128, .inl WA)), ((bd 9), .inl (cI, 30, .inl LE)), ((bd 10), .inl (cI, 30, .inl AA)), ((bd 11), .inl (cI, 30, .inl RI)), ((bd 12), .inl (cI, 10, .inl UN)), ((bd 13), .inl (cZ, 30, .inl CO))] H := hP
  have hD : va_D A [((bd 0), .inr (4, [.int th, .ref (bd 1), .ref (bd 2), .ref (bd 3), .ref (bd 4), .int (nI u.2.2.2.2), .ref (bd 5), .ref (bd 6), .ref (bd 7), .ref (bd 8), .ref (bd 9), .ref (bd 10), .ref (bd 11), .ref (bd 12), .ref (bd 13), .int (nI unk), .int (nI cnt)])), ((bd 1), .inl (cI, 120, .inl u.1)), ((bd 2), .inl (cI, 120, .inl u.2.1)), ((bd 3), .inl (cI, 120, .inl u.2.2.1)), ((bd 4), .inl (cI, 120, .inl u.2.2.2.1)), ((bd 5), .inl (cI, 5, .inl NU)), ((bd 6), .inl (cI, 120, .inl VA)), ((bd 7), .inl (cI, 120, .inl BE)), ((bd 8), .inl (cI, 128, .inl WA)), ((bd 9), .inl (cI, 30, .inl LE)), ((bd 10), .inl (cI, 30, .inl AA)), ((bd 11), .inl (cI, 30, .inl RI)), ((bd 12), .inl (cI, 10, .inl UN)), ((bd 13), .inl (cZ, 30, .inl CO))] := hD
  refine W.eq (g2 := F0 m 7 ls [.int r]) rfl ?_
  refine lv_istore (lv' := [(5, .int r), (0, .ref (bd 0)), (1, .int (nI q.1)), (2, .int (fF q)), (3, .int (fS q)), (4, .int f)]) hx hb d_Mo_made_7 hl (by decide) rfl (fun ls hl => ?_)
  refine lv_aload_n hx hb d_Mo_made_9 rfl (lv_at hl 1 rfl) ?_
  refine lv_iload hx hb d_Mo_made_10 (lv_at hl 0 rfl) ?_
  refine lv_iconst (v := (-1)) hx hb d_Mo_made_12 (by decide) ?_
  refine lv_icmp_ne (tgt := 21) hx hb d_Mo_made_13 (by decide) (fun c_13 => ?_) (fun c_13 => ?_)
  · refine lv_iconst (v := 0) hx hb d_Mo_made_21 (by decide) ?_
    refine va_put (D := (dC, dI)) (ci := 4) (v := .int 0) (ty := .int) (C := R_Mo) (T := F_Mo) (N := 17) hx hb htb ul_Mo t_Mo t_Mo_ok n_Mo hown hK hP hD hS 0 rfl rfl 0 (by decide) (htb _ mw_548) (fun _ h9 => h9) rfl (by decide +kernel) rfl rfl (Nat.le_of_ble_eq_true rfl) d_Mo_made_22 (fun H locs hP hD hS => ?_)
    have hP : va_P (dC, dI) classes [((bd 0), .inr (4, [.int 0, .ref (bd 1), .ref (bd 2), .ref (bd 3), .ref (bd 4), .int (nI u.2.2.2.2), .ref (bd 5), .ref (bd 6), .ref (bd 7), .ref (bd 8), .ref (bd 9), .ref (bd 10), .ref (bd 11), .ref (bd 12), .ref (bd 13), .int (nI unk), .int (nI cnt)])), ((bd 1), .inl (cI, 120, .inl u.1)), ((bd 2), .inl (cI, 120, .inl u.2.1)), ((bd 3), .inl (cI, 120, .inl u.2.2.1)), ((bd 4), .inl (cI, 120, .inl u.2.2.2.1)), ((bd 5), .inl (cI, 5, .inl NU)), ((bd 6), .inl (cI, 120, .inl VA)), ((bd 7), .inl (cI, 120, .inl BE)), ((bd 8), .inl (cI, 128, .inl WA)), ((bd 9), .inl (cI, 30, .inl LE)), ((bd 10), .inl (cI, 30, .inl AA)), ((bd 11), .inl (cI, 30, .inl RI)), ((bd 12), .inl (cI, 10, .inl UN)), ((bd 13), .inl (cZ, 30, .inl CO))] H := hP
    have hD : va_D A [((bd 0), .inr (4, [.int 0, .ref (bd 1), .ref (bd 2), .ref (bd 3), .ref (bd 4), .int (nI u.2.2.2.2), .ref (bd 5), .ref (bd 6), .ref (bd 7), .ref (bd 8), .ref (bd 9), .ref (bd 10), .ref (bd 11), .ref (bd 12), .ref (bd 13), .int (nI unk), .int (nI cnt)])), ((bd 1), .inl (cI, 120, .inl u.1)), ((bd 2), .inl (cI, 120, .inl u.2.1)), ((bd 3), .inl (cI, 120, .inl u.2.2.1)), ((bd 4), .inl (cI, 120, .inl u.2.2.2.1)), ((bd 5), .inl (cI, 5, .inl NU)), ((bd 6), .inl (cI, 120, .inl VA)), ((bd 7), .inl (cI, 120, .inl BE)), ((bd 8), .inl (cI, 128, .inl WA)), ((bd 9), .inl (cI, 30, .inl LE)), ((bd 10), .inl (cI, 30, .inl AA)), ((bd 11), .inl (cI, 30, .inl RI)), ((bd 12), .inl (cI, 10, .inl UN)), ((bd 13), .inl (cZ, 30, .inl CO))] := hD
    refine lv_iload hx hb d_Mo_made_25 (lv_at hl 0 rfl) ?_
    refine lv_iconst (v := (-1)) hx hb d_Mo_made_27 (by decide) ?_
    refine lv_icmp_ne (tgt := 35) hx hb d_Mo_made_28 (by decide) (fun c_28 => ?_) (fun c_28 => ?_)
    · refine lv_iload hx hb d_Mo_made_35 (lv_at hl 0 rfl) ?_
      exact W.iret (v := r) hx hb hr (fun t ht hW => ⟨⟨r, (u, 0), rfl, ⟨nd', Or.inl ⟨mkm_yes hm c_13, rfl⟩, hu⟩, by rw [ht]; exact hP, va_K.moved hW.alike hK, hD⟩, hS.F ht⟩) hS.2.2 d_Mo_made_37
    · exact absurd c_28 c_13
  · refine lv_iload hx hb d_Mo_made_16 (lv_at hl 5 rfl) ?_
    refine lv_goto (tgt := 22) hx hb d_Mo_made_18 (by decide) ?_
    refine va_put (D := (dC, dI)) (ci := 4) (v := .int f) (ty := .int) (C := R_Mo) (T := F_Mo) (N := 17) hx hb htb ul_Mo t_Mo t_Mo_ok n_Mo hown hK hP hD hS 0 rfl rfl 0 (by decide) (htb _ mw_548) (fun _ h9 => h9) rfl (by decide +kernel) rfl rfl (Nat.le_of_ble_eq_true rfl) d_Mo_made_22 (fun H locs hP hD hS => ?_)
    have hP : va_P (dC, dI) classes [((bd 0), .inr (4, [.int f, .ref (bd 1), .ref (bd 2), .ref (bd 3), .ref (bd 4), .int (nI u.2.2.2.2), .ref (bd 5), .ref (bd 6), .ref (bd 7), .ref (bd 8), .ref (bd 9), .ref (bd 10), .ref (bd 11), .ref (bd 12), .ref (bd 13), .int (nI unk), .int (nI cnt)])), ((bd 1), .inl (cI, 120, .inl u.1)), ((bd 2), .inl (cI, 120, .inl u.2.1)), ((bd 3), .inl (cI, 120, .inl u.2.2.1)), ((bd 4), .inl (cI, 120, .inl u.2.2.2.1)), ((bd 5), .inl (cI, 5, .inl NU)), ((bd 6), .inl (cI, 120, .inl VA)), ((bd 7), .inl (cI, 120, .inl BE)), ((bd 8), .inl (cI, 128, .inl WA)), ((bd 9), .inl (cI, 30, .inl LE)), ((bd 10), .inl (cI, 30, .inl AA)), ((bd 11), .inl (cI, 30, .inl RI)), ((bd 12), .inl (cI, 10, .inl UN)), ((bd 13), .inl (cZ, 30, .inl CO))] H := hP
    have hD : va_D A [((bd 0), .inr (4, [.int f, .ref (bd 1), .ref (bd 2), .ref (bd 3), .ref (bd 4), .int (nI u.2.2.2.2), .ref (bd 5), .ref (bd 6), .ref (bd 7), .ref (bd 8), .ref (bd 9), .ref (bd 10), .ref (bd 11), .ref (bd 12), .ref (bd 13), .int (nI unk), .int (nI cnt)])), ((bd 1), .inl (cI, 120, .inl u.1)), ((bd 2), .inl (cI, 120, .inl u.2.1)), ((bd 3), .inl (cI, 120, .inl u.2.2.1)), ((bd 4), .inl (cI, 120, .inl u.2.2.2.1)), ((bd 5), .inl (cI, 5, .inl NU)), ((bd 6), .inl (cI, 120, .inl VA)), ((bd 7), .inl (cI, 120, .inl BE)), ((bd 8), .inl (cI, 128, .inl WA)), ((bd 9), .inl (cI, 30, .inl LE)), ((bd 10), .inl (cI, 30, .inl AA)), ((bd 11), .inl (cI, 30, .inl RI)), ((bd 12), .inl (cI, 10, .inl UN)), ((bd 13), .inl (cZ, 30, .inl CO))] := hD
    refine lv_iload hx hb d_Mo_made_25 (lv_at hl 0 rfl) ?_
    refine lv_iconst (v := (-1)) hx hb d_Mo_made_27 (by decide) ?_
    refine lv_icmp_ne (tgt := 35) hx hb d_Mo_made_28 (by decide) (fun c_28 => ?_) (fun c_28 => ?_)
    · exact absurd c_13 c_28
    · refine lv_iconst (v := 0) hx hb d_Mo_made_31 (by decide) ?_
      refine lv_goto (tgt := 37) hx hb d_Mo_made_32 (by decide) ?_
      exact W.iret (v := 0) hx hb hr (fun t ht hW => ⟨⟨0, (u, f), rfl, ⟨nd', Or.inr (by obtain ⟨a1, a2, a3, a4⟩ := mkm_no hn hm c_13; exact ⟨a1, a2, rfl, rfl, a3, a4⟩), hu⟩, by rw [ht]; exact hP, va_K.moved hW.alike hK, hD⟩, hS.F ht⟩) hS.2.2 d_Mo_made_37

set_option maxHeartbeats 4000000 in
set_option maxRecDepth 100000 in
theorem c_Mo_zero (l : Launch) (dC : Nat → ClassId) (dI : Nat → Nat → Nat) (cI cL cZ : ClassId) (bd : Nat → Nat) (th : Int32) (K F S DD : Nat → Int32) (n : Nat) (NU VA BE WA LE AA RI UN CO : Nat → Int32) (unk cnt : Nat) (hn : n ≤ 120) (hunk : unk ≤ 10) (hcnt : cnt ≤ 30) (nd : Nat → Nat × Nat × Nat) (hok : MoOk nd n K F S DD) (sz : Nat) : Met l y_Mo_zero (cw_Mo_zero :: tb) (rmH 4 0 0) (va_Pc [.ref (bd 0)] (wy_P (dC, dI) classes (wMo cI cZ bd th K F S DD n NU VA BE WA LE AA RI UN CO unk cnt) (tyI cI cL cZ) sz)) (wy_Q ry_i (fun r (u : MoS × Int32) => ∃ nd', mdp nd n (0, 0, 0) 1 r u.2 nd' u.1.2.2.2.2 ∧ MoU nd' u.1) (wy_B (dC, dI) classes (tyI cI cL cZ) (va_A (wMo cI cZ bd th K F S DD n NU VA BE WA LE AA RI UN CO unk cnt) sz) (fun u : MoS × Int32 => (wMo cI cZ bd u.2 u.1.1 u.1.2.1 u.1.2.2.1 u.1.2.2.2.1 u.1.2.2.2.2 NU VA BE WA LE AA RI UN CO unk cnt))) (va_A (wMo cI cZ bd th K F S DD n NU VA BE WA LE AA RI UN CO unk cnt) sz)) 0 0 (va_A (wMo cI cZ bd th K F S DD n NU VA BE WA LE AA RI UN CO unk cnt) sz) := by
  refine Met.ofW (cc := b_Mo_zero) (maxL := 1) (ret := (some .int)) (by decide +kernel) rfl ?_
  intro p e s m args below meth c s₁ B hml0 hv
  have C0 := cx_of B hml0 rfl
  obtain ⟨hx, hb, hr, hml, hown, htb, hlocks⟩ := id C0
  obtain ⟨rfl, hsz, hP, hK, hD0⟩ := hv
  subst hsz
  have hD := hD0.self (sz := s.heap.size)
  generalize hAe : va_A (wMo cI cZ bd th K F S DD n NU VA BE WA LE AA RI UN CO unk cnt) s.heap.size = A at hD ⊢
  have hA : ∀ q : Nat, s.heap.size ≤ q → A q := fun q h => by rw [← hAe]; exact Or.inr h
  have hS : va_S A s.heap s.heap [] := va_S.rf
  have hl := lv_entry ([.ref (bd 0)]) (n := 1) (Nat.le_of_ble_eq_true rfl)
  rw [lg_entry_eq]
  generalize (lg_sl ([.ref (bd 0)]) ++ List.replicate (1 - (lg_sl ([.ref (bd 0)])).length) Slot.unset).toArray = ls at hl ⊢
  have hl : lv_has ls 1 [(0, .ref (bd 0))] := hl
  have hP : va_P (dC, dI) classes [((bd 0), .inr (4, [.int th, .ref (bd 1), .ref (bd 2), .ref (bd 3), .ref (bd 4), .int (nI n), .ref (bd 5), .ref (bd 6), .ref (bd 7), .ref (bd 8), .ref (bd 9), .ref (bd 10), .ref (bd 11), .ref (bd 12), .ref (bd 13), .int (nI unk), .int (nI cnt)])), ((bd 1), .inl (cI, 120, .inl K)), ((bd 2), .inl (cI, 120, .inl F)), ((bd 3), .inl (cI, 120, .inl S)), ((bd 4), .inl (cI, 120, .inl DD)), ((bd 5), .inl (cI, 5, .inl NU)), ((bd 6), .inl (cI, 120, .inl VA)), ((bd 7), .inl (cI, 120, .inl BE)), ((bd 8), .inl (cI, 128, .inl WA)), ((bd 9), .inl (cI, 30, .inl LE)), ((bd 10), .inl (cI, 30, .inl AA)), ((bd 11), .inl (cI, 30, .inl RI)), ((bd 12), .inl (cI, 10, .inl UN)), ((bd 13), .inl (cZ, 30, .inl CO))] s.heap := hP
  have hD : va_D A [((bd 0), .inr (4, [.int th, .ref (bd 1), .ref (bd 2), .ref (bd 3), .ref (bd 4), .int (nI n), .ref (bd 5), .ref (bd 6), .ref (bd 7), .ref (bd 8), .ref (bd 9), .ref (bd 10), .ref (bd 11), .ref (bd 12), .ref (bd 13), .int (nI unk), .int (nI cnt)])), ((bd 1), .inl (cI, 120, .inl K)), ((bd 2), .inl (cI, 120, .inl F)), ((bd 3), .inl (cI, 120, .inl S)), ((bd 4), .inl (cI, 120, .inl DD)), ((bd 5), .inl (cI, 5, .inl NU)), ((bd 6), .inl (cI, 120, .inl VA)), ((bd 7), .inl (cI, 120, .inl BE)), ((bd 8), .inl (cI, 128, .inl WA)), ((bd 9), .inl (cI, 30, .inl LE)), ((bd 10), .inl (cI, 30, .inl AA)), ((bd 11), .inl (cI, 30, .inl RI)), ((bd 12), .inl (cI, 10, .inl UN)), ((bd 13), .inl (cZ, 30, .inl CO))] := hD
  have hA0 := hA
  refine lv_aload_n hx hb d_Mo_zero_0 rfl (lv_at hl 0 rfl) ?_
  refine lv_iconst (v := 0) hx hb d_Mo_zero_1 (by decide) ?_
  refine lv_iconst (v := (-1)) hx hb d_Mo_zero_2 (by decide) ?_
  refine lv_iconst (v := (-1)) hx hb d_Mo_zero_3 (by decide) ?_
  refine lv_iconst (v := 1) hx hb d_Mo_zero_4 (by decide) ?_
  refine wy_callV (n := 4) (wr := []) (As := [.int 0, .int (-1), .int (-1), .int 1]) (rest := []) ⟨hx, hb, hml, hown, htb⟩ (c_Mo_made l dC dI cI cL cZ bd th K F S DD n NU VA BE WA LE AA RI UN CO unk cnt hn hunk hcnt nd hok (0, 0, 0) (row0 n) (fun z => absurd z.1 (by decide)) 1 s.heap.size) (gV mw_608 mw_610 mp_17 mw_5 mc_Mo_made) rfl rfl (by decide +kernel) ⟨Nat.le_of_ble_eq_true rfl, Nat.le_of_ble_eq_true rfl⟩ hP hD hS hA hK [0, 1, 2, 3, 4, 5, 6, 7, 8, 9, 10, 11, 12, 13] [] rfl rfl (by decide) (by decide) (hP.sub [0, 1, 2, 3, 4, 5, 6, 7, 8, 9, 10, 11, 12, 13] rfl) ((hD.sub [0, 1, 2, 3, 4, 5, 6, 7, 8, 9, 10, 11, 12, 13] (by decide) rfl).weaken (fun _ _ _ _ => trivial)) (ci := 4) (q0 := 0) rfl rfl rfl rfl hl.1 rfl (Nat.le_of_ble_eq_true rfl) d_Mo_zero_5 ⟨Nat.le_of_ble_eq_true rfl, Nat.le_of_ble_eq_true rfl⟩ (fun r u H locs hpost hP hD hS => ?_)
  have hP : va_P (dC, dI) classes [((bd 0), .inr (4, [.int u.2, .ref (bd 1), .ref (bd 2), .ref (bd 3), .ref (bd 4), .int (nI u.1.2.2.2.2), .ref (bd 5), .ref (bd 6), .ref (bd 7), .ref (bd 8), .ref (bd 9), .ref (bd 10), .ref (bd 11), .ref (bd 12), .ref (bd 13), .int (nI unk), .int (nI cnt)])), ((bd 1), .inl (cI, 120, .inl u.1.1)), ((bd 2), .inl (cI, 120, .inl u.1.2.1)), ((bd 3), .inl (cI, 120, .inl u.1.2.2.1)), ((bd 4), .inl (cI, 120, .inl u.1.2.2.2.1)), ((bd 5), .inl (cI, 5, .inl NU)), ((bd 6), .inl (cI, 120, .inl VA)), ((bd 7), .inl (cI, 120, .inl BE)), ((bd 8), .inl (cI, 128, .inl WA)), ((bd 9), .inl (cI, 30, .inl LE)), ((bd 10), .inl (cI, 30, .inl AA)), ((bd 11), .inl (cI, 30, .inl RI)), ((bd 12), .inl (cI, 10, .inl UN)), ((bd 13), .inl (cZ, 30, .inl CO))] H := hP
  have hD : va_D A [((bd 0), .inr (4, [.int u.2, .ref (bd 1), .ref (bd 2), .ref (bd 3), .ref (bd 4), .int (nI u.1.2.2.2.2), .ref (bd 5), .ref (bd 6), .ref (bd 7), .ref (bd 8), .ref (bd 9), .ref (bd 10), .ref (bd 11), .ref (bd 12), .ref (bd 13), .int (nI unk), .int (nI cnt)])), ((bd 1), .inl (cI, 120, .inl u.1.1)), ((bd 2), .inl (cI, 120, .inl u.1.2.1)), ((bd 3), .inl (cI, 120, .inl u.1.2.2.1)), ((bd 4), .inl (cI, 120, .inl u.1.2.2.2.1)), ((bd 5), .inl (cI, 5, .inl NU)), ((bd 6), .inl (cI, 120, .inl VA)), ((bd 7), .inl (cI, 120, .inl BE)), ((bd 8), .inl (cI, 128, .inl WA)), ((bd 9), .inl (cI, 30, .inl LE)), ((bd 10), .inl (cI, 30, .inl AA)), ((bd 11), .inl (cI, 30, .inl RI)), ((bd 12), .inl (cI, 10, .inl UN)), ((bd 13), .inl (cZ, 30, .inl CO))] := hD
  refine W.eq (g2 := F0 m 8 ls [.int r]) rfl ?_
  exact W.iret (v := r) hx hb hr (fun t ht hW => ⟨⟨r, u, rfl, hpost, by rw [ht]; exact hP, va_K.moved hW.alike hK, hD⟩, hS.F ht⟩) hS.2.2 d_Mo_zero_8

set_option maxHeartbeats 4000000 in
set_option maxRecDepth 100000 in
theorem c0_Mo_parameter (l : Launch) (dC : Nat → ClassId) (dI : Nat → Nat → Nat) (cI cL cZ : ClassId) (bd : Nat → Nat) (th : Int32) (K F S DD : Nat → Int32) (n : Nat) (NU VA BE WA LE AA RI UN CO : Nat → Int32) (unk cnt : Nat) (hn : n ≤ 120) (hunk : unk ≤ 10) (hcnt : cnt ≤ 30) (x : Int32) (hp : x < 0 ∨ 5 ≤ x) (sz : Nat) : Met l y_Mo_parameter (cw_Mo_parameter :: tb) (rmH 5 0 0) (va_Pc [.ref (bd 0), .int x] (wy_P (dC, dI) classes (wMo cI cZ bd th K F S DD n NU VA BE WA LE AA RI UN CO unk cnt) (tyI cI cL cZ) sz)) (wy_Q ry_i (fun r (u : Unit) => r = 0) (wy_B (dC, dI) classes (tyI cI cL cZ) (va_A (wMo cI cZ bd th K F S DD n NU VA BE WA LE AA RI UN CO unk cnt) sz) (fun u : Unit => (wMo cI cZ bd 1 K F S DD n NU VA BE WA LE AA RI UN CO unk cnt))) (va_A (wMo cI cZ bd th K F S DD n NU VA BE WA LE AA RI UN CO unk cnt) sz)) 0 0 (va_A (wMo cI cZ bd th K F S DD n NU VA BE WA LE AA RI UN CO unk cnt) sz) := by
  refine Met.ofW (cc := b_Mo_parameter) (maxL := 2) (ret := (some .int)) (by decide +kernel) rfl ?_
  intro p e s m args below meth c s₁ B hml0 hv
  have C0 := cx_of B hml0 rfl
  obtain ⟨hx, hb, hr, hml, hown, htb, hlocks⟩ := id C0
  obtain ⟨rfl, hsz, hP, hK, hD0⟩ := hv
  subst hsz
  have hD := hD0.self (sz := s.heap.size)
  generalize hAe : va_A (wMo cI cZ bd th K F S DD n NU VA BE WA LE AA RI UN CO unk cnt) s.heap.size = A at hD ⊢
  have hA : ∀ q : Nat, s.heap.size ≤ q → A q := fun q h => by rw [← hAe]; exact Or.inr h
  have hS : va_S A s.heap s.heap [] := va_S.rf
  have hl := lv_entry ([.ref (bd 0), .int x]) (n := 2) (Nat.le_of_ble_eq_true rfl)
  rw [lg_entry_eq]
  generalize (lg_sl ([.ref (bd 0), .int x]) ++ List.replicate (2 - (lg_sl ([.ref (bd 0), .int x])).length) Slot.unset).toArray = ls at hl ⊢
  have hl : lv_has ls 2 [(0, .ref (bd 0)), (1, .int x)] := hl
  have hP : va_P (dC, dI) classes [((bd 0), .inr (4, [.int th, .ref (bd 1), .ref (bd 2), .ref (bd 3), .ref (bd 4), .int (nI n), .ref (bd 5), .ref (bd 6), .ref (bd 7), .ref (bd 8), .ref (bd 9), .ref (bd 10), .ref (bd 11), .ref (bd 12), .ref (bd 13), .int (nI unk), .int (nI cnt)])), ((bd 1), .inl (cI, 120, .inl K)), ((bd 2), .inl (cI, 120, .inl F)), ((bd 3), .inl (cI, 120, .inl S)), ((bd 4), .inl (cI, 120, .inl DD)), ((bd 5), .inl (cI, 5, .inl NU)), ((bd 6), .inl (cI, 120, .inl VA)), ((bd 7), .inl (cI, 120, .inl BE)), ((bd 8), .inl (cI, 128, .inl WA)), ((bd 9), .inl (cI, 30, .inl LE)), ((bd 10), .inl (cI, 30, .inl AA)), ((bd 11), .inl (cI, 30, .inl RI)), ((bd 12), .inl (cI, 10, .inl UN)), ((bd 13), .inl (cZ, 30, .inl CO))] s.heap := hP
  have hD : va_D A [((bd 0), .inr (4, [.int th, .ref (bd 1), .ref (bd 2), .ref (bd 3), .ref (bd 4), .int (nI n), .ref (bd 5), .ref (bd 6), .ref (bd 7), .ref (bd 8), .ref (bd 9), .ref (bd 10), .ref (bd 11), .ref (bd 12), .ref (bd 13), .int (nI unk), .int (nI cnt)])), ((bd 1), .inl (cI, 120, .inl K)), ((bd 2), .inl (cI, 120, .inl F)), ((bd 3), .inl (cI, 120, .inl S)), ((bd 4), .inl (cI, 120, .inl DD)), ((bd 5), .inl (cI, 5, .inl NU)), ((bd 6), .inl (cI, 120, .inl VA)), ((bd 7), .inl (cI, 120, .inl BE)), ((bd 8), .inl (cI, 128, .inl WA)), ((bd 9), .inl (cI, 30, .inl LE)), ((bd 10), .inl (cI, 30, .inl AA)), ((bd 11), .inl (cI, 30, .inl RI)), ((bd 12), .inl (cI, 10, .inl UN)), ((bd 13), .inl (cZ, 30, .inl CO))] := hD
  have hA0 := hA
  refine lv_aload_n hx hb d_Mo_parameter_0 rfl (lv_at hl 0 rfl) ?_
  refine lv_iload_n hx hb d_Mo_parameter_1 rfl (lv_at hl 1 rfl) ?_
  refine lv_if_lt (tgt := 10) hx hb d_Mo_parameter_2 (by decide) (fun c_2 => ?_) (fun c_2 => ?_)
  · refine lv_iconst (v := 1) hx hb d_Mo_parameter_10 (by decide) ?_
    refine lv_goto (tgt := 15) hx hb d_Mo_parameter_11 (by decide) ?_
    refine wy_callV (n := 1) (wr := []) (As := [.int 1]) (rest := []) ⟨hx, hb, hml, hown, htb⟩ (c_Mo_refuses l dC dI cI cL cZ bd th K F S DD n NU VA BE WA LE AA RI UN CO unk cnt hn hunk hcnt 1 s.heap.size) (gV mw_620 mw_622 mp_19 mw_5 mc_Mo_refuses) rfl rfl (by decide +kernel) ⟨Nat.le_of_ble_eq_true rfl, Nat.le_of_ble_eq_true rfl⟩ hP hD hS hA hK [0, 1, 2, 3, 4, 5, 6, 7, 8, 9, 10, 11, 12, 13] [] rfl rfl (by decide) (by decide) (hP.sub [0, 1, 2, 3, 4, 5, 6, 7, 8, 9, 10, 11, 12, 13] rfl) ((hD.sub [0, 1, 2, 3, 4, 5, 6, 7, 8, 9, 10, 11, 12, 13] (by decide) rfl).weaken (fun _ _ _ _ => trivial)) (ci := 4) (q0 := 0) rfl rfl rfl rfl hl.1 rfl (Nat.le_of_ble_eq_true rfl) d_Mo_parameter_15 ⟨Nat.le_of_ble_eq_true rfl, Nat.le_of_ble_eq_true rfl⟩ (fun r u H locs hpost hP hD hS => ?_)
    subst hpost
    have hP : va_P (dC, dI) classes [((bd 0), .inr (4, [.int 1, .ref (bd 1), .ref (bd 2), .ref (bd 3), .ref (bd 4), .int (nI n), .ref (bd 5), .ref (bd 6), .ref (bd 7), .ref (bd 8), .ref (bd 9), .ref (bd 10), .ref (bd 11), .ref (bd 12), .ref (bd 13), .int (nI unk), .int (nI cnt)])), ((bd 1), .inl (cI, 120, .inl K)), ((bd 2), .inl (cI, 120, .inl F)), ((bd 3), .inl (cI, 120, .inl S)), ((bd 4), .inl (cI, 120, .inl DD)), ((bd 5), .inl (cI, 5, .inl NU)), ((bd 6), .inl (cI, 120, .inl VA)), ((bd 7), .inl (cI, 120, .inl BE)), ((bd 8), .inl (cI, 128, .inl WA)), ((bd 9), .inl (cI, 30, .inl LE)), ((bd 10), .inl (cI, 30, .inl AA)), ((bd 11), .inl (cI, 30, .inl RI)), ((bd 12), .inl (cI, 10, .inl UN)), ((bd 13), .inl (cZ, 30, .inl CO))] H := hP
    have hD : va_D A [((bd 0), .inr (4, [.int 1, .ref (bd 1), .ref (bd 2), .ref (bd 3), .ref (bd 4), .int (nI n), .ref (bd 5), .ref (bd 6), .ref (bd 7), .ref (bd 8), .ref (bd 9), .ref (bd 10), .ref (bd 11), .ref (bd 12), .ref (bd 13), .int (nI unk), .int (nI cnt)])), ((bd 1), .inl (cI, 120, .inl K)), ((bd 2), .inl (cI, 120, .inl F)), ((bd 3), .inl (cI, 120, .inl S)), ((bd 4), .inl (cI, 120, .inl DD)), ((bd 5), .inl (cI, 5, .inl NU)), ((bd 6), .inl (cI, 120, .inl VA)), ((bd 7), .inl (cI, 120, .inl BE)), ((bd 8), .inl (cI, 128, .inl WA)), ((bd 9), .inl (cI, 30, .inl LE)), ((bd 10), .inl (cI, 30, .inl AA)), ((bd 11), .inl (cI, 30, .inl RI)), ((bd 12), .inl (cI, 10, .inl UN)), ((bd 13), .inl (cZ, 30, .inl CO))] := hD
    refine W.eq (g2 := F0 m 18 ls [.int (if 1 ≤ 0 then 0 else 1)]) rfl ?_
    refine lv_if_eq (tgt := 23) hx hb d_Mo_parameter_18 (by decide) (fun c_18 => ?_) (fun c_18 => ?_)
    · exact absurd c_18 (by decide)
    · refine lv_iconst (v := 0) hx hb d_Mo_parameter_21 (by decide) ?_
      exact W.iret (v := 0) hx hb hr (fun t ht hW => ⟨⟨0, (), rfl, rfl, by rw [ht]; exact hP, va_K.moved hW.alike hK, hD⟩, hS.F ht⟩) hS.2.2 d_Mo_parameter_22
  · refine lv_iload_n hx hb d_Mo_parameter_5 rfl (lv_at hl 1 rfl) ?_
    refine lv_iconst (v := 5) hx hb d_Mo_parameter_6 (by decide) ?_
    refine lv_icmp_lt (tgt := 14) hx hb d_Mo_parameter_7 (by decide) (fun c_7 => ?_) (fun c_7 => ?_)
    · exact absurd hp (by intro z; exact z.elim c_2 (fun y => absurd c_7 (Int32.not_lt.mpr y)))
    · refine lv_iconst (v := 1) hx hb d_Mo_parameter_10 (by decide) ?_
      refine lv_goto (tgt := 15) hx hb d_Mo_parameter_11 (by decide) ?_
      refine wy_callV (n := 1) (wr := []) (As := [.int 1]) (rest := []) ⟨hx, hb, hml, hown, htb⟩ (c_Mo_refuses l dC dI cI cL cZ bd th K F S DD n NU VA BE WA LE AA RI UN CO unk cnt hn hunk hcnt 1 s.heap.size) (gV mw_620 mw_622 mp_19 mw_5 mc_Mo_refuses) rfl rfl (by decide +kernel) ⟨Nat.le_of_ble_eq_true rfl, Nat.le_of_ble_eq_true rfl⟩ hP hD hS hA hK [0, 1, 2, 3, 4, 5, 6, 7, 8, 9, 10, 11, 12, 13] [] rfl rfl (by decide) (by decide) (hP.sub [0, 1, 2, 3, 4, 5, 6, 7, 8, 9, 10, 11, 12, 13] rfl) ((hD.sub [0, 1, 2, 3, 4, 5, 6, 7, 8, 9, 10, 11, 12, 13] (by decide) rfl).weaken (fun _ _ _ _ => trivial)) (ci := 4) (q0 := 0) rfl rfl rfl rfl hl.1 rfl (Nat.le_of_ble_eq_true rfl) d_Mo_parameter_15 ⟨Nat.le_of_ble_eq_true rfl, Nat.le_of_ble_eq_true rfl⟩ (fun r u H locs hpost hP hD hS => ?_)
      subst hpost
      have hP : va_P (dC, dI) classes [((bd 0), .inr (4, [.int 1, .ref (bd 1), .ref (bd 2), .ref (bd 3), .ref (bd 4), .int (nI n), .ref (bd 5), .ref (bd 6), .ref (bd 7), .ref (bd 8), .ref (bd 9), .ref (bd 10), .ref (bd 11), .ref (bd 12), .ref (bd 13), .int (nI unk), .int (nI cnt)])), ((bd 1), .inl (cI, 120, .inl K)), ((bd 2), .inl (cI, 120, .inl F)), ((bd 3), .inl (cI, 120, .inl S)), ((bd 4), .inl (cI, 120, .inl DD)), ((bd 5), .inl (cI, 5, .inl NU)), ((bd 6), .inl (cI, 120, .inl VA)), ((bd 7), .inl (cI, 120, .inl BE)), ((bd 8), .inl (cI, 128, .inl WA)), ((bd 9), .inl (cI, 30, .inl LE)), ((bd 10), .inl (cI, 30, .inl AA)), ((bd 11), .inl (cI, 30, .inl RI)), ((bd 12), .inl (cI, 10, .inl UN)), ((bd 13), .inl (cZ, 30, .inl CO))] H := hP
      have hD : va_D A [((bd 0), .inr (4, [.int 1, .ref (bd 1), .ref (bd 2), .ref (bd 3), .ref (bd 4), .int (nI n), .ref (bd 5), .ref (bd 6), .ref (bd 7), .ref (bd 8), .ref (bd 9), .ref (bd 10), .ref (bd 11), .ref (bd 12), .ref (bd 13), .int (nI unk), .int (nI cnt)])), ((bd 1), .inl (cI, 120, .inl K)), ((bd 2), .inl (cI, 120, .inl F)), ((bd 3), .inl (cI, 120, .inl S)), ((bd 4), .inl (cI, 120, .inl DD)), ((bd 5), .inl (cI, 5, .inl NU)), ((bd 6), .inl (cI, 120, .inl VA)), ((bd 7), .inl (cI, 120, .inl BE)), ((bd 8), .inl (cI, 128, .inl WA)), ((bd 9), .inl (cI, 30, .inl LE)), ((bd 10), .inl (cI, 30, .inl AA)), ((bd 11), .inl (cI, 30, .inl RI)), ((bd 12), .inl (cI, 10, .inl UN)), ((bd 13), .inl (cZ, 30, .inl CO))] := hD
      refine W.eq (g2 := F0 m 18 ls [.int (if 1 ≤ 0 then 0 else 1)]) rfl ?_
      refine lv_if_eq (tgt := 23) hx hb d_Mo_parameter_18 (by decide) (fun c_18 => ?_) (fun c_18 => ?_)
      · exact absurd c_18 (by decide)
      · refine lv_iconst (v := 0) hx hb d_Mo_parameter_21 (by decide) ?_
        exact W.iret (v := 0) hx hb hr (fun t ht hW => ⟨⟨0, (), rfl, rfl, by rw [ht]; exact hP, va_K.moved hW.alike hK, hD⟩, hS.F ht⟩) hS.2.2 d_Mo_parameter_22

set_option maxHeartbeats 4000000 in
set_option maxRecDepth 100000 in
theorem c_Mo_parameter (l : Launch) (dC : Nat → ClassId) (dI : Nat → Nat → Nat) (cI cL cZ : ClassId) (bd : Nat → Nat) (th : Int32) (K F S DD : Nat → Int32) (n : Nat) (NU VA BE WA LE AA RI UN CO : Nat → Int32) (unk cnt : Nat) (hn : n ≤ 120) (hunk : unk ≤ 10) (hcnt : cnt ≤ 30) (nd : Nat → Nat × Nat × Nat) (hok : MoOk nd n K F S DD) (a : Nat) (ha : a < 5) (sz : Nat) : Met l y_Mo_parameter (cw_Mo_parameter :: tb) (rmH 5 0 0) (va_Pc [.ref (bd 0), .int (nI a)] (wy_P (dC, dI) classes (wMo cI cZ bd th K F S DD n NU VA BE WA LE AA RI UN CO unk cnt) (tyI cI cL cZ) sz)) (wy_Q ry_i (fun r (u : MoS × Int32) => ∃ nd', mdp nd n (1, a, 0) 2 r u.2 nd' u.1.2.2.2.2 ∧ MoU nd' u.1) (wy_B (dC, dI) classes (tyI cI cL cZ) (va_A (wMo cI cZ bd th K F S DD n NU VA BE WA LE AA RI UN CO unk cnt) sz) (fun u : MoS × Int32 => (wMo cI cZ bd u.2 u.1.1 u.1.2.1 u.1.2.2.1 u.1.2.2.2.1 u.1.2.2.2.2 NU VA BE WA LE AA RI UN CO unk cnt))) (va_A (wMo cI cZ bd th K F S DD n NU VA BE WA LE AA RI UN CO unk cnt) sz)) 0 0 (va_A (wMo cI cZ bd th K F S DD n NU VA BE WA LE AA RI UN CO unk cnt) sz) := by
  refine Met.ofW (cc := b_Mo_parameter) (maxL := 2) (ret := (some .int)) (by decide +kernel) rfl ?_
  intro p e s m args below meth c s₁ B hml0 hv
  have C0 := cx_of B hml0 rfl
  obtain ⟨hx, hb, hr, hml, hown, htb, hlocks⟩ := id C0
  obtain ⟨rfl, hsz, hP, hK, hD0⟩ := hv
  subst hsz
  have hD := hD0.self (sz := s.heap.size)
  generalize hAe : va_A (wMo cI cZ bd th K F S DD n NU VA BE WA LE AA RI UN CO unk cnt) s.heap.size = A at hD ⊢
  have hA : ∀ q : Nat, s.heap.size ≤ q → A q := fun q h => by rw [← hAe]; exact Or.inr h
  have hS : va_S A s.heap s.heap [] := va_S.rf
  have hl := lv_entry ([.ref (bd 0), .int (nI a)]) (n := 2) (Nat.le_of_ble_eq_true rfl)
  rw [lg_entry_eq]
  generalize (lg_sl ([.ref (bd 0), .int (nI a)]) ++ List.replicate (2 - (lg_sl ([.ref (bd 0), .int (nI a)])).length) Slot.unset).toArray = ls at hl ⊢
  have hl : lv_has ls 2 [(0, .ref (bd 0)), (1, .int (nI a))] := hl
  have hP : va_P (dC, dI) classes [((bd 0), .inr (4, [.int th, .ref (bd 1), .ref (bd 2), .ref (bd 3), .ref (bd 4), .int (nI n), .ref (bd 5), .ref (bd 6), .ref (bd 7), .ref (bd 8), .ref (bd 9), .ref (bd 10), .ref (bd 11), .ref (bd 12), .ref (bd 13), .int (nI unk), .int (nI cnt)])), ((bd 1), .inl (cI, 120, .inl K)), ((bd 2), .inl (cI, 120, .inl F)), ((bd 3), .inl (cI, 120, .inl S)), ((bd 4), .inl (cI, 120, .inl DD)), ((bd 5), .inl (cI, 5, .inl NU)), ((bd 6), .inl (cI, 120, .inl VA)), ((bd 7), .inl (cI, 120, .inl BE)), ((bd 8), .inl (cI, 128, .inl WA)), ((bd 9), .inl (cI, 30, .inl LE)), ((bd 10), .inl (cI, 30, .inl AA)), ((bd 11), .inl (cI, 30, .inl RI)), ((bd 12), .inl (cI, 10, .inl UN)), ((bd 13), .inl (cZ, 30, .inl CO))] s.heap := hP
  have hD : va_D A [((bd 0), .inr (4, [.int th, .ref (bd 1), .ref (bd 2), .ref (bd 3), .ref (bd 4), .int (nI n), .ref (bd 5), .ref (bd 6), .ref (bd 7), .ref (bd 8), .ref (bd 9), .ref (bd 10), .ref (bd 11), .ref (bd 12), .ref (bd 13), .int (nI unk), .int (nI cnt)])), ((bd 1), .inl (cI, 120, .inl K)), ((bd 2), .inl (cI, 120, .inl F)), ((bd 3), .inl (cI, 120, .inl S)), ((bd 4), .inl (cI, 120, .inl DD)), ((bd 5), .inl (cI, 5, .inl NU)), ((bd 6), .inl (cI, 120, .inl VA)), ((bd 7), .inl (cI, 120, .inl BE)), ((bd 8), .inl (cI, 128, .inl WA)), ((bd 9), .inl (cI, 30, .inl LE)), ((bd 10), .inl (cI, 30, .inl AA)), ((bd 11), .inl (cI, 30, .inl RI)), ((bd 12), .inl (cI, 10, .inl UN)), ((bd 13), .inl (cZ, 30, .inl CO))] := hD
  have hA0 := hA
  refine lv_aload_n hx hb d_Mo_parameter_0 rfl (lv_at hl 0 rfl) ?_
  refine lv_iload_n hx hb d_Mo_parameter_1 rfl (lv_at hl 1 rfl) ?_
  refine lv_if_lt (tgt := 10) hx hb d_Mo_parameter_2 (by decide) (fun c_2 => ?_) (fun c_2 => ?_)
  · exact absurd c_2 (nI_pos (by omega))
  · refine lv_iload_n hx hb d_Mo_parameter_5 rfl (lv_at hl 1 rfl) ?_
    refine lv_iconst (v := 5) hx hb d_Mo_parameter_6 (by decide) ?_
    refine lv_icmp_lt (tgt := 14) hx hb d_Mo_parameter_7 (by decide) (fun c_7 => ?_) (fun c_7 => ?_)
    · refine lv_iconst (v := 0) hx hb d_Mo_parameter_14 (by decide) ?_
      refine wy_callV (n := 1) (wr := []) (As := [.int 0]) (rest := []) ⟨hx, hb, hml, hown, htb⟩ (c_Mo_refuses l dC dI cI cL cZ bd th K F S DD n NU VA BE WA LE AA RI UN CO unk cnt hn hunk hcnt 0 s.heap.size) (gV mw_620 mw_622 mp_19 mw_5 mc_Mo_refuses) rfl rfl (by decide +kernel) ⟨Nat.le_of_ble_eq_true rfl, Nat.le_of_ble_eq_true rfl⟩ hP hD hS hA hK [0, 1, 2, 3, 4, 5, 6, 7, 8, 9, 10, 11, 12, 13] [] rfl rfl (by decide) (by decide) (hP.sub [0, 1, 2, 3, 4, 5, 6, 7, 8, 9, 10, 11, 12, 13] rfl) ((hD.sub [0, 1, 2, 3, 4, 5, 6, 7, 8, 9, 10, 11, 12, 13] (by decide) rfl).weaken (fun _ _ _ _ => trivial)) (ci := 4) (q0 := 0) rfl rfl rfl rfl hl.1 rfl (Nat.le_of_ble_eq_true rfl) d_Mo_parameter_15 ⟨Nat.le_of_ble_eq_true rfl, Nat.le_of_ble_eq_true rfl⟩ (fun r u H locs hpost hP hD hS => ?_)
      subst hpost
      have hP : va_P (dC, dI) classes [((bd 0), .inr (4, [.int 0, .ref (bd 1), .ref (bd 2), .ref (bd 3), .ref (bd 4), .int (nI n), .ref (bd 5), .ref (bd 6), .ref (bd 7), .ref (bd 8), .ref (bd 9), .ref (bd 10), .ref (bd 11), .ref (bd 12), .ref (bd 13), .int (nI unk), .int (nI cnt)])), ((bd 1), .inl (cI, 120, .inl K)), ((bd 2), .inl (cI, 120, .inl F)), ((bd 3), .inl (cI, 120, .inl S)), ((bd 4), .inl (cI, 120, .inl DD)), ((bd 5), .inl (cI, 5, .inl NU)), ((bd 6), .inl (cI, 120, .inl VA)), ((bd 7), .inl (cI, 120, .inl BE)), ((bd 8), .inl (cI, 128, .inl WA)), ((bd 9), .inl (cI, 30, .inl LE)), ((bd 10), .inl (cI, 30, .inl AA)), ((bd 11), .inl (cI, 30, .inl RI)), ((bd 12), .inl (cI, 10, .inl UN)), ((bd 13), .inl (cZ, 30, .inl CO))] H := hP
      have hD : va_D A [((bd 0), .inr (4, [.int 0, .ref (bd 1), .ref (bd 2), .ref (bd 3), .ref (bd 4), .int (nI n), .ref (bd 5), .ref (bd 6), .ref (bd 7), .ref (bd 8), .ref (bd 9), .ref (bd 10), .ref (bd 11), .ref (bd 12), .ref (bd 13), .int (nI unk), .int (nI cnt)])), ((bd 1), .inl (cI, 120, .inl K)), ((bd 2), .inl (cI, 120, .inl F)), ((bd 3), .inl (cI, 120, .inl S)), ((bd 4), .inl (cI, 120, .inl DD)), ((bd 5), .inl (cI, 5, .inl NU)), ((bd 6), .inl (cI, 120, .inl VA)), ((bd 7), .inl (cI, 120, .inl BE)), ((bd 8), .inl (cI, 128, .inl WA)), ((bd 9), .inl (cI, 30, .inl LE)), ((bd 10), .inl (cI, 30, .inl AA)), ((bd 11), .inl (cI, 30, .inl RI)), ((bd 12), .inl (cI, 10, .inl UN)), ((bd 13), .inl (cZ, 30, .inl CO))] := hD
      refine W.eq (g2 := F0 m 18 ls [.int (if 0 ≤ 0 then 0 else 1)]) rfl ?_
      refine lv_if_eq (tgt := 23) hx hb d_Mo_parameter_18 (by decide) (fun c_18 => ?_) (fun c_18 => ?_)
      · refine lv_aload_n hx hb d_Mo_parameter_23 rfl (lv_at hl 0 rfl) ?_
        refine lv_iconst (v := 1) hx hb d_Mo_parameter_24 (by decide) ?_
        refine lv_iload_n hx hb d_Mo_parameter_25 rfl (lv_at hl 1 rfl) ?_
        refine lv_iconst (v := (-1)) hx hb d_Mo_parameter_26 (by decide) ?_
        refine lv_iconst (v := 2) hx hb d_Mo_parameter_27 (by decide) ?_
        refine wy_callV (n := 4) (wr := []) (As := [.int 1, .int (nI a), .int (-1), .int 2]) (rest := []) ⟨hx, hb, hml, hown, htb⟩ (c_Mo_made l dC dI cI cL cZ bd 0 K F S DD n NU VA BE WA LE AA RI UN CO unk cnt hn hunk hcnt nd hok (1, a, 0) (row1 n ha) (fun z => absurd (show (1 : Nat) = 2 from z.1) (by decide)) 2 H.size) (gV mw_608 mw_610 mp_17 mw_5 mc_Mo_made) rfl rfl (by decide +kernel) ⟨Nat.le_of_ble_eq_true rfl, Nat.le_of_ble_eq_true rfl⟩ hP hD hS hA hK [0, 1, 2, 3, 4, 5, 6, 7, 8, 9, 10, 11, 12, 13] [] rfl rfl (by decide) (by decide) (hP.sub [0, 1, 2, 3, 4, 5, 6, 7, 8, 9, 10, 11, 12, 13] rfl) ((hD.sub [0, 1, 2, 3, 4, 5, 6, 7, 8, 9, 10, 11, 12, 13] (by decide) rfl).weaken (fun _ _ _ _ => trivial)) (ci := 4) (q0 := 0) rfl rfl rfl rfl hl.1 rfl (Nat.le_of_ble_eq_true rfl) d_Mo_parameter_28 ⟨Nat.le_of_ble_eq_true rfl, Nat.le_of_ble_eq_true rfl⟩ (fun r u H locs hpost hP hD hS => ?_)
        have hP : va_P (dC, dI) classes [((bd 0), .inr (4, [.int u.2, .ref (bd 1), .ref (bd 2), .ref (bd 3), .ref (bd 4), .int (nI u.1.2.2.2.2), .ref (bd 5), .ref (bd 6), .ref (bd 7), .ref (bd 8), .ref (bd 9), .ref (bd 10), .ref (bd 11), .ref (bd 12), .ref (bd 13), .int (nI unk), .int (nI cnt)])), ((bd 1), .inl (cI, 120, .inl u.1.1)), ((bd 2), .inl (cI, 120, .inl u.1.2.1)), ((bd 3), .inl (cI, 120, .inl u.1.2.2.1)), ((bd 4), .inl (cI, 120, .inl u.1.2.2.2.1)), ((bd 5), .inl (cI, 5, .inl NU)), ((bd 6), .inl (cI, 120, .inl VA)), ((bd 7), .inl (cI, 120, .inl BE)), ((bd 8), .inl (cI, 128, .inl WA)), ((bd 9), .inl (cI, 30, .inl LE)), ((bd 10), .inl (cI, 30, .inl AA)), ((bd 11), .inl (cI, 30, .inl RI)), ((bd 12), .inl (cI, 10, .inl UN)), ((bd 13), .inl (cZ, 30, .inl CO))] H := hP
        have hD : va_D A [((bd 0), .inr (4, [.int u.2, .ref (bd 1), .ref (bd 2), .ref (bd 3), .ref (bd 4), .int (nI u.1.2.2.2.2), .ref (bd 5), .ref (bd 6), .ref (bd 7), .ref (bd 8), .ref (bd 9), .ref (bd 10), .ref (bd 11), .ref (bd 12), .ref (bd 13), .int (nI unk), .int (nI cnt)])), ((bd 1), .inl (cI, 120, .inl u.1.1)), ((bd 2), .inl (cI, 120, .inl u.1.2.1)), ((bd 3), .inl (cI, 120, .inl u.1.2.2.1)), ((bd 4), .inl (cI, 120, .inl u.1.2.2.2.1)), ((bd 5), .inl (cI, 5, .inl NU)), ((bd 6), .inl (cI, 120, .inl VA)), ((bd 7), .inl (cI, 120, .inl BE)), ((bd 8), .inl (cI, 128, .inl WA)), ((bd 9), .inl (cI, 30, .inl LE)), ((bd 10), .inl (cI, 30, .inl AA)), ((bd 11), .inl (cI, 30, .inl RI)), ((bd 12), .inl (cI, 10, .inl UN)), ((bd 13), .inl (cZ, 30, .inl CO))] := hD
        refine W.eq (g2 := F0 m 31 ls [.int r]) rfl ?_
        exact W.iret (v := r) hx hb hr (fun t ht hW => ⟨⟨r, u, rfl, hpost, by rw [ht]; exact hP, va_K.moved hW.alike hK, hD⟩, hS.F ht⟩) hS.2.2 d_Mo_parameter_31
      · exact absurd (by decide) c_18
    · exact absurd ((nI_ltI (b := 5) (by omega) (by decide)).mpr ha) c_7

set_option maxHeartbeats 4000000 in
set_option maxRecDepth 100000 in
theorem c0_Mo_next (l : Launch) (dC : Nat → ClassId) (dI : Nat → Nat → Nat) (cI cL cZ : ClassId) (bd : Nat → Nat) (th : Int32) (K F S DD : Nat → Int32) (n : Nat) (NU VA BE WA LE AA RI UN CO : Nat → Int32) (unk cnt : Nat) (hn : n ≤ 120) (hunk : unk ≤ 10) (hcnt : cnt ≤ 30) (x : Int32) (hp : hs x n = 0) (sz : Nat) : Met l y_Mo_next (cw_Mo_next :: tb) (rmH 5 0 0) (va_Pc [.ref (bd 0), .int x] (wy_P (dC, dI) classes (wMo cI cZ bd th K F S DD n NU VA BE WA LE AA RI UN CO unk cnt) (tyI cI cL cZ) sz)) (wy_Q ry_i (fun r (u : Unit) => r = 0) (wy_B (dC, dI) classes (tyI cI cL cZ) (va_A (wMo cI cZ bd th K F S DD n NU VA BE WA LE AA RI UN CO unk cnt) sz) (fun u : Unit => (wMo cI cZ bd 1 K F S DD n NU VA BE WA LE AA RI UN CO unk cnt))) (va_A (wMo cI cZ bd th K F S DD n NU VA BE WA LE AA RI UN CO unk cnt) sz)) 0 0 (va_A (wMo cI cZ bd th K F S DD n NU VA BE WA LE AA RI UN CO unk cnt) sz) := by
  refine Met.ofW (cc := b_Mo_next) (maxL := 2) (ret := (some .int)) (by decide +kernel) rfl ?_
  intro p e s m args below meth c s₁ B hml0 hv
  have C0 := cx_of B hml0 rfl
  obtain ⟨hx, hb, hr, hml, hown, htb, hlocks⟩ := id C0
  obtain ⟨rfl, hsz, hP, hK, hD0⟩ := hv
  subst hsz
  have hD := hD0.self (sz := s.heap.size)
  generalize hAe : va_A (wMo cI cZ bd th K F S DD n NU VA BE WA LE AA RI UN CO unk cnt) s.heap.size = A at hD ⊢
  have hA : ∀ q : Nat, s.heap.size ≤ q → A q := fun q h => by rw [← hAe]; exact Or.inr h
  have hS : va_S A s.heap s.heap [] := va_S.rf
  have hl := lv_entry ([.ref (bd 0), .int x]) (n := 2) (Nat.le_of_ble_eq_true rfl)
  rw [lg_entry_eq]
  generalize (lg_sl ([.ref (bd 0), .int x]) ++ List.replicate (2 - (lg_sl ([.ref (bd 0), .int x])).length) Slot.unset).toArray = ls at hl ⊢
  have hl : lv_has ls 2 [(0, .ref (bd 0)), (1, .int x)] := hl
  have hP : va_P (dC, dI) classes [((bd 0), .inr (4, [.int th, .ref (bd 1), .ref (bd 2), .ref (bd 3), .ref (bd 4), .int (nI n), .ref (bd 5), .ref (bd 6), .ref (bd 7), .ref (bd 8), .ref (bd 9), .ref (bd 10), .ref (bd 11), .ref (bd 12), .ref (bd 13), .int (nI unk), .int (nI cnt)])), ((bd 1), .inl (cI, 120, .inl K)), ((bd 2), .inl (cI, 120, .inl F)), ((bd 3), .inl (cI, 120, .inl S)), ((bd 4), .inl (cI, 120, .inl DD)), ((bd 5), .inl (cI, 5, .inl NU)), ((bd 6), .inl (cI, 120, .inl VA)), ((bd 7), .inl (cI, 120, .inl BE)), ((bd 8), .inl (cI, 128, .inl WA)), ((bd 9), .inl (cI, 30, .inl LE)), ((bd 10), .inl (cI, 30, .inl AA)), ((bd 11), .inl (cI, 30, .inl RI)), ((bd 12), .inl (cI, 10, .inl UN)), ((bd 13), .inl (cZ, 30, .inl CO))] s.heap := hP
  have hD : va_D A [((bd 0), .inr (4, [.int th, .ref (bd 1), .ref (bd 2), .ref (bd 3), .ref (bd 4), .int (nI n), .ref (bd 5), .ref (bd 6), .ref (bd 7), .ref (bd 8), .ref (bd 9), .ref (bd 10), .ref (bd 11), .ref (bd 12), .ref (bd 13), .int (nI unk), .int (nI cnt)])), ((bd 1), .inl (cI, 120, .inl K)), ((bd 2), .inl (cI, 120, .inl F)), ((bd 3), .inl (cI, 120, .inl S)), ((bd 4), .inl (cI, 120, .inl DD)), ((bd 5), .inl (cI, 5, .inl NU)), ((bd 6), .inl (cI, 120, .inl VA)), ((bd 7), .inl (cI, 120, .inl BE)), ((bd 8), .inl (cI, 128, .inl WA)), ((bd 9), .inl (cI, 30, .inl LE)), ((bd 10), .inl (cI, 30, .inl AA)), ((bd 11), .inl (cI, 30, .inl RI)), ((bd 12), .inl (cI, 10, .inl UN)), ((bd 13), .inl (cZ, 30, .inl CO))] := hD
  have hA0 := hA
  refine lv_aload_n hx hb d_Mo_next_0 rfl (lv_at hl 0 rfl) ?_
  refine lv_aload_n hx hb d_Mo_next_1 rfl (lv_at hl 0 rfl) ?_
  refine lv_iload_n hx hb d_Mo_next_2 rfl (lv_at hl 1 rfl) ?_
  refine ry_callV (n := 1) (As := [.int x]) (rest := [.ref (bd 0)]) ⟨hx, hb, hml, hown, htb⟩ (c_Mo_isLevel l dC dI cI cL cZ bd th K F S DD n NU VA BE WA LE AA RI UN CO unk cnt hn hunk hcnt x) (gV mw_628 mw_630 mp_20 mw_5 mc_Mo_isLevel) rfl rfl (by decide +kernel) ⟨Nat.le_of_ble_eq_true rfl, Nat.le_of_ble_eq_true rfl⟩ (hP.sub [0, 1, 2, 3, 4, 5, 6, 7, 8, 9, 10, 11, 12, 13] rfl) hK (ci := 4) (q0 := 0) rfl rfl rfl rfl hl.1 rfl (Nat.le_of_ble_eq_true rfl) d_Mo_next_3 ⟨Nat.zero_le _, Nat.zero_le _⟩ (fun r_1 hr_1 => ?_)
  subst hr_1
  refine W.eq (g2 := F0 m 6 ls [.int (hs x n), .ref (bd 0)]) rfl ?_
  refine lv_if_ne (tgt := 13) hx hb d_Mo_next_6 (by decide) (fun c_6 => ?_) (fun c_6 => ?_)
  · exact absurd hp c_6
  · refine lv_iconst (v := 1) hx hb d_Mo_next_9 (by decide) ?_
    refine lv_goto (tgt := 29) hx hb d_Mo_next_10 (by decide) ?_
    refine wy_callV (n := 1) (wr := []) (As := [.int 1]) (rest := []) ⟨hx, hb, hml, hown, htb⟩ (c_Mo_refuses l dC dI cI cL cZ bd th K F S DD n NU VA BE WA LE AA RI UN CO unk cnt hn hunk hcnt 1 s.heap.size) (gV mw_620 mw_622 mp_19 mw_5 mc_Mo_refuses) rfl rfl (by decide +kernel) ⟨Nat.le_of_ble_eq_true rfl, Nat.le_of_ble_eq_true rfl⟩ hP hD hS hA hK [0, 1, 2, 3, 4, 5, 6, 7, 8, 9, 10, 11, 12, 13] [] rfl rfl (by decide) (by decide) (hP.sub [0, 1, 2, 3, 4, 5, 6, 7, 8, 9, 10, 11, 12, 13] rfl) ((hD.sub [0, 1, 2, 3, 4, 5, 6, 7, 8, 9, 10, 11, 12, 13] (by decide) rfl).weaken (fun _ _ _ _ => trivial)) (ci := 4) (q0 := 0) rfl rfl rfl rfl hl.1 rfl (Nat.le_of_ble_eq_true rfl) d_Mo_next_29 ⟨Nat.le_of_ble_eq_true rfl, Nat.le_of_ble_eq_true rfl⟩ (fun r u H locs hpost hP hD hS => ?_)
    subst hpost
    have hP : va_P (dC, dI) classes [((bd 0), .inr (4, [.int 1, .ref (bd 1), .ref (bd 2), .ref (bd 3), .ref (bd 4), .int (nI n), .ref (bd 5), .ref (bd 6), .ref (bd 7), .ref (bd 8), .ref (bd 9), .ref (bd 10), .ref (bd 11), .ref (bd 12), .ref (bd 13), .int (nI unk), .int (nI cnt)])), ((bd 1), .inl (cI, 120, .inl K)), ((bd 2), .inl (cI, 120, .inl F)), ((bd 3), .inl (cI, 120, .inl S)), ((bd 4), .inl (cI, 120, .inl DD)), ((bd 5), .inl (cI, 5, .inl NU)), ((bd 6), .inl (cI, 120, .inl VA)), ((bd 7), .inl (cI, 120, .inl BE)), ((bd 8), .inl (cI, 128, .inl WA)), ((bd 9), .inl (cI, 30, .inl LE)), ((bd 10), .inl (cI, 30, .inl AA)), ((bd 11), .inl (cI, 30, .inl RI)), ((bd 12), .inl (cI, 10, .inl UN)), ((bd 13), .inl (cZ, 30, .inl CO))] H := hP
    have hD : va_D A [((bd 0), .inr (4, [.int 1, .ref (bd 1), .ref (bd 2), .ref (bd 3), .ref (bd 4), .int (nI n), .ref (bd 5), .ref (bd 6), .ref (bd 7), .ref (bd 8), .ref (bd 9), .ref (bd 10), .ref (bd 11), .ref (bd 12), .ref (bd 13), .int (nI unk), .int (nI cnt)])), ((bd 1), .inl (cI, 120, .inl K)), ((bd 2), .inl (cI, 120, .inl F)), ((bd 3), .inl (cI, 120, .inl S)), ((bd 4), .inl (cI, 120, .inl DD)), ((bd 5), .inl (cI, 5, .inl NU)), ((bd 6), .inl (cI, 120, .inl VA)), ((bd 7), .inl (cI, 120, .inl BE)), ((bd 8), .inl (cI, 128, .inl WA)), ((bd 9), .inl (cI, 30, .inl LE)), ((bd 10), .inl (cI, 30, .inl AA)), ((bd 11), .inl (cI, 30, .inl RI)), ((bd 12), .inl (cI, 10, .inl UN)), ((bd 13), .inl (cZ, 30, .inl CO))] := hD
    refine W.eq (g2 := F0 m 32 ls [.int (if 1 ≤ 0 then 0 else 1)]) rfl ?_
    refine lv_if_eq (tgt := 37) hx hb d_Mo_next_32 (by decide) (fun c_32 => ?_) (fun c_32 => ?_)
    · exact absurd c_32 (by decide)
    · refine lv_iconst (v := 0) hx hb d_Mo_next_35 (by decide) ?_
      exact W.iret (v := 0) hx hb hr (fun t ht hW => ⟨⟨0, (), rfl, rfl, by rw [ht]; exact hP, va_K.moved hW.alike hK, hD⟩, hS.F ht⟩) hS.2.2 d_Mo_next_36

set_option maxHeartbeats 4000000 in
set_option maxRecDepth 100000 in
theorem c1_Mo_next (l : Launch) (dC : Nat → ClassId) (dI : Nat → Nat → Nat) (cI cL cZ : ClassId) (bd : Nat → Nat) (th : Int32) (K F S DD : Nat → Int32) (n : Nat) (NU VA BE WA LE AA RI UN CO : Nat → Int32) (unk cnt : Nat) (hn : n ≤ 120) (hunk : unk ≤ 10) (hcnt : cnt ≤ 30) (nd : Nat → Nat × Nat × Nat) (hok : MoOk nd n K F S DD) (a : Nat) (ha : a < n) (hp : hs (nI a) n = 1) (hd : dp nd a = 60) (sz : Nat) : Met l y_Mo_next (cw_Mo_next :: tb) (rmH 5 0 0) (va_Pc [.ref (bd 0), .int (nI a)] (wy_P (dC, dI) classes (wMo cI cZ bd th K F S DD n NU VA BE WA LE AA RI UN CO unk cnt) (tyI cI cL cZ) sz)) (wy_Q ry_i (fun r (u : Unit) => r = 0) (wy_B (dC, dI) classes (tyI cI cL cZ) (va_A (wMo cI cZ bd th K F S DD n NU VA BE WA LE AA RI UN CO unk cnt) sz) (fun u : Unit => (wMo cI cZ bd 2 K F S DD n NU VA BE WA LE AA RI UN CO unk cnt))) (va_A (wMo cI cZ bd th K F S DD n NU VA BE WA LE AA RI UN CO unk cnt) sz)) 0 0 (va_A (wMo cI cZ bd th K F S DD n NU VA BE WA LE AA RI UN CO unk cnt) sz) := by
  refine Met.ofW (cc := b_Mo_next) (maxL := 2) (ret := (some .int)) (by decide +kernel) rfl ?_
  intro p e s m args below meth c s₁ B hml0 hv
  have C0 := cx_of B hml0 rfl
  obtain ⟨hx, hb, hr, hml, hown, htb, hlocks⟩ := id C0
  obtain ⟨rfl, hsz, hP, hK, hD0⟩ := hv
  subst hsz
  have hD := hD0.self (sz := s.heap.size)
  generalize hAe : va_A (wMo cI cZ bd th K F S DD n NU VA BE WA LE AA RI UN CO unk cnt) s.heap.size = A at hD ⊢
  have hA : ∀ q : Nat, s.heap.size ≤ q → A q := fun q h => by rw [← hAe]; exact Or.inr h
  have hS : va_S A s.heap s.heap [] := va_S.rf
  have hl := lv_entry ([.ref (bd 0), .int (nI a)]) (n := 2) (Nat.le_of_ble_eq_true rfl)
  rw [lg_entry_eq]
  generalize (lg_sl ([.ref (bd 0), .int (nI a)]) ++ List.replicate (2 - (lg_sl ([.ref (bd 0), .int (nI a)])).length) Slot.unset).toArray = ls at hl ⊢
  have hl : lv_has ls 2 [(0, .ref (bd 0)), (1, .int (nI a))] := hl
  have hP : va_P (dC, dI) classes [((bd 0), .inr (4, [.int th, .ref (bd 1), .ref (bd 2), .ref (bd 3), .ref (bd 4), .int (nI n), .ref (bd 5), .ref (bd 6), .ref (bd 7), .ref (bd 8), .ref (bd 9), .ref (bd 10), .ref (bd 11), .ref (bd 12), .ref (bd 13), .int (nI unk), .int (nI cnt)])), ((bd 1), .inl (cI, 120, .inl K)), ((bd 2), .inl (cI, 120, .inl F)), ((bd 3), .inl (cI, 120, .inl S)), ((bd 4), .inl (cI, 120, .inl DD)), ((bd 5), .inl (cI, 5, .inl NU)), ((bd 6), .inl (cI, 120, .inl VA)), ((bd 7), .inl (cI, 120, .inl BE)), ((bd 8), .inl (cI, 128, .inl WA)), ((bd 9), .inl (cI, 30, .inl LE)), ((bd 10), .inl (cI, 30, .inl AA)), ((bd 11), .inl (cI, 30, .inl RI)), ((bd 12), .inl (cI, 10, .inl UN)), ((bd 13), .inl (cZ, 30, .inl CO))] s.heap := hP
  have hD : va_D A [((bd 0), .inr (4, [.int th, .ref (bd 1), .ref (bd 2), .ref (bd 3), .ref (bd 4), .int (nI n), .ref (bd 5), .ref (bd 6), .ref (bd 7), .ref (bd 8), .ref (bd 9), .ref (bd 10), .ref (bd 11), .ref (bd 12), .ref (bd 13), .int (nI unk), .int (nI cnt)])), ((bd 1), .inl (cI, 120, .inl K)), ((bd 2), .inl (cI, 120, .inl F)), ((bd 3), .inl (cI, 120, .inl S)), ((bd 4), .inl (cI, 120, .inl DD)), ((bd 5), .inl (cI, 5, .inl NU)), ((bd 6), .inl (cI, 120, .inl VA)), ((bd 7), .inl (cI, 120, .inl BE)), ((bd 8), .inl (cI, 128, .inl WA)), ((bd 9), .inl (cI, 30, .inl LE)), ((bd 10), .inl (cI, 30, .inl AA)), ((bd 11), .inl (cI, 30, .inl RI)), ((bd 12), .inl (cI, 10, .inl UN)), ((bd 13), .inl (cZ, 30, .inl CO))] := hD
  have hA0 := hA
  have hda := hok.2.2 a ha
  refine lv_aload_n hx hb d_Mo_next_0 rfl (lv_at hl 0 rfl) ?_
  refine lv_aload_n hx hb d_Mo_next_1 rfl (lv_at hl 0 rfl) ?_
  refine lv_iload_n hx hb d_Mo_next_2 rfl (lv_at hl 1 rfl) ?_
  refine ry_callV (n := 1) (As := [.int (nI a)]) (rest := [.ref (bd 0)]) ⟨hx, hb, hml, hown, htb⟩ (c_Mo_isLevel l dC dI cI cL cZ bd th K F S DD n NU VA BE WA LE AA RI UN CO unk cnt hn hunk hcnt (nI a)) (gV mw_628 mw_630 mp_20 mw_5 mc_Mo_isLevel) rfl rfl (by decide +kernel) ⟨Nat.le_of_ble_eq_true rfl, Nat.le_of_ble_eq_true rfl⟩ (hP.sub [0, 1, 2, 3, 4, 5, 6, 7, 8, 9, 10, 11, 12, 13] rfl) hK (ci := 4) (q0 := 0) rfl rfl rfl rfl hl.1 rfl (Nat.le_of_ble_eq_true rfl) d_Mo_next_3 ⟨Nat.zero_le _, Nat.zero_le _⟩ (fun r_1 hr_1 => ?_)
  subst hr_1
  refine W.eq (g2 := F0 m 6 ls [.int (hs (nI a) n), .ref (bd 0)]) rfl ?_
  refine lv_if_ne (tgt := 13) hx hb d_Mo_next_6 (by decide) (fun c_6 => ?_) (fun c_6 => ?_)
  · refine lv_aload_n hx hb d_Mo_next_13 rfl (lv_at hl 0 rfl) ?_
    refine va_get (D := (dC, dI)) (ci := 4) (v := .ref (bd 4)) (C := R_Mo) (T := F_Mo) (N := 17) hx hb htb ul_Mo hown hK hP 0 rfl rfl 4 (by decide) (htb _ mw_552) (fun _ h9 => h9) rfl d_Mo_next_14 ?_
    refine lv_iload_n hx hb d_Mo_next_17 rfl (lv_at hl 1 rfl) ?_
    refine ry_iald (D := (dC, dI)) (j := a) hx hb hK hP 4 0 rfl rfl (by omega) (by decide) d_Mo_next_18 ?_
    rw [hda]
    refine lv_bipush (v := 60) hx hb d_Mo_next_19 (by decide) ?_
    refine lv_icmp_ne (tgt := 28) hx hb d_Mo_next_21 (by decide) (fun c_21 => ?_) (fun c_21 => ?_)
    · exact absurd (by rw [hd]; rfl) c_21
    · refine lv_iconst (v := 2) hx hb d_Mo_next_24 (by decide) ?_
      refine lv_goto (tgt := 29) hx hb d_Mo_next_25 (by decide) ?_
      refine wy_callV (n := 1) (wr := []) (As := [.int 2]) (rest := []) ⟨hx, hb, hml, hown, htb⟩ (c_Mo_refuses l dC dI cI cL cZ bd th K F S DD n NU VA BE WA LE AA RI UN CO unk cnt hn hunk hcnt 2 s.heap.size) (gV mw_620 mw_622 mp_19 mw_5 mc_Mo_refuses) rfl rfl (by decide +kernel) ⟨Nat.le_of_ble_eq_true rfl, Nat.le_of_ble_eq_true rfl⟩ hP hD hS hA hK [0, 1, 2, 3, 4, 5, 6, 7, 8, 9, 10, 11, 12, 13] [] rfl rfl (by decide) (by decide) (hP.sub [0, 1, 2, 3, 4, 5, 6, 7, 8, 9, 10, 11, 12, 13] rfl) ((hD.sub [0, 1, 2, 3, 4, 5, 6, 7, 8, 9, 10, 11, 12, 13] (by decide) rfl).weaken (fun _ _ _ _ => trivial)) (ci := 4) (q0 := 0) rfl rfl rfl rfl hl.1 rfl (Nat.le_of_ble_eq_true rfl) d_Mo_next_29 ⟨Nat.le_of_ble_eq_true rfl, Nat.le_of_ble_eq_true rfl⟩ (fun r u H locs hpost hP hD hS => ?_)
      subst hpost
      have hP : va_P (dC, dI) classes [((bd 0), .inr (4, [.int 2, .ref (bd 1), .ref (bd 2), .ref (bd 3), .ref (bd 4), .int (nI n), .ref (bd 5), .ref (bd 6), .ref (bd 7), .ref (bd 8), .ref (bd 9), .ref (bd 10), .ref (bd 11), .ref (bd 12), .ref (bd 13), .int (nI unk), .int (nI cnt)])), ((bd 1), .inl (cI, 120, .inl K)), ((bd 2), .inl (cI, 120, .inl F)), ((bd 3), .inl (cI, 120, .inl S)), ((bd 4), .inl (cI, 120, .inl DD)), ((bd 5), .inl (cI, 5, .inl NU)), ((bd 6), .inl (cI, 120, .inl VA)), ((bd 7), .inl (cI, 120, .inl BE)), ((bd 8), .inl (cI, 128, .inl WA)), ((bd 9), .inl (cI, 30, .inl LE)), ((bd 10), .inl (cI, 30, .inl AA)), ((bd 11), .inl (cI, 30, .inl RI)), ((bd 12), .inl (cI, 10, .inl UN)), ((bd 13), .inl (cZ, 30, .inl CO))] H := hP
      have hD : va_D A [((bd 0), .inr (4, [.int 2, .ref (bd 1), .ref (bd 2), .ref (bd 3), .ref (bd 4), .int (nI n), .ref (bd 5), .ref (bd 6), .ref (bd 7), .ref (bd 8), .ref (bd 9), .ref (bd 10), .ref (bd 11), .ref (bd 12), .ref (bd 13), .int (nI unk), .int (nI cnt)])), ((bd 1), .inl (cI, 120, .inl K)), ((bd 2), .inl (cI, 120, .inl F)), ((bd 3), .inl (cI, 120, .inl S)), ((bd 4), .inl (cI, 120, .inl DD)), ((bd 5), .inl (cI, 5, .inl NU)), ((bd 6), .inl (cI, 120, .inl VA)), ((bd 7), .inl (cI, 120, .inl BE)), ((bd 8), .inl (cI, 128, .inl WA)), ((bd 9), .inl (cI, 30, .inl LE)), ((bd 10), .inl (cI, 30, .inl AA)), ((bd 11), .inl (cI, 30, .inl RI)), ((bd 12), .inl (cI, 10, .inl UN)), ((bd 13), .inl (cZ, 30, .inl CO))] := hD
      refine W.eq (g2 := F0 m 32 ls [.int (if 2 ≤ 0 then 0 else 1)]) rfl ?_
      refine lv_if_eq (tgt := 37) hx hb d_Mo_next_32 (by decide) (fun c_32 => ?_) (fun c_32 => ?_)
      · exact absurd c_32 (by decide)
      · refine lv_iconst (v := 0) hx hb d_Mo_next_35 (by decide) ?_
        exact W.iret (v := 0) hx hb hr (fun t ht hW => ⟨⟨0, (), rfl, rfl, by rw [ht]; exact hP, va_K.moved hW.alike hK, hD⟩, hS.F ht⟩) hS.2.2 d_Mo_next_36
  · exact absurd (hp.symm.trans c_6) (by decide)

set_option maxHeartbeats 4000000 in
set_option maxRecDepth 100000 in
theorem c_Mo_next (l : Launch) (dC : Nat → ClassId) (dI : Nat → Nat → Nat) (cI cL cZ : ClassId) (bd : Nat → Nat) (th : Int32) (K F S DD : Nat → Int32) (n : Nat) (NU VA BE WA LE AA RI UN CO : Nat → Int32) (unk cnt : Nat) (hn : n ≤ 120) (hunk : unk ≤ 10) (hcnt : cnt ≤ 30) (nd : Nat → Nat × Nat × Nat) (hok : MoOk nd n K F S DD) (a : Nat) (ha : a < n) (hp : hs (nI a) n = 1) (hd : ¬ dp nd a = 60) (sz : Nat) : Met l y_Mo_next (cw_Mo_next :: tb) (rmH 5 0 0) (va_Pc [.ref (bd 0), .int (nI a)] (wy_P (dC, dI) classes (wMo cI cZ bd th K F S DD n NU VA BE WA LE AA RI UN CO unk cnt) (tyI cI cL cZ) sz)) (wy_Q ry_i (fun r (u : MoS × Int32) => ∃ nd', mdp nd n (2, a, 0) 3 r u.2 nd' u.1.2.2.2.2 ∧ MoU nd' u.1) (wy_B (dC, dI) classes (tyI cI cL cZ) (va_A (wMo cI cZ bd th K F S DD n NU VA BE WA LE AA RI UN CO unk cnt) sz) (fun u : MoS × Int32 => (wMo cI cZ bd u.2 u.1.1 u.1.2.1 u.1.2.2.1 u.1.2.2.2.1 u.1.2.2.2.2 NU VA BE WA LE AA RI UN CO unk cnt))) (va_A (wMo cI cZ bd th K F S DD n NU VA BE WA LE AA RI UN CO unk cnt) sz)) 0 0 (va_A (wMo cI cZ bd th K F S DD n NU VA BE WA LE AA RI UN CO unk cnt) sz) := by
  refine Met.ofW (cc := b_Mo_next) (maxL := 2) (ret := (some .int)) (by decide +kernel) rfl ?_
  intro p e s m args below meth c s₁ B hml0 hv
  have C0 := cx_of B hml0 rfl
  obtain ⟨hx, hb, hr, hml, hown, htb, hlocks⟩ := id C0
  obtain ⟨rfl, hsz, hP, hK, hD0⟩ := hv
  subst hsz
  have hD := hD0.self (sz := s.heap.size)
  generalize hAe : va_A (wMo cI cZ bd th K F S DD n NU VA BE WA LE AA RI UN CO unk cnt) s.heap.size = A at hD ⊢
  have hA : ∀ q : Nat, s.heap.size ≤ q → A q := fun q h => by rw [← hAe]; exact Or.inr h
  have hS : va_S A s.heap s.heap [] := va_S.rf
  have hl := lv_entry ([.ref (bd 0), .int (nI a)]) (n := 2) (Nat.le_of_ble_eq_true rfl)
  rw [lg_entry_eq]
  generalize (lg_sl ([.ref (bd 0), .int (nI a)]) ++ List.replicate (2 - (lg_sl ([.ref (bd 0), .int (nI a)])).length) Slot.unset).toArray = ls at hl ⊢
  have hl : lv_has ls 2 [(0, .ref (bd 0)), (1, .int (nI a))] := hl
  have hP : va_P (dC, dI) classes [((bd 0), .inr (4, [.int th, .ref (bd 1), .ref (bd 2), .ref (bd 3), .ref (bd 4), .int (nI n), .ref (bd 5), .ref (bd 6), .ref (bd 7), .ref (bd 8), .ref (bd 9), .ref (bd 10), .ref (bd 11), .ref (bd 12), .ref (bd 13), .int (nI unk), .int (nI cnt)])), ((bd 1), .inl (cI, 120, .inl K)), ((bd 2), .inl (cI, 120, .inl F)), ((bd 3), .inl (cI, 120, .inl S)), ((bd 4), .inl (cI, 120, .inl DD)), ((bd 5), .inl (cI, 5, .inl NU)), ((bd 6), .inl (cI, 120, .inl VA)), ((bd 7), .inl (cI, 120, .inl BE)), ((bd 8), .inl (cI, 128, .inl WA)), ((bd 9), .inl (cI, 30, .inl LE)), ((bd 10), .inl (cI, 30, .inl AA)), ((bd 11), .inl (cI, 30, .inl RI)), ((bd 12), .inl (cI, 10, .inl UN)), ((bd 13), .inl (cZ, 30, .inl CO))] s.heap := hP
  have hD : va_D A [((bd 0), .inr (4, [.int th, .ref (bd 1), .ref (bd 2), .ref (bd 3), .ref (bd 4), .int (nI n), .ref (bd 5), .ref (bd 6), .ref (bd 7), .ref (bd 8), .ref (bd 9), .ref (bd 10), .ref (bd 11), .ref (bd 12), .ref (bd 13), .int (nI unk), .int (nI cnt)])), ((bd 1), .inl (cI, 120, .inl K)), ((bd 2), .inl (cI, 120, .inl F)), ((bd 3), .inl (cI, 120, .inl S)), ((bd 4), .inl (cI, 120, .inl DD)), ((bd 5), .inl (cI, 5, .inl NU)), ((bd 6), .inl (cI, 120, .inl VA)), ((bd 7), .inl (cI, 120, .inl BE)), ((bd 8), .inl (cI, 128, .inl WA)), ((bd 9), .inl (cI, 30, .inl LE)), ((bd 10), .inl (cI, 30, .inl AA)), ((bd 11), .inl (cI, 30, .inl RI)), ((bd 12), .inl (cI, 10, .inl UN)), ((bd 13), .inl (cZ, 30, .inl CO))] := hD
  have hA0 := hA
  have hda := hok.2.2 a ha
  refine lv_aload_n hx hb d_Mo_next_0 rfl (lv_at hl 0 rfl) ?_
  refine lv_aload_n hx hb d_Mo_next_1 rfl (lv_at hl 0 rfl) ?_
  refine lv_iload_n hx hb d_Mo_next_2 rfl (lv_at hl 1 rfl) ?_
  refine ry_callV (n := 1) (As := [.int (nI a)]) (rest := [.ref (bd 0)]) ⟨hx, hb, hml, hown, htb⟩ (c_Mo_isLevel l dC dI cI cL cZ bd th K F S DD n NU VA BE WA LE AA RI UN CO unk cnt hn hunk hcnt (nI a)) (gV mw_628 mw_630 mp_20 mw_5 mc_Mo_isLevel) rfl rfl (by decide +kernel) ⟨Nat.le_of_ble_eq_true rfl, Nat.le_of_ble_eq_true rfl⟩ (hP.sub [0, 1, 2, 3, 4, 5, 6, 7, 8, 9, 10, 11, 12, 13] rfl) hK (ci := 4) (q0 := 0) rfl rfl rfl rfl hl.1 rfl (Nat.le_of_ble_eq_true rfl) d_Mo_next_3 ⟨Nat.zero_le _, Nat.zero_le _⟩ (fun r_1 hr_1 => ?_)
  subst hr_1
  refine W.eq (g2 := F0 m 6 ls [.int (hs (nI a) n), .ref (bd 0)]) rfl ?_
  refine lv_if_ne (tgt := 13) hx hb d_Mo_next_6 (by decide) (fun c_6 => ?_) (fun c_6 => ?_)
  · refine lv_aload_n hx hb d_Mo_next_13 rfl (lv_at hl 0 rfl) ?_
    refine va_get (D := (dC, dI)) (ci := 4) (v := .ref (bd 4)) (C := R_Mo) (T := F_Mo) (N := 17) hx hb htb ul_Mo hown hK hP 0 rfl rfl 4 (by decide) (htb _ mw_552) (fun _ h9 => h9) rfl d_Mo_next_14 ?_
    refine lv_iload_n hx hb d_Mo_next_17 rfl (lv_at hl 1 rfl) ?_
    refine ry_iald (D := (dC, dI)) (j := a) hx hb hK hP 4 0 rfl rfl (by omega) (by decide) d_Mo_next_18 ?_
    rw [hda]
    refine lv_bipush (v := 60) hx hb d_Mo_next_19 (by decide) ?_
    refine lv_icmp_ne (tgt := 28) hx hb d_Mo_next_21 (by decide) (fun c_21 => ?_) (fun c_21 => ?_)
    · refine lv_iconst (v := 0) hx hb d_Mo_next_28 (by decide) ?_
      refine wy_callV (n := 1) (wr := []) (As := [.int 0]) (rest := []) ⟨hx, hb, hml, hown, htb⟩ (c_Mo_refuses l dC dI cI cL cZ bd th K F S DD n NU VA BE WA LE AA RI UN CO unk cnt hn hunk hcnt 0 s.heap.size) (gV mw_620 mw_622 mp_19 mw_5 mc_Mo_refuses) rfl rfl (by decide +kernel) ⟨Nat.le_of_ble_eq_true rfl, Nat.le_of_ble_eq_true rfl⟩ hP hD hS hA hK [0, 1, 2, 3, 4, 5, 6, 7, 8, 9, 10, 11, 12, 13] [] rfl rfl (by decide) (by decide) (hP.sub [0, 1, 2, 3, 4, 5, 6, 7, 8, 9, 10, 11, 12, 13] rfl) ((hD.sub [0, 1, 2, 3, 4, 5, 6, 7, 8, 9, 10, 11, 12, 13] (by decide) rfl).weaken (fun _ _ _ _ => trivial)) (ci := 4) (q0 := 0) rfl rfl rfl rfl hl.1 rfl (Nat.le_of_ble_eq_true rfl) d_Mo_next_29 ⟨Nat.le_of_ble_eq_true rfl, Nat.le_of_ble_eq_true rfl⟩ (fun r u H locs hpost hP hD hS => ?_)
      subst hpost
      have hP : va_P (dC, dI) classes [((bd 0), .inr (4, [.int 0, .ref (bd 1), .ref (bd 2), .ref (bd 3), .ref (bd 4), .int (nI n), .ref (bd 5), .ref (bd 6), .ref (bd 7), .ref (bd 8), .ref (bd 9), .ref (bd 10), .ref (bd 11), .ref (bd 12), .ref (bd 13), .int (nI unk), .int (nI cnt)])), ((bd 1), .inl (cI, 120, .inl K)), ((bd 2), .inl (cI, 120, .inl F)), ((bd 3), .inl (cI, 120, .inl S)), ((bd 4), .inl (cI, 120, .inl DD)), ((bd 5), .inl (cI, 5, .inl NU)), ((bd 6), .inl (cI, 120, .inl VA)), ((bd 7), .inl (cI, 120, .inl BE)), ((bd 8), .inl (cI, 128, .inl WA)), ((bd 9), .inl (cI, 30, .inl LE)), ((bd 10), .inl (cI, 30, .inl AA)), ((bd 11), .inl (cI, 30, .inl RI)), ((bd 12), .inl (cI, 10, .inl UN)), ((bd 13), .inl (cZ, 30, .inl CO))] H := hP
      have hD : va_D A [((bd 0), .inr (4, [.int 0, .ref (bd 1), .ref (bd 2), .ref (bd 3), .ref (bd 4), .int (nI n), .ref (bd 5), .ref (bd 6), .ref (bd 7), .ref (bd 8), .ref (bd 9), .ref (bd 10), .ref (bd 11), .ref (bd 12), .ref (bd 13), .int (nI unk), .int (nI cnt)])), ((bd 1), .inl (cI, 120, .inl K)), ((bd 2), .inl (cI, 120, .inl F)), ((bd 3), .inl (cI, 120, .inl S)), ((bd 4), .inl (cI, 120, .inl DD)), ((bd 5), .inl (cI, 5, .inl NU)), ((bd 6), .inl (cI, 120, .inl VA)), ((bd 7), .inl (cI, 120, .inl BE)), ((bd 8), .inl (cI, 128, .inl WA)), ((bd 9), .inl (cI, 30, .inl LE)), ((bd 10), .inl (cI, 30, .inl AA)), ((bd 11), .inl (cI, 30, .inl RI)), ((bd 12), .inl (cI, 10, .inl UN)), ((bd 13), .inl (cZ, 30, .inl CO))] := hD
      refine W.eq (g2 := F0 m 32 ls [.int (if 0 ≤ 0 then 0 else 1)]) rfl ?_
      refine lv_if_eq (tgt := 37) hx hb d_Mo_next_32 (by decide) (fun c_32 => ?_) (fun c_32 => ?_)
      · refine lv_aload_n hx hb d_Mo_next_37 rfl (lv_at hl 0 rfl) ?_
        refine lv_iconst (v := 2) hx hb d_Mo_next_38 (by decide) ?_
        refine lv_iload_n hx hb d_Mo_next_39 rfl (lv_at hl 1 rfl) ?_
        refine lv_iconst (v := (-1)) hx hb d_Mo_next_40 (by decide) ?_
        refine lv_iconst (v := 3) hx hb d_Mo_next_41 (by decide) ?_
        refine wy_callV (n := 4) (wr := []) (As := [.int 2, .int (nI a), .int (-1), .int 3]) (rest := []) ⟨hx, hb, hml, hown, htb⟩ (c_Mo_made l dC dI cI cL cZ bd 0 K F S DD n NU VA BE WA LE AA RI UN CO unk cnt hn hunk hcnt nd hok (2, a, 0) (row2 n ha) (fun z => absurd (show 60 ≤ dp nd a from z.2) (by have := hok.1.2.2.1 a ha; omega)) 3 H.size) (gV mw_608 mw_610 mp_17 mw_5 mc_Mo_made) rfl rfl (by decide +kernel) ⟨Nat.le_of_ble_eq_true rfl, Nat.le_of_ble_eq_true rfl⟩ hP hD hS hA hK [0, 1, 2, 3, 4, 5, 6, 7, 8, 9, 10, 11, 12, 13] [] rfl rfl (by decide) (by decide) (hP.sub [0, 1, 2, 3, 4, 5, 6, 7, 8, 9, 10, 11, 12, 13] rfl) ((hD.sub [0, 1, 2, 3, 4, 5, 6, 7, 8, 9, 10, 11, 12, 13] (by decide) rfl).weaken (fun _ _ _ _ => trivial)) (ci := 4) (q0 := 0) rfl rfl rfl rfl hl.1 rfl (Nat.le_of_ble_eq_true rfl) d_Mo_next_42 ⟨Nat.le_of_ble_eq_true rfl, Nat.le_of_ble_eq_true rfl⟩ (fun r u H locs hpost hP hD hS => ?_)
        have hP : va_P (dC, dI) classes [((bd 0), .inr (4, [.int u.2, .ref (bd 1), .ref (bd 2), .ref (bd 3), .ref (bd 4), .int (nI u.1.2.2.2.2), .ref (bd 5), .ref (bd 6), .ref (bd 7), .ref (bd 8), .ref (bd 9), .ref (bd 10), .ref (bd 11), .ref (bd 12), .ref (bd 13), .int (nI unk), .int (nI cnt)])), ((bd 1), .inl (cI, 120, .inl u.1.1)), ((bd 2), .inl (cI, 120, .inl u.1.2.1)), ((bd 3), .inl (cI, 120, .inl u.1.2.2.1)), ((bd 4), .inl (cI, 120, .inl u.1.2.2.2.1)), ((bd 5), .inl (cI, 5, .inl NU)), ((bd 6), .inl (cI, 120, .inl VA)), ((bd 7), .inl (cI, 120, .inl BE)), ((bd 8), .inl (cI, 128, .inl WA)), ((bd 9), .inl (cI, 30, .inl LE)), ((bd 10), .inl (cI, 30, .inl AA)), ((bd 11), .inl (cI, 30, .inl RI)), ((bd 12), .inl (cI, 10, .inl UN)), ((bd 13), .inl (cZ, 30, .inl CO))] H := hP
        have hD : va_D A [((bd 0), .inr (4, [.int u.2, .ref (bd 1), .ref (bd 2), .ref (bd 3), .ref (bd 4), .int (nI u.1.2.2.2.2), .ref (bd 5), .ref (bd 6), .ref (bd 7), .ref (bd 8), .ref (bd 9), .ref (bd 10), .ref (bd 11), .ref (bd 12), .ref (bd 13), .int (nI unk), .int (nI cnt)])), ((bd 1), .inl (cI, 120, .inl u.1.1)), ((bd 2), .inl (cI, 120, .inl u.1.2.1)), ((bd 3), .inl (cI, 120, .inl u.1.2.2.1)), ((bd 4), .inl (cI, 120, .inl u.1.2.2.2.1)), ((bd 5), .inl (cI, 5, .inl NU)), ((bd 6), .inl (cI, 120, .inl VA)), ((bd 7), .inl (cI, 120, .inl BE)), ((bd 8), .inl (cI, 128, .inl WA)), ((bd 9), .inl (cI, 30, .inl LE)), ((bd 10), .inl (cI, 30, .inl AA)), ((bd 11), .inl (cI, 30, .inl RI)), ((bd 12), .inl (cI, 10, .inl UN)), ((bd 13), .inl (cZ, 30, .inl CO))] := hD
        refine W.eq (g2 := F0 m 45 ls [.int r]) rfl ?_
        exact W.iret (v := r) hx hb hr (fun t ht hW => ⟨⟨r, u, rfl, hpost, by rw [ht]; exact hP, va_K.moved hW.alike hK, hD⟩, hS.F ht⟩) hS.2.2 d_Mo_next_45
      · exact absurd (by decide) c_32
    · exact absurd ((nI_eq (b := 60) (by have := hok.1.2.2.1 a ha; omega) (by decide)).mp c_21) hd
  · exact absurd (hp.symm.trans c_6) (by decide)

set_option maxHeartbeats 4000000 in
set_option maxRecDepth 100000 in
theorem c0_Mo_join (l : Launch) (dC : Nat → ClassId) (dI : Nat → Nat → Nat) (cI cL cZ : ClassId) (bd : Nat → Nat) (th : Int32) (K F S DD : Nat → Int32) (n : Nat) (NU VA BE WA LE AA RI UN CO : Nat → Int32) (unk cnt : Nat) (hn : n ≤ 120) (hunk : unk ≤ 10) (hcnt : cnt ≤ 30) (x y z : Int32) (hp : hs x n = 0 ∨ hs y n = 0) (sz : Nat) : Met l y_Mo_join (cw_Mo_join :: tb) (rmH 5 0 0) (va_Pc [.ref (bd 0), .int x, .int y, .int z] (wy_P (dC, dI) classes (wMo cI cZ bd th K F S DD n NU VA BE WA LE AA RI UN CO unk cnt) (tyI cI cL cZ) sz)) (wy_Q ry_i (fun r (u : Unit) => r = 0) (wy_B (dC, dI) classes (tyI cI cL cZ) (va_A (wMo cI cZ bd th K F S DD n NU VA BE WA LE AA RI UN CO unk cnt) sz) (fun u : Unit => (wMo cI cZ bd 1 K F S DD n NU VA BE WA LE AA RI UN CO unk cnt))) (va_A (wMo cI cZ bd th K F S DD n NU VA BE WA LE AA RI UN CO unk cnt) sz)) 0 0 (va_A (wMo cI cZ bd th K F S DD n NU VA BE WA LE AA RI UN CO unk cnt) sz) := by
  refine Met.ofW (cc := b_Mo_join) (maxL := 4) (ret := (some .int)) (by decide +kernel) rfl ?_
  intro p e s m args below meth c s₁ B hml0 hv
  have C0 := cx_of B hml0 rfl
  obtain ⟨hx, hb, hr, hml, hown, htb, hlocks⟩ := id C0
  obtain ⟨rfl, hsz, hP, hK, hD0⟩ := hv
  subst hsz
  have hD := hD0.self (sz := s.heap.size)
  generalize hAe : va_A (wMo cI cZ bd th K F S DD n NU VA BE WA LE AA RI UN CO unk cnt) s.heap.size = A at hD ⊢
  have hA : ∀ q : Nat, s.heap.size ≤ q → A q := fun q h => by rw [← hAe]; exact Or.inr h
  have hS : va_S A s.heap s.heap [] := va_S.rf
  have hl := lv_entry ([.ref (bd 0), .int x, .int y, .int z]) (n := 4) (Nat.le_of_ble_eq_true rfl)
  rw [lg_entry_eq]
  generalize (lg_sl ([.ref (bd 0), .int x, .int y, .int z]) ++ List.replicate (4 - (lg_sl ([.ref (bd 0), .int x, .int y, .int z])).length) Slot.unset).toArray = ls at hl ⊢
  have hl : lv_has ls 4 [(0, .ref (bd 0)), (1, .int x), (2, .int y), (3, .int z)] := hl
  have hP : va_P (dC, dI) classes [((bd 0), .inr (4, [.int th, .ref (bd 1), .ref (bd 2), .ref (bd 3), .ref (bd 4), .int (nI n), .ref (bd 5), .ref (bd 6), .ref (bd 7), .ref (bd 8), .ref (bd 9), .ref (bd 10), .ref (bd 11), .ref (bd 12), .ref (bd 13), .int (nI unk), .int (nI cnt)])), ((bd 1), .inl (cI, 120, .inl K)), ((bd 2), .inl (cI, 120, .inl F)), ((bd 3), .inl (cI, 120, .inl S)), ((bd 4), .inl (cI, 120, .inl DD)), ((bd 5), .inl (cI, 5, .inl NU)), ((bd 6), .inl (cI, 120, .inl VA)), ((bd 7), .inl (cI, 120, .inl BE)), ((bd 8), .inl (cI, 128, .inl WA)), ((bd 9), .inl (cI, 30, .inl LE)), ((bd 10), .inl (cI, 30, .inl AA)), ((bd 11), .inl (cI, 30, .inl RI)), ((bd 12), .inl (cI, 10, .inl UN)), ((bd 13), .inl (cZ, 30, .inl CO))] s.heap := hP
  have hD : va_D A [((bd 0), .inr (4, [.int th, .ref (bd 1), .ref (bd 2), .ref (bd 3), .ref (bd 4), .int (nI n), .ref (bd 5), .ref (bd 6), .ref (bd 7), .ref (bd 8), .ref (bd 9), .ref (bd 10), .ref (bd 11), .ref (bd 12), .ref (bd 13), .int (nI unk), .int (nI cnt)])), ((bd 1), .inl (cI, 120, .inl K)), ((bd 2), .inl (cI, 120, .inl F)), ((bd 3), .inl (cI, 120, .inl S)), ((bd 4), .inl (cI, 120, .inl DD)), ((bd 5), .inl (cI, 5, .inl NU)), ((bd 6), .inl (cI, 120, .inl VA)), ((bd 7), .inl (cI, 120, .inl BE)), ((bd 8), .inl (cI, 128, .inl WA)), ((bd 9), .inl (cI, 30, .inl LE)), ((bd 10), .inl (cI, 30, .inl AA)), ((bd 11), .inl (cI, 30, .inl RI)), ((bd 12), .inl (cI, 10, .inl UN)), ((bd 13), .inl (cZ, 30, .inl CO))] := hD
  have hA0 := hA
  refine lv_aload_n hx hb d_Mo_join_0 rfl (lv_at hl 0 rfl) ?_
  refine lv_aload_n hx hb d_Mo_join_1 rfl (lv_at hl 0 rfl) ?_
  refine lv_iload_n hx hb d_Mo_join_2 rfl (lv_at hl 1 rfl) ?_
  refine ry_callV (n := 1) (As := [.int x]) (rest := [.ref (bd 0)]) ⟨hx, hb, hml, hown, htb⟩ (c_Mo_isLevel l dC dI cI cL cZ bd th K F S DD n NU VA BE WA LE AA RI UN CO unk cnt hn hunk hcnt x) (gV mw_628 mw_630 mp_20 mw_5 mc_Mo_isLevel) rfl rfl (by decide +kernel) ⟨Nat.le_of_ble_eq_true rfl, Nat.le_of_ble_eq_true rfl⟩ (hP.sub [0, 1, 2, 3, 4, 5, 6, 7, 8, 9, 10, 11, 12, 13] rfl) hK (ci := 4) (q0 := 0) rfl rfl rfl rfl hl.1 rfl (Nat.le_of_ble_eq_true rfl) d_Mo_join_3 ⟨Nat.zero_le _, Nat.zero_le _⟩ (fun r_1 hr_1 => ?_)
  subst hr_1
  refine W.eq (g2 := F0 m 6 ls [.int (hs x n), .ref (bd 0)]) rfl ?_
  refine lv_if_eq (tgt := 17) hx hb d_Mo_join_6 (by decide) (fun c_6 => ?_) (fun c_6 => ?_)
  · refine lv_iconst (v := 1) hx hb d_Mo_join_17 (by decide) ?_
    refine lv_goto (tgt := 22) hx hb d_Mo_join_18 (by decide) ?_
    refine wy_callV (n := 1) (wr := []) (As := [.int 1]) (rest := []) ⟨hx, hb, hml, hown, htb⟩ (c_Mo_refuses l dC dI cI cL cZ bd th K F S DD n NU VA BE WA LE AA RI UN CO unk cnt hn hunk hcnt 1 s.heap.size) (gV mw_620 mw_622 mp_19 mw_5 mc_Mo_refuses) rfl rfl (by decide +kernel) ⟨Nat.le_of_ble_eq_true rfl, Nat.le_of_ble_eq_true rfl⟩ hP hD hS hA hK [0, 1, 2, 3, 4, 5, 6, 7, 8, 9, 10, 11, 12, 13] [] rfl rfl (by decide) (by decide) (hP.sub [0, 1, 2, 3, 4, 5, 6, 7, 8, 9, 10, 11, 12, 13] rfl) ((hD.sub [0, 1, 2, 3, 4, 5, 6, 7, 8, 9, 10, 11, 12, 13] (by decide) rfl).weaken (fun _ _ _ _ => trivial)) (ci := 4) (q0 := 0) rfl rfl rfl rfl hl.1 rfl (Nat.le_of_ble_eq_true rfl) d_Mo_join_22 ⟨Nat.le_of_ble_eq_true rfl, Nat.le_of_ble_eq_true rfl⟩ (fun r u H locs hpost hP hD hS => ?_)
    subst hpost
    have hP : va_P (dC, dI) classes [((bd 0), .inr (4, [.int 1, .ref (bd 1), .ref (bd 2), .ref (bd 3), .ref (bd 4), .int (nI n), .ref (bd 5), .ref (bd 6), .ref (bd 7), .ref (bd 8), .ref (bd 9), .ref (bd 10), .ref (bd 11), .ref (bd 12), .ref (bd 13), .int (nI unk), .int (nI cnt)])), ((bd 1), .inl (cI, 120, .inl K)), ((bd 2), .inl (cI, 120, .inl F)), ((bd 3), .inl (cI, 120, .inl S)), ((bd 4), .inl (cI, 120, .inl DD)), ((bd 5), .inl (cI, 5, .inl NU)), ((bd 6), .inl (cI, 120, .inl VA)), ((bd 7), .inl (cI, 120, .inl BE)), ((bd 8), .inl (cI, 128, .inl WA)), ((bd 9), .inl (cI, 30, .inl LE)), ((bd 10), .inl (cI, 30, .inl AA)), ((bd 11), .inl (cI, 30, .inl RI)), ((bd 12), .inl (cI, 10, .inl UN)), ((bd 13), .inl (cZ, 30, .inl CO))] H := hP
    have hD : va_D A [((bd 0), .inr (4, [.int 1, .ref (bd 1), .ref (bd 2), .ref (bd 3), .ref (bd 4), .int (nI n), .ref (bd 5), .ref (bd 6), .ref (bd 7), .ref (bd 8), .ref (bd 9), .ref (bd 10), .ref (bd 11), .ref (bd 12), .ref (bd 13), .int (nI unk), .int (nI cnt)])), ((bd 1), .inl (cI, 120, .inl K)), ((bd 2), .inl (cI, 120, .inl F)), ((bd 3), .inl (cI, 120, .inl S)), ((bd 4), .inl (cI, 120, .inl DD)), ((bd 5), .inl (cI, 5, .inl NU)), ((bd 6), .inl (cI, 120, .inl VA)), ((bd 7), .inl (cI, 120, .inl BE)), ((bd 8), .inl (cI, 128, .inl WA)), ((bd 9), .inl (cI, 30, .inl LE)), ((bd 10), .inl (cI, 30, .inl AA)), ((bd 11), .inl (cI, 30, .inl RI)), ((bd 12), .inl (cI, 10, .inl UN)), ((bd 13), .inl (cZ, 30, .inl CO))] := hD
    refine W.eq (g2 := F0 m 25 ls [.int (if 1 ≤ 0 then 0 else 1)]) rfl ?_
    refine lv_if_eq (tgt := 30) hx hb d_Mo_join_25 (by decide) (fun c_25 => ?_) (fun c_25 => ?_)
    · exact absurd c_25 (by decide)
    · refine lv_iconst (v := 0) hx hb d_Mo_join_28 (by decide) ?_
      exact W.iret (v := 0) hx hb hr (fun t ht hW => ⟨⟨0, (), rfl, rfl, by rw [ht]; exact hP, va_K.moved hW.alike hK, hD⟩, hS.F ht⟩) hS.2.2 d_Mo_join_29
  · refine lv_aload_n hx hb d_Mo_join_9 rfl (lv_at hl 0 rfl) ?_
    refine lv_iload_n hx hb d_Mo_join_10 rfl (lv_at hl 2 rfl) ?_
    refine ry_callV (n := 1) (As := [.int y]) (rest := [.ref (bd 0)]) ⟨hx, hb, hml, hown, htb⟩ (c_Mo_isLevel l dC dI cI cL cZ bd th K F S DD n NU VA BE WA LE AA RI UN CO unk cnt hn hunk hcnt y) (gV mw_628 mw_630 mp_20 mw_5 mc_Mo_isLevel) rfl rfl (by decide +kernel) ⟨Nat.le_of_ble_eq_true rfl, Nat.le_of_ble_eq_true rfl⟩ (hP.sub [0, 1, 2, 3, 4, 5, 6, 7, 8, 9, 10, 11, 12, 13] rfl) hK (ci := 4) (q0 := 0) rfl rfl rfl rfl hl.1 rfl (Nat.le_of_ble_eq_true rfl) d_Mo_join_11 ⟨Nat.zero_le _, Nat.zero_le _⟩ (fun r_2 hr_2 => ?_)
    subst hr_2
    refine W.eq (g2 := F0 m 14 ls [.int (hs y n), .ref (bd 0)]) rfl ?_
    refine lv_if_ne (tgt := 21) hx hb d_Mo_join_14 (by decide) (fun c_14 => ?_) (fun c_14 => ?_)
    · exact absurd hp (fun z => z.elim c_6 c_14)
    · refine lv_iconst (v := 1) hx hb d_Mo_join_17 (by decide) ?_
      refine lv_goto (tgt := 22) hx hb d_Mo_join_18 (by decide) ?_
      refine wy_callV (n := 1) (wr := []) (As := [.int 1]) (rest := []) ⟨hx, hb, hml, hown, htb⟩ (c_Mo_refuses l dC dI cI cL cZ bd th K F S DD n NU VA BE WA LE AA RI UN CO unk cnt hn hunk hcnt 1 s.heap.size) (gV mw_620 mw_622 mp_19 mw_5 mc_Mo_refuses) rfl rfl (by decide +kernel) ⟨Nat.le_of_ble_eq_true rfl, Nat.le_of_ble_eq_true rfl⟩ hP hD hS hA hK [0, 1, 2, 3, 4, 5, 6, 7, 8, 9, 10, 11, 12, 13] [] rfl rfl (by decide) (by decide) (hP.sub [0, 1, 2, 3, 4, 5, 6, 7, 8, 9, 10, 11, 12, 13] rfl) ((hD.sub [0, 1, 2, 3, 4, 5, 6, 7, 8, 9, 10, 11, 12, 13] (by decide) rfl).weaken (fun _ _ _ _ => trivial)) (ci := 4) (q0 := 0) rfl rfl rfl rfl hl.1 rfl (Nat.le_of_ble_eq_true rfl) d_Mo_join_22 ⟨Nat.le_of_ble_eq_true rfl, Nat.le_of_ble_eq_true rfl⟩ (fun r u H locs hpost hP hD hS => ?_)
      subst hpost
      have hP : va_P (dC, dI) classes [((bd 0), .inr (4, [.int 1, .ref (bd 1), .ref (bd 2), .ref (bd 3), .ref (bd 4), .int (nI n), .ref (bd 5), .ref (bd 6), .ref (bd 7), .ref (bd 8), .ref (bd 9), .ref (bd 10), .ref (bd 11), .ref (bd 12), .ref (bd 13), .int (nI unk), .int (nI cnt)])), ((bd 1), .inl (cI, 120, .inl K)), ((bd 2), .inl (cI, 120, .inl F)), ((bd 3), .inl (cI, 120, .inl S)), ((bd 4), .inl (cI, 120, .inl DD)), ((bd 5), .inl (cI, 5, .inl NU)), ((bd 6), .inl (cI, 120, .inl VA)), ((bd 7), .inl (cI, 120, .inl BE)), ((bd 8), .inl (cI, 128, .inl WA)), ((bd 9), .inl (cI, 30, .inl LE)), ((bd 10), .inl (cI, 30, .inl AA)), ((bd 11), .inl (cI, 30, .inl RI)), ((bd 12), .inl (cI, 10, .inl UN)), ((bd 13), .inl (cZ, 30, .inl CO))] H := hP
      have hD : va_D A [((bd 0), .inr (4, [.int 1, .ref (bd 1), .ref (bd 2), .ref (bd 3), .ref (bd 4), .int (nI n), .ref (bd 5), .ref (bd 6), .ref (bd 7), .ref (bd 8), .ref (bd 9), .ref (bd 10), .ref (bd 11), .ref (bd 12), .ref (bd 13), .int (nI unk), .int (nI cnt)])), ((bd 1), .inl (cI, 120, .inl K)), ((bd 2), .inl (cI, 120, .inl F)), ((bd 3), .inl (cI, 120, .inl S)), ((bd 4), .inl (cI, 120, .inl DD)), ((bd 5), .inl (cI, 5, .inl NU)), ((bd 6), .inl (cI, 120, .inl VA)), ((bd 7), .inl (cI, 120, .inl BE)), ((bd 8), .inl (cI, 128, .inl WA)), ((bd 9), .inl (cI, 30, .inl LE)), ((bd 10), .inl (cI, 30, .inl AA)), ((bd 11), .inl (cI, 30, .inl RI)), ((bd 12), .inl (cI, 10, .inl UN)), ((bd 13), .inl (cZ, 30, .inl CO))] := hD
      refine W.eq (g2 := F0 m 25 ls [.int (if 1 ≤ 0 then 0 else 1)]) rfl ?_
      refine lv_if_eq (tgt := 30) hx hb d_Mo_join_25 (by decide) (fun c_25 => ?_) (fun c_25 => ?_)
      · exact absurd c_25 (by decide)
      · refine lv_iconst (v := 0) hx hb d_Mo_join_28 (by decide) ?_
        exact W.iret (v := 0) hx hb hr (fun t ht hW => ⟨⟨0, (), rfl, rfl, by rw [ht]; exact hP, va_K.moved hW.alike hK, hD⟩, hS.F ht⟩) hS.2.2 d_Mo_join_29

set_option maxHeartbeats 4000000 in
set_option maxRecDepth 100000 in
theorem c4_Mo_join (l : Launch) (dC : Nat → ClassId) (dI : Nat → Nat → Nat) (cI cL cZ : ClassId) (bd : Nat → Nat) (th : Int32) (K F S DD : Nat → Int32) (n : Nat) (NU VA BE WA LE AA RI UN CO : Nat → Int32) (unk cnt : Nat) (hn : n ≤ 120) (hunk : unk ≤ 10) (hcnt : cnt ≤ 30) (nd : Nat → Nat × Nat × Nat) (hok : MoOk nd n K F S DD) (a b : Nat) (ha : a < n) (hb1 : b < n) (hp : hs (nI a) n = 1) (hp2 : hs (nI b) n = 1) (z : Int32) (hz : ¬ z = 0) (sz : Nat) : Met l y_Mo_join (cw_Mo_join :: tb) (rmH 5 0 0) (va_Pc [.ref (bd 0), .int (nI a), .int (nI b), .int z] (wy_P (dC, dI) classes (wMo cI cZ bd th K F S DD n NU VA BE WA LE AA RI UN CO unk cnt) (tyI cI cL cZ) sz)) (wy_Q ry_i (fun r (u : MoS × Int32) => ∃ nd', mdp nd n (4, a, b) 2 r u.2 nd' u.1.2.2.2.2 ∧ MoU nd' u.1) (wy_B (dC, dI) classes (tyI cI cL cZ) (va_A (wMo cI cZ bd th K F S DD n NU VA BE WA LE AA RI UN CO unk cnt) sz) (fun u : MoS × Int32 => (wMo cI cZ bd u.2 u.1.1 u.1.2.1 u.1.2.2.1 u.1.2.2.2.1 u.1.2.2.2.2 NU VA BE WA LE AA RI UN CO unk cnt))) (va_A (wMo cI cZ bd th K F S DD n NU VA BE WA LE AA RI UN CO unk cnt) sz)) 0 0 (va_A (wMo cI cZ bd th K F S DD n NU VA BE WA LE AA RI UN CO unk cnt) sz) := by
  refine Met.ofW (cc := b_Mo_join) (maxL := 4) (ret := (some .int)) (by decide +kernel) rfl ?_
  intro p e s m args below meth c s₁ B hml0 hv
  have C0 := cx_of B hml0 rfl
  obtain ⟨hx, hb, hr, hml, hown, htb, hlocks⟩ := id C0
  obtain ⟨rfl, hsz, hP, hK, hD0⟩ := hv
  subst hsz
  have hD := hD0.self (sz := s.heap.size)
  generalize hAe : va_A (wMo cI cZ bd th K F S DD n NU VA BE WA LE AA RI UN CO unk cnt) s.heap.size = A at hD ⊢
  have hA : ∀ q : Nat, s.heap.size ≤ q → A q := fun q h => by rw [← hAe]; exact Or.inr h
  have hS : va_S A s.heap s.heap [] := va_S.rf
  have hl := lv_entry ([.ref (bd 0), .int (nI a), .int (nI b), .int z]) (n := 4) (Nat.le_of_ble_eq_true rfl)
  rw [lg_entry_eq]
  generalize (lg_sl ([.ref (bd 0), .int (nI a), .int (nI b), .int z]) ++ List.replicate (4 - (lg_sl ([.ref (bd 0), .int (nI a), .int (nI b), .int z])).length) Slot.unset).toArray = ls at hl ⊢
  have hl : lv_has ls 4 [(0, .ref (bd 0)), (1, .int (nI a)), (2, .int (nI b)), (3, .int z)] := hl
  have hP : va_P (dC, dI) classes [((bd 0), .inr (4, [.int th, .ref (bd 1), .ref (bd 2), .ref (bd 3), .ref (bd 4), .int (nI n), .ref (bd 5), .ref (bd 6), .ref (bd 7), .ref (bd 8), .ref (bd 9), .ref (bd 10), .ref (bd 11), .ref (bd 12), .ref (bd 13), .int (nI unk), .int (nI cnt)])), ((bd 1), .inl (cI, 120, .inl K)), ((bd 2), .inl (cI, 120, .inl F)), ((bd 3), .inl (cI, 120, .inl S)), ((bd 4), .inl (cI, 120, .inl DD)), ((bd 5), .inl (cI, 5, .inl NU)), ((bd 6), .inl (cI, 120, .inl VA)), ((bd 7), .inl (cI, 120, .inl BE)), ((bd 8), .inl (cI, 128, .inl WA)), ((bd 9), .inl (cI, 30, .inl LE)), ((bd 10), .inl (cI, 30, .inl AA)), ((bd 11), .inl (cI, 30, .inl RI)), ((bd 12), .inl (cI, 10, .inl UN)), ((bd 13), .inl (cZ, 30, .inl CO))] s.heap := hP
  have hD : va_D A [((bd 0), .inr (4, [.int th, .ref (bd 1), .ref (bd 2), .ref (bd 3), .ref (bd 4), .int (nI n), .ref (bd 5), .ref (bd 6), .ref (bd 7), .ref (bd 8), .ref (bd 9), .ref (bd 10), .ref (bd 11), .ref (bd 12), .ref (bd 13), .int (nI unk), .int (nI cnt)])), ((bd 1), .inl (cI, 120, .inl K)), ((bd 2), .inl (cI, 120, .inl F)), ((bd 3), .inl (cI, 120, .inl S)), ((bd 4), .inl (cI, 120, .inl DD)), ((bd 5), .inl (cI, 5, .inl NU)), ((bd 6), .inl (cI, 120, .inl VA)), ((bd 7), .inl (cI, 120, .inl BE)), ((bd 8), .inl (cI, 128, .inl WA)), ((bd 9), .inl (cI, 30, .inl LE)), ((bd 10), .inl (cI, 30, .inl AA)), ((bd 11), .inl (cI, 30, .inl RI)), ((bd 12), .inl (cI, 10, .inl UN)), ((bd 13), .inl (cZ, 30, .inl CO))] := hD
  have hA0 := hA
  refine lv_aload_n hx hb d_Mo_join_0 rfl (lv_at hl 0 rfl) ?_
  refine lv_aload_n hx hb d_Mo_join_1 rfl (lv_at hl 0 rfl) ?_
  refine lv_iload_n hx hb d_Mo_join_2 rfl (lv_at hl 1 rfl) ?_
  refine ry_callV (n := 1) (As := [.int (nI a)]) (rest := [.ref (bd 0)]) ⟨hx, hb, hml, hown, htb⟩ (c_Mo_isLevel l dC dI cI cL cZ bd th K F S DD n NU VA BE WA LE AA RI UN CO unk cnt hn hunk hcnt (nI a)) (gV mw_628 mw_630 mp_20 mw_5 mc_Mo_isLevel) rfl rfl (by decide +kernel) ⟨Nat.le_of_ble_eq_true rfl, Nat.le_of_ble_eq_true rfl⟩ (hP.sub [0, 1, 2, 3, 4, 5, 6, 7, 8, 9, 10, 11, 12, 13] rfl) hK (ci := 4) (q0 := 0) rfl rfl rfl rfl hl.1 rfl (Nat.le_of_ble_eq_true rfl) d_Mo_join_3 ⟨Nat.zero_le _, Nat.zero_le _⟩ (fun r_1 hr_1 => ?_)
  subst hr_1
  refine W.eq (g2 := F0 m 6 ls [.int (hs (nI a) n), .ref (bd 0)]) rfl ?_
  refine lv_if_eq (tgt := 17) hx hb d_Mo_join_6 (by decide) (fun c_6 => ?_) (fun c_6 => ?_)
  · exact absurd (hp.symm.trans c_6) (by decide)
  · refine lv_aload_n hx hb d_Mo_join_9 rfl (lv_at hl 0 rfl) ?_
    refine lv_iload_n hx hb d_Mo_join_10 rfl (lv_at hl 2 rfl) ?_
    refine ry_callV (n := 1) (As := [.int (nI b)]) (rest := [.ref (bd 0)]) ⟨hx, hb, hml, hown, htb⟩ (c_Mo_isLevel l dC dI cI cL cZ bd th K F S DD n NU VA BE WA LE AA RI UN CO unk cnt hn hunk hcnt (nI b)) (gV mw_628 mw_630 mp_20 mw_5 mc_Mo_isLevel) rfl rfl (by decide +kernel) ⟨Nat.le_of_ble_eq_true rfl, Nat.le_of_ble_eq_true rfl⟩ (hP.sub [0, 1, 2, 3, 4, 5, 6, 7, 8, 9, 10, 11, 12, 13] rfl) hK (ci := 4) (q0 := 0) rfl rfl rfl rfl hl.1 rfl (Nat.le_of_ble_eq_true rfl) d_Mo_join_11 ⟨Nat.zero_le _, Nat.zero_le _⟩ (fun r_2 hr_2 => ?_)
    subst hr_2
    refine W.eq (g2 := F0 m 14 ls [.int (hs (nI b) n), .ref (bd 0)]) rfl ?_
    refine lv_if_ne (tgt := 21) hx hb d_Mo_join_14 (by decide) (fun c_14 => ?_) (fun c_14 => ?_)
    · refine lv_iconst (v := 0) hx hb d_Mo_join_21 (by decide) ?_
      refine wy_callV (n := 1) (wr := []) (As := [.int 0]) (rest := []) ⟨hx, hb, hml, hown, htb⟩ (c_Mo_refuses l dC dI cI cL cZ bd th K F S DD n NU VA BE WA LE AA RI UN CO unk cnt hn hunk hcnt 0 s.heap.size) (gV mw_620 mw_622 mp_19 mw_5 mc_Mo_refuses) rfl rfl (by decide +kernel) ⟨Nat.le_of_ble_eq_true rfl, Nat.le_of_ble_eq_true rfl⟩ hP hD hS hA hK [0, 1, 2, 3, 4, 5, 6, 7, 8, 9, 10, 11, 12, 13] [] rfl rfl (by decide) (by decide) (hP.sub [0, 1, 2, 3, 4, 5, 6, 7, 8, 9, 10, 11, 12, 13] rfl) ((hD.sub [0, 1, 2, 3, 4, 5, 6, 7, 8, 9, 10, 11, 12, 13] (by decide) rfl).weaken (fun _ _ _ _ => trivial)) (ci := 4) (q0 := 0) rfl rfl rfl rfl hl.1 rfl (Nat.le_of_ble_eq_true rfl) d_Mo_join_22 ⟨Nat.le_of_ble_eq_true rfl, Nat.le_of_ble_eq_true rfl⟩ (fun r u H locs hpost hP hD hS => ?_)
      subst hpost
      have hP : va_P (dC, dI) classes [((bd 0), .inr (4, [.int 0, .ref (bd 1), .ref (bd 2), .ref (bd 3), .ref (bd 4), .int (nI n), .ref (bd 5), .ref (bd 6), .ref (bd 7), .ref (bd 8), .ref (bd 9), .ref (bd 10), .ref (bd 11), .ref (bd 12), .ref (bd 13), .int (nI unk), .int (nI cnt)])), ((bd 1), .inl (cI, 120, .inl K)), ((bd 2), .inl (cI, 120, .inl F)), ((bd 3), .inl (cI, 120, .inl S)), ((bd 4), .inl (cI, 120, .inl DD)), ((bd 5), .inl (cI, 5, .inl NU)), ((bd 6), .inl (cI, 120, .inl VA)), ((bd 7), .inl (cI, 120, .inl BE)), ((bd 8), .inl (cI, 128, .inl WA)), ((bd 9), .inl (cI, 30, .inl LE)), ((bd 10), .inl (cI, 30, .inl AA)), ((bd 11), .inl (cI, 30, .inl RI)), ((bd 12), .inl (cI, 10, .inl UN)), ((bd 13), .inl (cZ, 30, .inl CO))] H := hP
      have hD : va_D A [((bd 0), .inr (4, [.int 0, .ref (bd 1), .ref (bd 2), .ref (bd 3), .ref (bd 4), .int (nI n), .ref (bd 5), .ref (bd 6), .ref (bd 7), .ref (bd 8), .ref (bd 9), .ref (bd 10), .ref (bd 11), .ref (bd 12), .ref (bd 13), .int (nI unk), .int (nI cnt)])), ((bd 1), .inl (cI, 120, .inl K)), ((bd 2), .inl (cI, 120, .inl F)), ((bd 3), .inl (cI, 120, .inl S)), ((bd 4), .inl (cI, 120, .inl DD)), ((bd 5), .inl (cI, 5, .inl NU)), ((bd 6), .inl (cI, 120, .inl VA)), ((bd 7), .inl (cI, 120, .inl BE)), ((bd 8), .inl (cI, 128, .inl WA)), ((bd 9), .inl (cI, 30, .inl LE)), ((bd 10), .inl (cI, 30, .inl AA)), ((bd 11), .inl (cI, 30, .inl RI)), ((bd 12), .inl (cI, 10, .inl UN)), ((bd 13), .inl (cZ, 30, .inl CO))] := hD
      refine W.eq (g2 := F0 m 25 ls [.int (if 0 ≤ 0 then 0 else 1)]) rfl ?_
      refine lv_if_eq (tgt := 30) hx hb d_Mo_join_25 (by decide) (fun c_25 => ?_) (fun c_25 => ?_)
      · refine lv_aload_n hx hb d_Mo_join_30 rfl (lv_at hl 0 rfl) ?_
        refine lv_iload_n hx hb d_Mo_join_31 rfl (lv_at hl 3 rfl) ?_
        refine lv_if_eq (tgt := 39) hx hb d_Mo_join_32 (by decide) (fun c_32 => ?_) (fun c_32 => ?_)
        · exact absurd c_32 hz
        · refine lv_iconst (v := 4) hx hb d_Mo_join_35 (by decide) ?_
          refine lv_goto (tgt := 40) hx hb d_Mo_join_36 (by decide) ?_
          refine lv_iload_n hx hb d_Mo_join_40 rfl (lv_at hl 1 rfl) ?_
          refine lv_iload_n hx hb d_Mo_join_41 rfl (lv_at hl 2 rfl) ?_
          refine lv_iconst (v := 2) hx hb d_Mo_join_42 (by decide) ?_
          refine wy_callV (n := 4) (wr := []) (As := [.int 4, .int (nI a), .int (nI b), .int 2]) (rest := []) ⟨hx, hb, hml, hown, htb⟩ (c_Mo_made l dC dI cI cL cZ bd 0 K F S DD n NU VA BE WA LE AA RI UN CO unk cnt hn hunk hcnt nd hok (4, a, b) (row4 n ha hb1) (fun z => absurd (show (4 : Nat) = 2 from z.1) (by decide)) 2 H.size) (gV mw_608 mw_610 mp_17 mw_5 mc_Mo_made) rfl rfl (by decide +kernel) ⟨Nat.le_of_ble_eq_true rfl, Nat.le_of_ble_eq_true rfl⟩ hP hD hS hA hK [0, 1, 2, 3, 4, 5, 6, 7, 8, 9, 10, 11, 12, 13] [] rfl rfl (by decide) (by decide) (hP.sub [0, 1, 2, 3, 4, 5, 6, 7, 8, 9, 10, 11, 12, 13] rfl) ((hD.sub [0, 1, 2, 3, 4, 5, 6, 7, 8, 9, 10, 11, 12, 13] (by decide) rfl).weaken (fun _ _ _ _ => trivial)) (ci := 4) (q0 := 0) rfl rfl rfl rfl hl.1 rfl (Nat.le_of_ble_eq_true rfl) d_Mo_join_43 ⟨Nat.le_of_ble_eq_true rfl, Nat.le_of_ble_eq_true rfl⟩ (fun r u H locs hpost hP hD hS => ?_)
          have hP : va_P (dC, dI) classes [((bd 0), .inr (4, [.int u.2, .ref (bd 1), .ref (bd 2), .ref (bd 3), .ref (bd 4), .int (nI u.1.2.2.2.2), .ref (bd 5), .ref (bd 6), .ref (bd 7), .ref (bd 8), .ref (bd 9), .ref (bd 10), .ref (bd 11), .ref (bd 12), .ref (bd 13), .int (nI unk), .int (nI cnt)])), ((bd 1), .inl (cI, 120, .inl u.1.1)), ((bd 2), .inl (cI, 120, .inl u.1.2.1)), ((bd 3), .inl (cI, 120, .inl u.1.2.2.1)), ((bd 4), .inl (cI, 120, .inl u.1.2.2.2.1)), ((bd 5), .inl (cI, 5, .inl NU)), ((bd 6), .inl (cI, 120, .inl VA)), ((bd 7), .inl (cI, 120, .inl BE)), ((bd 8), .inl (cI, 128, .inl WA)), ((bd 9), .inl (cI, 30, .inl LE)), ((bd 10), .inl (cI, 30, .inl AA)), ((bd 11), .inl (cI, 30, .inl RI)), ((bd 12), .inl (cI, 10, .inl UN)), ((bd 13), .inl (cZ, 30, .inl CO))] H := hP
          have hD : va_D A [((bd 0), .inr (4, [.int u.2, .ref (bd 1), .ref (bd 2), .ref (bd 3), .ref (bd 4), .int (nI u.1.2.2.2.2), .ref (bd 5), .ref (bd 6), .ref (bd 7), .ref (bd 8), .ref (bd 9), .ref (bd 10), .ref (bd 11), .ref (bd 12), .ref (bd 13), .int (nI unk), .int (nI cnt)])), ((bd 1), .inl (cI, 120, .inl u.1.1)), ((bd 2), .inl (cI, 120, .inl u.1.2.1)), ((bd 3), .inl (cI, 120, .inl u.1.2.2.1)), ((bd 4), .inl (cI, 120, .inl u.1.2.2.2.1)), ((bd 5), .inl (cI, 5, .inl NU)), ((bd 6), .inl (cI, 120, .inl VA)), ((bd 7), .inl (cI, 120, .inl BE)), ((bd 8), .inl (cI, 128, .inl WA)), ((bd 9), .inl (cI, 30, .inl LE)), ((bd 10), .inl (cI, 30, .inl AA)), ((bd 11), .inl (cI, 30, .inl RI)), ((bd 12), .inl (cI, 10, .inl UN)), ((bd 13), .inl (cZ, 30, .inl CO))] := hD
          refine W.eq (g2 := F0 m 46 ls [.int r]) rfl ?_
          exact W.iret (v := r) hx hb hr (fun t ht hW => ⟨⟨r, u, rfl, hpost, by rw [ht]; exact hP, va_K.moved hW.alike hK, hD⟩, hS.F ht⟩) hS.2.2 d_Mo_join_46
      · exact absurd (by decide) c_25
    · exact absurd (hp2.symm.trans c_14) (by decide)

set_option maxHeartbeats 4000000 in
set_option maxRecDepth 100000 in
theorem c3_Mo_join (l : Launch) (dC : Nat → ClassId) (dI : Nat → Nat → Nat) (cI cL cZ : ClassId) (bd : Nat → Nat) (th : Int32) (K F S DD : Nat → Int32) (n : Nat) (NU VA BE WA LE AA RI UN CO : Nat → Int32) (unk cnt : Nat) (hn : n ≤ 120) (hunk : unk ≤ 10) (hcnt : cnt ≤ 30) (nd : Nat → Nat × Nat × Nat) (hok : MoOk nd n K F S DD) (a b : Nat) (ha : a < n) (hb1 : b < n) (hp : hs (nI a) n = 1) (hp2 : hs (nI b) n = 1) (z : Int32) (hz : z = 0) (sz : Nat) : Met l y_Mo_join (cw_Mo_join :: tb) (rmH 5 0 0) (va_Pc [.ref (bd 0), .int (nI a), .int (nI b), .int z] (wy_P (dC, dI) classes (wMo cI cZ bd th K F S DD n NU VA BE WA LE AA RI UN CO unk cnt) (tyI cI cL cZ) sz)) (wy_Q ry_i (fun r (u : MoS × Int32) => ∃ nd', mdp nd n (3, a, b) 2 r u.2 nd' u.1.2.2.2.2 ∧ MoU nd' u.1) (wy_B (dC, dI) classes (tyI cI cL cZ) (va_A (wMo cI cZ bd th K F S DD n NU VA BE WA LE AA RI UN CO unk cnt) sz) (fun u : MoS × Int32 => (wMo cI cZ bd u.2 u.1.1 u.1.2.1 u.1.2.2.1 u.1.2.2.2.1 u.1.2.2.2.2 NU VA BE WA LE AA RI UN CO unk cnt))) (va_A (wMo cI cZ bd th K F S DD n NU VA BE WA LE AA RI UN CO unk cnt) sz)) 0 0 (va_A (wMo cI cZ bd th K F S DD n NU VA BE WA LE AA RI UN CO unk cnt) sz) := by
  refine Met.ofW (cc := b_Mo_join) (maxL := 4) (ret := (some .int)) (by decide +kernel) rfl ?_
  intro p e s m args below meth c s₁ B hml0 hv
  have C0 := cx_of B hml0 rfl
  obtain ⟨hx, hb, hr, hml, hown, htb, hlocks⟩ := id C0
  obtain ⟨rfl, hsz, hP, hK, hD0⟩ := hv
  subst hsz
  have hD := hD0.self (sz := s.heap.size)
  generalize hAe : va_A (wMo cI cZ bd th K F S DD n NU VA BE WA LE AA RI UN CO unk cnt) s.heap.size = A at hD ⊢
  have hA : ∀ q : Nat, s.heap.size ≤ q → A q := fun q h => by rw [← hAe]; exact Or.inr h
  have hS : va_S A s.heap s.heap [] := va_S.rf
  have hl := lv_entry ([.ref (bd 0), .int (nI a), .int (nI b), .int z]) (n := 4) (Nat.le_of_ble_eq_true rfl)
  rw [lg_entry_eq]
  generalize (lg_sl ([.ref (bd 0), .int (nI a), .int (nI b), .int z]) ++ List.replicate (4 - (lg_sl ([.ref (bd 0), .int (nI a), .int (nI b), .int z])).length) Slot.unset).toArray = ls at hl ⊢
  have hl : lv_has ls 4 [(0, .ref (bd 0)), (1, .int (nI a)), (2, .int (nI b)), (3, .int z)] := hl
  have hP : va_P (dC, dI) classes [((bd 0), .inr (4, [.int th, .ref (bd 1), .ref (bd 2), .ref (bd 3), .ref (bd 4), .int (nI n), .ref (bd 5), .ref (bd 6), .ref (bd 7), .ref (bd 8), .ref (bd 9), .ref (bd 10), .ref (bd 11), .ref (bd 12), .ref (bd 13), .int (nI unk), .int (nI cnt)])), ((bd 1), .inl (cI, 120, .inl K)), ((bd 2), .inl (cI, 120, .inl F)), ((bd 3), .inl (cI, 120, .inl S)), ((bd 4), .inl (cI, 120, .inl DD)), ((bd 5), .inl (cI, 5, .inl NU)), ((bd 6), .inl (cI, 120, .inl VA)), ((bd 7), .inl (cI, 120, .inl BE)), ((bd 8), .inl (cI, 128, .inl WA)), ((bd 9), .inl (cI, 30, .inl LE)), ((bd 10), .inl (cI, 30, .inl AA)), ((bd 11), .inl (cI, 30, .inl RI)), ((bd 12), .inl (cI, 10, .inl UN)), ((bd 13), .inl (cZ, 30, .inl CO))] s.heap := hP
  have hD : va_D A [((bd 0), .inr (4, [.int th, .ref (bd 1), .ref (bd 2), .ref (bd 3), .ref (bd 4), .int (nI n), .ref (bd 5), .ref (bd 6), .ref (bd 7), .ref (bd 8), .ref (bd 9), .ref (bd 10), .ref (bd 11), .ref (bd 12), .ref (bd 13), .int (nI unk), .int (nI cnt)])), ((bd 1), .inl (cI, 120, .inl K)), ((bd 2), .inl (cI, 120, .inl F)), ((bd 3), .inl (cI, 120, .inl S)), ((bd 4), .inl (cI, 120, .inl DD)), ((bd 5), .inl (cI, 5, .inl NU)), ((bd 6), .inl (cI, 120, .inl VA)), ((bd 7), .inl (cI, 120, .inl BE)), ((bd 8), .inl (cI, 128, .inl WA)), ((bd 9), .inl (cI, 30, .inl LE)), ((bd 10), .inl (cI, 30, .inl AA)), ((bd 11), .inl (cI, 30, .inl RI)), ((bd 12), .inl (cI, 10, .inl UN)), ((bd 13), .inl (cZ, 30, .inl CO))] := hD
  have hA0 := hA
  refine lv_aload_n hx hb d_Mo_join_0 rfl (lv_at hl 0 rfl) ?_
  refine lv_aload_n hx hb d_Mo_join_1 rfl (lv_at hl 0 rfl) ?_
  refine lv_iload_n hx hb d_Mo_join_2 rfl (lv_at hl 1 rfl) ?_
  refine ry_callV (n := 1) (As := [.int (nI a)]) (rest := [.ref (bd 0)]) ⟨hx, hb, hml, hown, htb⟩ (c_Mo_isLevel l dC dI cI cL cZ bd th K F S DD n NU VA BE WA LE AA RI UN CO unk cnt hn hunk hcnt (nI a)) (gV mw_628 mw_630 mp_20 mw_5 mc_Mo_isLevel) rfl rfl (by decide +kernel) ⟨Nat.le_of_ble_eq_true rfl, Nat.le_of_ble_eq_true rfl⟩ (hP.sub [0, 1, 2, 3, 4, 5, 6, 7, 8, 9, 10, 11, 12, 13] rfl) hK (ci := 4) (q0 := 0) rfl rfl rfl rfl hl.1 rfl (Nat.le_of_ble_eq_true rfl) d_Mo_join_3 ⟨Nat.zero_le _, Nat.zero_le _⟩ (fun r_1 hr_1 => ?_)
  subst hr_1
  refine W.eq (g2 := F0 m 6 ls [.int (hs (nI a) n), .ref (bd 0)]) rfl ?_
  refine lv_if_eq (tgt := 17) hx hb d_Mo_join_6 (by decide) (fun c_6 => ?_) (fun c_6 => ?_)
  · exact absurd (hp.symm.trans c_6) (by decide)
  · refine lv_aload_n hx hb d_Mo_join_9 rfl (lv_at hl 0 rfl) ?_
    refine lv_iload_n hx hb d_Mo_join_10 rfl (lv_at hl 2 rfl) ?_
    refine ry_callV (n := 1) (As := [.int (nI b)]) (rest := [.ref (bd 0)]) ⟨hx, hb, hml, hown, htb⟩ (c_Mo_isLevel l dC dI cI cL cZ bd th K F S DD n NU VA BE WA LE AA RI UN CO unk cnt hn hunk hcnt (nI b)) (gV mw_628 mw_630 mp_20 mw_5 mc_Mo_isLevel) rfl rfl (by decide +kernel) ⟨Nat.le_of_ble_eq_true rfl, Nat.le_of_ble_eq_true rfl⟩ (hP.sub [0, 1, 2, 3, 4, 5, 6, 7, 8, 9, 10, 11, 12, 13] rfl) hK (ci := 4) (q0 := 0) rfl rfl rfl rfl hl.1 rfl (Nat.le_of_ble_eq_true rfl) d_Mo_join_11 ⟨Nat.zero_le _, Nat.zero_le _⟩ (fun r_2 hr_2 => ?_)
    subst hr_2
    refine W.eq (g2 := F0 m 14 ls [.int (hs (nI b) n), .ref (bd 0)]) rfl ?_
    refine lv_if_ne (tgt := 21) hx hb d_Mo_join_14 (by decide) (fun c_14 => ?_) (fun c_14 => ?_)
    · refine lv_iconst (v := 0) hx hb d_Mo_join_21 (by decide) ?_
      refine wy_callV (n := 1) (wr := []) (As := [.int 0]) (rest := []) ⟨hx, hb, hml, hown, htb⟩ (c_Mo_refuses l dC dI cI cL cZ bd th K F S DD n NU VA BE WA LE AA RI UN CO unk cnt hn hunk hcnt 0 s.heap.size) (gV mw_620 mw_622 mp_19 mw_5 mc_Mo_refuses) rfl rfl (by decide +kernel) ⟨Nat.le_of_ble_eq_true rfl, Nat.le_of_ble_eq_true rfl⟩ hP hD hS hA hK [0, 1, 2, 3, 4, 5, 6, 7, 8, 9, 10, 11, 12, 13] [] rfl rfl (by decide) (by decide) (hP.sub [0, 1, 2, 3, 4, 5, 6, 7, 8, 9, 10, 11, 12, 13] rfl) ((hD.sub [0, 1, 2, 3, 4, 5, 6, 7, 8, 9, 10, 11, 12, 13] (by decide) rfl).weaken (fun _ _ _ _ => trivial)) (ci := 4) (q0 := 0) rfl rfl rfl rfl hl.1 rfl (Nat.le_of_ble_eq_true rfl) d_Mo_join_22 ⟨Nat.le_of_ble_eq_true rfl, Nat.le_of_ble_eq_true rfl⟩ (fun r u H locs hpost hP hD hS => ?_)
      subst hpost
      have hP : va_P (dC, dI) classes [((bd 0), .inr (4, [.int 0, .ref (bd 1), .ref (bd 2), .ref (bd 3), .ref (bd 4), .int (nI n), .ref (bd 5), .ref (bd 6), .ref (bd 7), .ref (bd 8), .ref (bd 9), .ref (bd 10), .ref (bd 11), .ref (bd 12), .ref (bd 13), .int (nI unk), .int (nI cnt)])), ((bd 1), .inl (cI, 120, .inl K)), ((bd 2), .inl (cI, 120, .inl F)), ((bd 3), .inl (cI, 120, .inl S)), ((bd 4), .inl (cI, 120, .inl DD)), ((bd 5), .inl (cI, 5, .inl NU)), ((bd 6), .inl (cI, 120, .inl VA)), ((bd 7), .inl (cI, 120, .inl BE)), ((bd 8), .inl (cI, 128, .inl WA)), ((bd 9), .inl (cI, 30, .inl LE)), ((bd 10), .inl (cI, 30, .inl AA)), ((bd 11), .inl (cI, 30, .inl RI)), ((bd 12), .inl (cI, 10, .inl UN)), ((bd 13), .inl (cZ, 30, .inl CO))] H := hP
      have hD : va_D A [((bd 0), .inr (4, [.int 0, .ref (bd 1), .ref (bd 2), .ref (bd 3), .ref (bd 4), .int (nI n), .ref (bd 5), .ref (bd 6), .ref (bd 7), .ref (bd 8), .ref (bd 9), .ref (bd 10), .ref (bd 11), .ref (bd 12), .ref (bd 13), .int (nI unk), .int (nI cnt)])), ((bd 1), .inl (cI, 120, .inl K)), ((bd 2), .inl (cI, 120, .inl F)), ((bd 3), .inl (cI, 120, .inl S)), ((bd 4), .inl (cI, 120, .inl DD)), ((bd 5), .inl (cI, 5, .inl NU)), ((bd 6), .inl (cI, 120, .inl VA)), ((bd 7), .inl (cI, 120, .inl BE)), ((bd 8), .inl (cI, 128, .inl WA)), ((bd 9), .inl (cI, 30, .inl LE)), ((bd 10), .inl (cI, 30, .inl AA)), ((bd 11), .inl (cI, 30, .inl RI)), ((bd 12), .inl (cI, 10, .inl UN)), ((bd 13), .inl (cZ, 30, .inl CO))] := hD
      refine W.eq (g2 := F0 m 25 ls [.int (if 0 ≤ 0 then 0 else 1)]) rfl ?_
      refine lv_if_eq (tgt := 30) hx hb d_Mo_join_25 (by decide) (fun c_25 => ?_) (fun c_25 => ?_)
      · refine lv_aload_n hx hb d_Mo_join_30 rfl (lv_at hl 0 rfl) ?_
        refine lv_iload_n hx hb d_Mo_join_31 rfl (lv_at hl 3 rfl) ?_
        refine lv_if_eq (tgt := 39) hx hb d_Mo_join_32 (by decide) (fun c_32 => ?_) (fun c_32 => ?_)
        · refine lv_iconst (v := 3) hx hb d_Mo_join_39 (by decide) ?_
          refine lv_iload_n hx hb d_Mo_join_40 rfl (lv_at hl 1 rfl) ?_
          refine lv_iload_n hx hb d_Mo_join_41 rfl (lv_at hl 2 rfl) ?_
          refine lv_iconst (v := 2) hx hb d_Mo_join_42 (by decide) ?_
          refine wy_callV (n := 4) (wr := []) (As := [.int 3, .int (nI a), .int (nI b), .int 2]) (rest := []) ⟨hx, hb, hml, hown, htb⟩ (c_Mo_made l dC dI cI cL cZ bd 0 K F S DD n NU VA BE WA LE AA RI UN CO unk cnt hn hunk hcnt nd hok (3, a, b) (row3 n ha hb1) (fun z => absurd (show (3 : Nat) = 2 from z.1) (by decide)) 2 H.size) (gV mw_608 mw_610 mp_17 mw_5 mc_Mo_made) rfl rfl (by decide +kernel) ⟨Nat.le_of_ble_eq_true rfl, Nat.le_of_ble_eq_true rfl⟩ hP hD hS hA hK [0, 1, 2, 3, 4, 5, 6, 7, 8, 9, 10, 11, 12, 13] [] rfl rfl (by decide) (by decide) (hP.sub [0, 1, 2, 3, 4, 5, 6, 7, 8, 9, 10, 11, 12, 13] rfl) ((hD.sub [0, 1, 2, 3, 4, 5, 6, 7, 8, 9, 10, 11, 12, 13] (by decide) rfl).weaken (fun _ _ _ _ => trivial)) (ci := 4) (q0 := 0) rfl rfl rfl rfl hl.1 rfl (Nat.le_of_ble_eq_true rfl) d_Mo_join_43 ⟨Nat.le_of_ble_eq_true rfl, Nat.le_of_ble_eq_true rfl⟩ (fun r u H locs hpost hP hD hS => ?_)
          have hP : va_P (dC, dI) classes [((bd 0), .inr (4, [.int u.2, .ref (bd 1), .ref (bd 2), .ref (bd 3), .ref (bd 4), .int (nI u.1.2.2.2.2), .ref (bd 5), .ref (bd 6), .ref (bd 7), .ref (bd 8), .ref (bd 9), .ref (bd 10), .ref (bd 11), .ref (bd 12), .ref (bd 13), .int (nI unk), .int (nI cnt)])), ((bd 1), .inl (cI, 120, .inl u.1.1)), ((bd 2), .inl (cI, 120, .inl u.1.2.1)), ((bd 3), .inl (cI, 120, .inl u.1.2.2.1)), ((bd 4), .inl (cI, 120, .inl u.1.2.2.2.1)), ((bd 5), .inl (cI, 5, .inl NU)), ((bd 6), .inl (cI, 120, .inl VA)), ((bd 7), .inl (cI, 120, .inl BE)), ((bd 8), .inl (cI, 128, .inl WA)), ((bd 9), .inl (cI, 30, .inl LE)), ((bd 10), .inl (cI, 30, .inl AA)), ((bd 11), .inl (cI, 30, .inl RI)), ((bd 12), .inl (cI, 10, .inl UN)), ((bd 13), .inl (cZ, 30, .inl CO))] H := hP
          have hD : va_D A [((bd 0), .inr (4, [.int u.2, .ref (bd 1), .ref (bd 2), .ref (bd 3), .ref (bd 4), .int (nI u.1.2.2.2.2), .ref (bd 5), .ref (bd 6), .ref (bd 7), .ref (bd 8), .ref (bd 9), .ref (bd 10), .ref (bd 11), .ref (bd 12), .ref (bd 13), .int (nI unk), .int (nI cnt)])), ((bd 1), .inl (cI, 120, .inl u.1.1)), ((bd 2), .inl (cI, 120, .inl u.1.2.1)), ((bd 3), .inl (cI, 120, .inl u.1.2.2.1)), ((bd 4), .inl (cI, 120, .inl u.1.2.2.2.1)), ((bd 5), .inl (cI, 5, .inl NU)), ((bd 6), .inl (cI, 120, .inl VA)), ((bd 7), .inl (cI, 120, .inl BE)), ((bd 8), .inl (cI, 128, .inl WA)), ((bd 9), .inl (cI, 30, .inl LE)), ((bd 10), .inl (cI, 30, .inl AA)), ((bd 11), .inl (cI, 30, .inl RI)), ((bd 12), .inl (cI, 10, .inl UN)), ((bd 13), .inl (cZ, 30, .inl CO))] := hD
          refine W.eq (g2 := F0 m 46 ls [.int r]) rfl ?_
          exact W.iret (v := r) hx hb hr (fun t ht hW => ⟨⟨r, u, rfl, hpost, by rw [ht]; exact hP, va_K.moved hW.alike hK, hD⟩, hS.F ht⟩) hS.2.2 d_Mo_join_46
        · exact absurd hz c_32
      · exact absurd (by decide) c_25
    · exact absurd (hp2.symm.trans c_14) (by decide)
