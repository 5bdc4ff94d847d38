set_option maxHeartbeats 4000000 in
set_option maxRecDepth 100000 in
theorem c_Mo_thrown (l : Launch) (dC : Nat → ClassId) (dI : Nat → Nat → Nat) (cI cL cZ : ClassId) (bd : Nat → Nat) (th : Int32) (K F S DD : Nat → Int32) (n : Nat) (NU VA BE WA LE AA RI UN CO : Nat → Int32) (unk cnt : Nat) (hn : n ≤ 120) (hunk : unk ≤ 10) (hcnt : cnt ≤ 30)  : Met l y_Mo_thrown (cw_Mo_thrown :: tb) (rmH 1 0 0) (va_Pc [.ref (bd 0)] (ry_P (dC, dI) classes (wMo cI cZ bd th K F S DD n NU VA BE WA LE AA RI UN CO unk cnt) (tyI cI cL cZ))) (ry_S ry_i (fun r => r = th)) 0 0 (fun _ => False) := by
  refine Met.ofW (cc := b_Mo_thrown) (maxL := 1) (ret := (some .int)) (by decide +kernel) rfl ?_
  intro p e s m args below meth c s₁ B hml0 hv
  have C0 := cx_of B hml0 rfl
  obtain ⟨hx, hb, hr, hml, hown, htb, hlocks⟩ := id C0
  obtain ⟨rfl, hP, hK⟩ := hv
  have hl := lv_entry ([.ref (bd 0)]) (n := 1) (Nat.le_of_ble_eq_true rfl)
  rw [lg_entry_eq]
  generalize (lg_sl ([.ref (bd 0)]) ++ List.replicate (1 - (lg_sl ([.ref (bd 0)])).length) Slot.unset).toArray = ls at hl ⊢
  have hl : lv_has ls 1 [(0, .ref (bd 0))] := hl
  have hP : va_P (dC, dI) classes [((bd 0), .inr (4, [.int th, .ref (bd 1), .ref (bd 2), .ref (bd 3), .ref (bd 4), .int (nI n), .ref (bd 5), .ref (bd 6), .ref (bd 7), .ref (bd 8), .ref (bd 9), .ref (bd 10), .ref (bd 11), .ref (bd 12), .ref (bd 13), .int (nI unk), .int (nI cnt)])), ((bd 1), .inl (cI, 120, .inl K)), ((bd 2), .inl (cI, 120, .inl F)), ((bd 3), .inl (cI, 120, .inl S)), ((bd 4), .inl (cI, 120, .inl DD)), ((bd 5), .inl (cI, 5, .inl NU)), ((bd 6), .inl (cI, 120, .inl VA)), ((bd 7), .inl (cI, 120, .inl BE)), ((bd 8), .inl (cI, 128, .inl WA)), ((bd 9), .inl (cI, 30, .inl LE)), ((bd 10), .inl (cI, 30, .inl AA)), ((bd 11), .inl (cI, 30, .inl RI)), ((bd 12), .inl (cI, 10, .inl UN)), ((bd 13), .inl (cZ, 30, .inl CO))] s.heap := hP
  refine lv_aload_n hx hb d_Mo_thrown_0 rfl (lv_at hl 0 rfl) ?_
  refine va_get (D := (dC, dI)) (ci := 4) (v := .int th) (C := R_Mo) (T := F_Mo) (N := 17) hx hb htb ul_Mo hown hK hP 0 rfl rfl 0 (by decide) (htb _ mw_548) (fun _ h9 => h9) rfl d_Mo_thrown_1 ?_
  exact W.iret (v := th) hx hb hr (fun t ht hW => ⟨th, rfl, rfl, ht⟩) (fun _ h => by cases h) d_Mo_thrown_4

set_option maxHeartbeats 4000000 in
set_option maxRecDepth 100000 in
theorem c_Mo_isLevel (l : Launch) (dC : Nat → ClassId) (dI : Nat → Nat → Nat) (cI cL cZ : ClassId) (bd : Nat → Nat) (th : Int32) (K F S DD : Nat → Int32) (n : Nat) (NU VA BE WA LE AA RI UN CO : Nat → Int32) (unk cnt : Nat) (hn : n ≤ 120) (hunk : unk ≤ 10) (hcnt : cnt ≤ 30) (x : Int32) : Met l y_Mo_isLevel (cw_Mo_isLevel :: tb) (rmH 1 0 0) (va_Pc [.ref (bd 0), .int x] (ry_P (dC, dI) classes (wMo cI cZ bd th K F S DD n NU VA BE WA LE AA RI UN CO unk cnt) (tyI cI cL cZ))) (ry_S ry_i (fun r => r = hs x n)) 0 0 (fun _ => False) := by
  refine Met.ofW (cc := b_Mo_isLevel) (maxL := 2) (ret := (some .boolean)) (by decide +kernel) rfl ?_
  intro p e s m args below meth c s₁ B hml0 hv
  have C0 := cx_of B hml0 rfl
  obtain ⟨hx, hb, hr, hml, hown, htb, hlocks⟩ := id C0
  obtain ⟨rfl, hP, hK⟩ := hv
  have hl := lv_entry ([.ref (bd 0), .int x]) (n := 2) (Nat.le_of_ble_eq_true rfl)
  rw [lg_entry_eq]
  generalize (lg_sl ([.ref (bd 0), .int x]) ++ List.replicate (2 - (lg_sl ([.ref (bd 0), .int x])).length) Slot.unset).toArray = ls at hl ⊢
  have hl : lv_has ls 2 [(0, .ref (bd 0)), (1, .int x)] := hl
  have hP : va_P (dC, dI) classes [((bd 0), .inr (4, [.int th, .ref (bd 1), .ref (bd 2), .ref (bd 3), .ref (bd 4), .int (nI n), .ref (bd 5), .ref (bd 6), .ref (bd 7), .ref (bd 8), .ref (bd 9), .ref (bd 10), .ref (bd 11), .ref (bd 12), .ref (bd 13), .int (nI unk), .int (nI cnt)])), ((bd 1), .inl (cI, 120, .inl K)), ((bd 2), .inl (cI, 120, .inl F)), ((bd 3), .inl (cI, 120, .inl S)), ((bd 4), .inl (cI, 120, .inl DD)), ((bd 5), .inl (cI, 5, .inl NU)), ((bd 6), .inl (cI, 120, .inl VA)), ((bd 7), .inl (cI, 120, .inl BE)), ((bd 8), .inl (cI, 128, .inl WA)), ((bd 9), .inl (cI, 30, .inl LE)), ((bd 10), .inl (cI, 30, .inl AA)), ((bd 11), .inl (cI, 30, .inl RI)), ((bd 12), .inl (cI, 10, .inl UN)), ((bd 13), .inl (cZ, 30, .inl CO))] s.heap := hP
  refine lv_iload_n hx hb d_Mo_isLevel_0 rfl (lv_at hl 1 rfl) ?_
  refine lv_if_lt (tgt := 16) hx hb d_Mo_isLevel_1 (by decide) (fun c_1 => ?_) (fun c_1 => ?_)
  · refine lv_iconst (v := 0) hx hb d_Mo_isLevel_16 (by decide) ?_
    exact W.zret (v := 0) hx hb hr rfl (fun t ht hW => ⟨0, rfl, (by rw [hs, if_pos c_1]), ht⟩) (fun _ h => by cases h) d_Mo_isLevel_17
  · refine lv_iload_n hx hb d_Mo_isLevel_4 rfl (lv_at hl 1 rfl) ?_
    refine lv_aload_n hx hb d_Mo_isLevel_5 rfl (lv_at hl 0 rfl) ?_
    refine va_get (D := (dC, dI)) (ci := 4) (v := .int (nI n)) (C := R_Mo) (T := F_Mo) (N := 17) hx hb htb ul_Mo hown hK hP 0 rfl rfl 5 (by decide) (htb _ mw_553) (fun _ h9 => h9) rfl d_Mo_isLevel_6 ?_
    refine lv_icmp_ge (tgt := 16) hx hb d_Mo_isLevel_9 (by decide) (fun c_9 => ?_) (fun c_9 => ?_)
    · refine lv_iconst (v := 0) hx hb d_Mo_isLevel_16 (by decide) ?_
      exact W.zret (v := 0) hx hb hr rfl (fun t ht hW => ⟨0, rfl, (by rw [hs, if_neg c_1, if_pos c_9]), ht⟩) (fun _ h => by cases h) d_Mo_isLevel_17
    · refine lv_iconst (v := 1) hx hb d_Mo_isLevel_12 (by decide) ?_
      refine lv_goto (tgt := 17) hx hb d_Mo_isLevel_13 (by decide) ?_
      exact W.zret (v := 1) hx hb hr rfl (fun t ht hW => ⟨1, rfl, (by rw [hs, if_neg c_1, if_neg c_9]), ht⟩) (fun _ h => by cases h) d_Mo_isLevel_17

set_option maxHeartbeats 4000000 in
set_option maxRecDepth 100000 in
theorem c_Mo_isSide (l : Launch) (dC : Nat → ClassId) (dI : Nat → Nat → Nat) (cI cL cZ : ClassId) (bd : Nat → Nat) (th : Int32) (K F S DD : Nat → Int32) (n : Nat) (NU VA BE WA LE AA RI UN CO : Nat → Int32) (unk cnt : Nat) (hn : n ≤ 120) (hunk : unk ≤ 10) (hcnt : cnt ≤ 30) (x : Int32) : Met l y_Mo_isSide (cw_Mo_isSide :: tb) (rmH 1 0 0) (va_Pc [.ref (bd 0), .int x] (ry_P (dC, dI) classes (wMo cI cZ bd th K F S DD n NU VA BE WA LE AA RI UN CO unk cnt) (tyI cI cL cZ))) (ry_S ry_i (fun r => r = sdm x unk)) 0 0 (fun _ => False) := by
  refine Met.ofW (cc := b_Mo_isSide) (maxL := 2) (ret := (some .boolean)) (by decide +kernel) rfl ?_
  intro p e s m args below meth c s₁ B hml0 hv
  have C0 := cx_of B hml0 rfl
  obtain ⟨hx, hb, hr, hml, hown, htb, hlocks⟩ := id C0
  obtain ⟨rfl, hP, hK⟩ := hv
  have hl := lv_entry ([.ref (bd 0), .int x]) (n := 2) (Nat.le_of_ble_eq_true rfl)
  rw [lg_entry_eq]
  generalize (lg_sl ([.ref (bd 0), .int x]) ++ List.replicate (2 - (lg_sl ([.ref (bd 0), .int x])).length) Slot.unset).toArray = ls at hl ⊢
  have hl : lv_has ls 2 [(0, .ref (bd 0)), (1, .int x)] := hl
  have hP : va_P (dC, dI) classes [((bd 0), .inr (4, [.int th, .ref (bd 1), .ref (bd 2), .ref (bd 3), .ref (bd 4), .int (nI n), .ref (bd 5), .ref (bd 6), .ref (bd 7), .ref (bd 8), .ref (bd 9), .ref (bd 10), .ref (bd 11), .ref (bd 12), .ref (bd 13), .int (nI unk), .int (nI cnt)])), ((bd 1), .inl (cI, 120, .inl K)), ((bd 2), .inl (cI, 120, .inl F)), ((bd 3), .inl (cI, 120, .inl S)), ((bd 4), .inl (cI, 120, .inl DD)), ((bd 5), .inl (cI, 5, .inl NU)), ((bd 6), .inl (cI, 120, .inl VA)), ((bd 7), .inl (cI, 120, .inl BE)), ((bd 8), .inl (cI, 128, .inl WA)), ((bd 9), .inl (cI, 30, .inl LE)), ((bd 10), .inl (cI, 30, .inl AA)), ((bd 11), .inl (cI, 30, .inl RI)), ((bd 12), .inl (cI, 10, .inl UN)), ((bd 13), .inl (cZ, 30, .inl CO))] s.heap := hP
  refine lv_iload_n hx hb d_Mo_isSide_0 rfl (lv_at hl 1 rfl) ?_
  refine lv_iconst (v := (-1)) hx hb d_Mo_isSide_1 (by decide) ?_
  refine lv_icmp_lt (tgt := 17) hx hb d_Mo_isSide_2 (by decide) (fun c_2 => ?_) (fun c_2 => ?_)
  · refine lv_iconst (v := 0) hx hb d_Mo_isSide_17 (by decide) ?_
    exact W.zret (v := 0) hx hb hr rfl (fun t ht hW => ⟨0, rfl, (by rw [sdm, if_pos c_2]), ht⟩) (fun _ h => by cases h) d_Mo_isSide_18
  · refine lv_iload_n hx hb d_Mo_isSide_5 rfl (lv_at hl 1 rfl) ?_
    refine lv_aload_n hx hb d_Mo_isSide_6 rfl (lv_at hl 0 rfl) ?_
    refine va_get (D := (dC, dI)) (ci := 4) (v := .int (nI unk)) (C := R_Mo) (T := F_Mo) (N := 17) hx hb htb ul_Mo hown hK hP 0 rfl rfl 15 (by decide) (htb _ mw_563) (fun _ h9 => h9) rfl d_Mo_isSide_7 ?_
    refine lv_icmp_ge (tgt := 17) hx hb d_Mo_isSide_10 (by decide) (fun c_10 => ?_) (fun c_10 => ?_)
    · refine lv_iconst (v := 0) hx hb d_Mo_isSide_17 (by decide) ?_
      exact W.zret (v := 0) hx hb hr rfl (fun t ht hW => ⟨0, rfl, (by rw [sdm, if_neg c_2, if_pos c_10]), ht⟩) (fun _ h => by cases h) d_Mo_isSide_18
    · refine lv_iconst (v := 1) hx hb d_Mo_isSide_13 (by decide) ?_
      refine lv_goto (tgt := 18) hx hb d_Mo_isSide_14 (by decide) ?_
      exact W.zret (v := 1) hx hb hr rfl (fun t ht hW => ⟨1, rfl, (by rw [sdm, if_neg c_2, if_neg c_10]), ht⟩) (fun _ h => by cases h) d_Mo_isSide_18

set_option maxHeartbeats 4000000 in
set_option maxRecDepth 100000 in
theorem c_Mo_refuses (l : Launch) (dC : Nat → ClassId) (dI : Nat → Nat → Nat) (cI cL cZ : ClassId) (bd : Nat → Nat) (th : Int32) (K F S DD : Nat → Int32) (n : Nat) (NU VA BE WA LE AA RI UN CO : Nat → Int32) (unk cnt : Nat) (hn : n ≤ 120) (hunk : unk ≤ 10) (hcnt : cnt ≤ 30) (x : Int32) (sz : Nat) : Met l y_Mo_refuses (cw_Mo_refuses :: tb) (rmH 1 0 0) (va_Pc [.ref (bd 0), .int x] (wy_P (dC, dI) classes (wMo cI cZ bd th K F S DD n NU VA BE WA LE AA RI UN CO unk cnt) (tyI cI cL cZ) sz)) (wy_Q ry_i (fun r (u : Unit) => r = if x ≤ 0 then 0 else 1) (wy_B (dC, dI) classes (tyI cI cL cZ) (va_A (wMo cI cZ bd th K F S DD n NU VA BE WA LE AA RI UN CO unk cnt) sz) (fun u : Unit => (wMo cI cZ bd x K F S DD n NU VA BE WA LE AA RI UN CO unk cnt))) (va_A (wMo cI cZ bd th K F S DD n NU VA BE WA LE AA RI UN CO unk cnt) sz)) 0 0 (va_A (wMo cI cZ bd th K F S DD n NU VA BE WA LE AA RI UN CO unk cnt) sz) := by
  refine Met.ofW (cc := b_Mo_refuses) (maxL := 2) (ret := (some .boolean)) (by decide +kernel) rfl ?_
  intro p e s m args below meth c s₁ B hml0 hv
  have C0 := cx_of B hml0 rfl
  obtain ⟨hx, hb, hr, hml, hown, htb, hlocks⟩ := id C0
  obtain ⟨rfl, hsz, hP, hK, hD0⟩ := hv
  subst hsz
  have hD := hD0.self (sz := s.heap.size)
  generalize hAe : va_A (wMo cI cZ bd th K F S DD n NU VA BE WA LE AA RI UN CO unk cnt) s.heap.size = A at hD ⊢
  have hA : ∀ q : Nat, s.heap.size ≤ q → A q := fun q h => by rw [← hAe]; exact Or.inr h
  have hS : va_S A s.heap s.heap [] := va_S.rf
  have hl := lv_entry ([.ref (bd 0), .int x]) (n := 2) (Nat.le_of_ble_eq_true rfl)
  rw [lg_entry_eq]
  generalize (lg_sl ([.ref (bd 0), .int x]) ++ List.replicate (2 - (lg_sl ([.ref (bd 0), .int x])).length) Slot.unset).toArray = ls at hl ⊢
  have hl : lv_has ls 2 [(0, .ref (bd 0)), (1, .int x)] := hl
  have hP : va_P (dC, dI) classes [((bd 0), .inr (4, [.int th, .ref (bd 1), .ref (bd 2), .ref (bd 3), .ref (bd 4), .int (nI n), .ref (bd 5), .ref (bd 6), .ref (bd 7), .ref (bd 8), .ref (bd 9), .ref (bd 10), .ref (bd 11), .ref (bd 12), .ref (bd 13), .int (nI unk), .int (nI cnt)])), ((bd 1), .inl (cI, 120, .inl K)), ((bd 2), .inl (cI, 120, .inl F)), ((bd 3), .inl (cI, 120, .inl S)), ((bd 4), .inl (cI, 120, .inl DD)), ((bd 5), .inl (cI, 5, .inl NU)), ((bd 6), .inl (cI, 120, .inl VA)), ((bd 7), .inl (cI, 120, .inl BE)), ((bd 8), .inl (cI, 128, .inl WA)), ((bd 9), .inl (cI, 30, .inl LE)), ((bd 10), .inl (cI, 30, .inl AA)), ((bd 11), .inl (cI, 30, .inl RI)), ((bd 12), .inl (cI, 10, .inl UN)), ((bd 13), .inl (cZ, 30, .inl CO))] s.heap := hP
  have hD : va_D A [((bd 0), .inr (4, [.int th, .ref (bd 1), .ref (bd 2), .ref (bd 3), .ref (bd 4), .int (nI n), .ref (bd 5), .ref (bd 6), .ref (bd 7), .ref (bd 8), .ref (bd 9), .ref (bd 10), .ref (bd 11), .ref (bd 12), .ref (bd 13), .int (nI unk), .int (nI cnt)])), ((bd 1), .inl (cI, 120, .inl K)), ((bd 2), .inl (cI, 120, .inl F)), ((bd 3), .inl (cI, 120, .inl S)), ((bd 4), .inl (cI, 120, .inl DD)), ((bd 5), .inl (cI, 5, .inl NU)), ((bd 6), .inl (cI, 120, .inl VA)), ((bd 7), .inl (cI, 120, .inl BE)), ((bd 8), .inl (cI, 128, .inl WA)), ((bd 9), .inl (cI, 30, .inl LE)), ((bd 10), .inl (cI, 30, .inl AA)), ((bd 11), .inl (cI, 30, .inl RI)), ((bd 12), .inl (cI, 10, .inl UN)), ((bd 13), .inl (cZ, 30, .inl CO))] := hD
  have hA0 := hA
  refine lv_aload_n hx hb d_Mo_refuses_0 rfl (lv_at hl 0 rfl) ?_
  refine lv_iload_n hx hb d_Mo_refuses_1 rfl (lv_at hl 1 rfl) ?_
  refine va_put (D := (dC, dI)) (ci := 4) (v := .int x) (ty := .int) (C := R_Mo) (T := F_Mo) (N := 17) hx hb htb ul_Mo t_Mo t_Mo_ok n_Mo hown hK hP hD hS 0 rfl rfl 0 (by decide) (htb _ mw_548) (fun _ h9 => h9) rfl (by decide +kernel) rfl rfl (Nat.le_of_ble_eq_true rfl) d_Mo_refuses_2 (fun H locs hP hD hS => ?_)
  have hP : va_P (dC, dI) classes [((bd 0), .inr (4, [.int x, .ref (bd 1), .ref (bd 2), .ref (bd 3), .ref (bd 4), .int (nI n), .ref (bd 5), .ref (bd 6), .ref (bd 7), .ref (bd 8), .ref (bd 9), .ref (bd 10), .ref (bd 11), .ref (bd 12), .ref (bd 13), .int (nI unk), .int (nI cnt)])), ((bd 1), .inl (cI, 120, .inl K)), ((bd 2), .inl (cI, 120, .inl F)), ((bd 3), .inl (cI, 120, .inl S)), ((bd 4), .inl (cI, 120, .inl DD)), ((bd 5), .inl (cI, 5, .inl NU)), ((bd 6), .inl (cI, 120, .inl VA)), ((bd 7), .inl (cI, 120, .inl BE)), ((bd 8), .inl (cI, 128, .inl WA)), ((bd 9), .inl (cI, 30, .inl LE)), ((bd 10), .inl (cI, 30, .inl AA)), ((bd 11), .inl (cI, 30, .inl RI)), ((bd 12), .inl (cI, 10, .inl UN)), ((bd 13), .inl (cZ, 30, .inl CO))] H := hP
  have hD : va_D A [((bd 0), .inr (4, [.int x, .ref (bd 1), .ref (bd 2), .ref (bd 3), .ref (bd 4), .int (nI n), .ref (bd 5), .ref (bd 6), .ref (bd 7), .ref (bd 8), .ref (bd 9), .ref (bd 10), .ref (bd 11), .ref (bd 12), .ref (bd 13), .int (nI unk), .int (nI cnt)])), ((bd 1), .inl (cI, 120, .inl K)), ((bd 2), .inl (cI, 120, .inl F)), ((bd 3), .inl (cI, 120, .inl S)), ((bd 4), .inl (cI, 120, .inl DD)), ((bd 5), .inl (cI, 5, .inl NU)), ((bd 6), .inl (cI, 120, .inl VA)), ((bd 7), .inl (cI, 120, .inl BE)), ((bd 8), .inl (cI, 128, .inl WA)), ((bd 9), .inl (cI, 30, .inl LE)), ((bd 10), .inl (cI, 30, .inl AA)), ((bd 11), .inl (cI, 30, .inl RI)), ((bd 12), .inl (cI, 10, .inl UN)), ((bd 13), .inl (cZ, 30, .inl CO))] := hD
  refine lv_iload_n hx hb d_Mo_refuses_5 rfl (lv_at hl 1 rfl) ?_
  refine lv_if_le (tgt := 13) hx hb d_Mo_refuses_6 (by decide) (fun c_6 => ?_) (fun c_6 => ?_)
  · refine lv_iconst (v := 0) hx hb d_Mo_refuses_13 (by decide) ?_
    exact W.zret (v := 0) hx hb hr rfl (fun t ht hW => ⟨⟨0, (), rfl, (by rw [if_pos c_6]), by rw [ht]; exact hP, va_K.moved hW.alike hK, hD⟩, hS.F ht⟩) hS.2.2 d_Mo_refuses_14
  · refine lv_iconst (v := 1) hx hb d_Mo_refuses_9 (by decide) ?_
    refine lv_goto (tgt := 14) hx hb d_Mo_refuses_10 (by decide) ?_
    exact W.zret (v := 1) hx hb hr rfl (fun t ht hW => ⟨⟨1, (), rfl, (by rw [if_neg c_6]), by rw [ht]; exact hP, va_K.moved hW.alike hK, hD⟩, hS.F ht⟩) hS.2.2 d_Mo_refuses_14

set_option maxHeartbeats 4000000 in
set_option maxRecDepth 100000 in
theorem lp_Mo_make {p : Program} (l : Launch) {e : Env} {s : State} {m : MethodId} {args : Array Value} {below : List Frame} {meth : Method} {c : Code} {H : Heap} {locs : List Loc} {Q : State → Prop} (C0 : cx p s m args meth c b_Mo_make 5 (some .int) R_Mo) (dC : Nat → ClassId) (dI : Nat → Nat → Nat) (cI cL cZ : ClassId) (bd : Nat → Nat) (th : Int32) (K F S DD : Nat → Int32) (n : Nat) (NU VA BE WA LE AA RI UN CO : Nat → Int32) (unk cnt : Nat) (hn : n ≤ 120) (hunk : unk ≤ 10) (hcnt : cnt ≤ 30) (q : Nat × Nat × Nat) (hK : va_K (dC, dI) classes (tyI cI cL cZ) s) (hP : va_P (dC, dI) classes [((bd 0), .inr (4, [.int th, .ref (bd 1), .ref (bd 2), .ref (bd 3), .ref (bd 4), .int (nI n), .ref (bd 5), .ref (bd 6), .ref (bd 7), .ref (bd 8), .ref (bd 9), .ref (bd 10), .ref (bd 11), .ref (bd 12), .ref (bd 13), .int (nI unk), .int (nI cnt)])), ((bd 1), .inl (cI, 120, .inl K)), ((bd 2), .inl (cI, 120, .inl F)), ((bd 3), .inl (cI, 120, .inl S)), ((bd 4), .inl (cI, 120, .inl DD)), ((bd 5), .inl (cI, 5, .inl NU)), ((bd 6), .inl (cI, 120, .inl VA)), ((bd 7), .inl (cI, 120, .inl BE)), ((bd 8), .inl (cI, 128, .inl WA)), ((bd 9), .inl (cI, 30, .inl LE)), ((bd 10), .inl (cI, 30, .inl AA)), ((bd 11), .inl (cI, 30, .inl RI)), ((bd 12), .inl (cI, 10, .inl UN)), ((bd 13), .inl (cZ, 30, .inl CO))] H) (R : Int32)
    (KA : ∀ (i : Nat) (ls : Array Slot), i < n → R = nI i → lv_has ls 5 [(0, .ref (bd 0)), (1, .int (nI q.1)), (2, .int (fF q)), (3, .int (fS q)), (4, .int (nI i))] → W p l e (rmH 2 0 0) s m args below meth c H locs 0 0 Q (F0 m 45 ls [])) (KB : ∀ (i : Nat) (ls : Array Slot), R = -1 → lv_has ls 5 [(0, .ref (bd 0)), (1, .int (nI q.1)), (2, .int (fF q)), (3, .int (fS q)), (4, .int (nI i))] → W p l e (rmH 2 0 0) s m args below meth c H locs 0 0 Q (F0 m 54 ls [])) :
    ∀ (q9 i : Nat), i + q9 = n → R = ff (fun j => decide (K j = nI q.1) && decide (F j = fF q) && decide (S j = fS q)) i q9 → ∀ (ls : Array Slot), lv_has ls 5 [(0, .ref (bd 0)), (1, .int (nI q.1)), (2, .int (fF q)), (3, .int (fS q)), (4, .int (nI i))] → W p l e (rmH 2 0 0) s m args below meth c H locs 0 0 Q (F0 m 3 ls []) := by
  obtain ⟨hx, hb, hr, hml, hown, htb, hlocks⟩ := id C0
  intro q9
  induction q9 with
  | zero =>
    intro i hi hR ls hl
    refine lv_iload hx hb d_Mo_make_3 (lv_at hl 4 rfl) ?_
    refine lv_aload_n hx hb d_Mo_make_5 rfl (lv_at hl 0 rfl) ?_
    refine va_get (D := (dC, dI)) (ci := 4) (v := .int (nI n)) (C := R_Mo) (T := F_Mo) (N := 17) hx hb htb ul_Mo hown hK hP 0 rfl rfl 5 (by decide) (htb _ mw_553) (fun _ h9 => h9) rfl d_Mo_make_6 ?_
    refine lv_icmp_ge (tgt := 54) hx hb d_Mo_make_9 (by decide) (fun c_9 => ?_) (fun c_9 => ?_)
    · exact KB i ls hR (lv_sub hl [0, 1, 2, 3, 4] rfl)
    · exact absurd ((nI_leI (a := n) (b := i) (by omega) (by omega)).mpr (by omega)) c_9
  | succ q9 ih =>
    intro i hi hR ls hl
    refine lv_iload hx hb d_Mo_make_3 (lv_at hl 4 rfl) ?_
    refine lv_aload_n hx hb d_Mo_make_5 rfl (lv_at hl 0 rfl) ?_
    refine va_get (D := (dC, dI)) (ci := 4) (v := .int (nI n)) (C := R_Mo) (T := F_Mo) (N := 17) hx hb htb ul_Mo hown hK hP 0 rfl rfl 5 (by decide) (htb _ mw_553) (fun _ h9 => h9) rfl d_Mo_make_6 ?_
    refine lv_icmp_ge (tgt := 54) hx hb d_Mo_make_9 (by decide) (fun c_9 => ?_) (fun c_9 => ?_)
    · exact absurd ((nI_leI (a := n) (b := i) (by omega) (by omega)).mp c_9) (by omega)
    · refine lv_aload_n hx hb d_Mo_make_12 rfl (lv_at hl 0 rfl) ?_
      refine va_get (D := (dC, dI)) (ci := 4) (v := .ref (bd 1)) (C := R_Mo) (T := F_Mo) (N := 17) hx hb htb ul_Mo hown hK hP 0 rfl rfl 1 (by decide) (htb _ mw_549) (fun _ h9 => h9) rfl d_Mo_make_13 ?_
      refine lv_iload hx hb d_Mo_make_16 (lv_at hl 4 rfl) ?_
      refine ry_iald (D := (dC, dI)) (j := i) hx hb hK hP 1 0 rfl rfl (by omega) (by decide) d_Mo_make_18 ?_
      refine lv_iload_n hx hb d_Mo_make_19 rfl (lv_at hl 1 rfl) ?_
      refine lv_icmp_ne (tgt := 48) hx hb d_Mo_make_20 (by decide) (fun c_20 => ?_) (fun c_20 => ?_)
      · refine lv_iinc (v := (nI (i + 1))) (lv' := [(4, .int (nI (i + 1))), (0, .ref (bd 0)), (1, .int (nI q.1)), (2, .int (fF q)), (3, .int (fS q))]) hx hb d_Mo_make_48 hl (k := 4) rfl (nI_1 _) (by decide) rfl (fun ls hl => ?_)
        refine lv_goto (tgt := 3) hx hb d_Mo_make_51 (by decide) ?_
        exact ih (i + 1) (by omega) (by rw [hR, ff_f (by simp [c_20])]) ls (lv_sub hl [1, 2, 3, 4, 0] rfl)
      · refine lv_aload_n hx hb d_Mo_make_23 rfl (lv_at hl 0 rfl) ?_
        refine va_get (D := (dC, dI)) (ci := 4) (v := .ref (bd 2)) (C := R_Mo) (T := F_Mo) (N := 17) hx hb htb ul_Mo hown hK hP 0 rfl rfl 2 (by decide) (htb _ mw_550) (fun _ h9 => h9) rfl d_Mo_make_24 ?_
        refine lv_iload hx hb d_Mo_make_27 (lv_at hl 4 rfl) ?_
        refine ry_iald (D := (dC, dI)) (j := i) hx hb hK hP 2 0 rfl rfl (by omega) (by decide) d_Mo_make_29 ?_
        refine lv_iload_n hx hb d_Mo_make_30 rfl (lv_at hl 2 rfl) ?_
        refine lv_icmp_ne (tgt := 48) hx hb d_Mo_make_31 (by decide) (fun c_31 => ?_) (fun c_31 => ?_)
        · refine lv_iinc (v := (nI (i + 1))) (lv' := [(4, .int (nI (i + 1))), (0, .ref (bd 0)), (1, .int (nI q.1)), (2, .int (fF q)), (3, .int (fS q))]) hx hb d_Mo_make_48 hl (k := 4) rfl (nI_1 _) (by decide) rfl (fun ls hl => ?_)
          refine lv_goto (tgt := 3) hx hb d_Mo_make_51 (by decide) ?_
          exact ih (i + 1) (by omega) (by rw [hR, ff_f (by simp [c_31])]) ls (lv_sub hl [1, 2, 3, 4, 0] rfl)
        · refine lv_aload_n hx hb d_Mo_make_34 rfl (lv_at hl 0 rfl) ?_
          refine va_get (D := (dC, dI)) (ci := 4) (v := .ref (bd 3)) (C := R_Mo) (T := F_Mo) (N := 17) hx hb htb ul_Mo hown hK hP 0 rfl rfl 3 (by decide) (htb _ mw_551) (fun _ h9 => h9) rfl d_Mo_make_35 ?_
          refine lv_iload hx hb d_Mo_make_38 (lv_at hl 4 rfl) ?_
          refine ry_iald (D := (dC, dI)) (j := i) hx hb hK hP 3 0 rfl rfl (by omega) (by decide) d_Mo_make_40 ?_
          refine lv_iload_n hx hb d_Mo_make_41 rfl (lv_at hl 3 rfl) ?_
          refine lv_icmp_ne (tgt := 48) hx hb d_Mo_make_42 (by decide) (fun c_42 => ?_) (fun c_42 => ?_)
          · refine lv_iinc (v := (nI (i + 1))) (lv' := [(4, .int (nI (i + 1))), (0, .ref (bd 0)), (1, .int (nI q.1)), (2, .int (fF q)), (3, .int (fS q))]) hx hb d_Mo_make_48 hl (k := 4) rfl (nI_1 _) (by decide) rfl (fun ls hl => ?_)
            refine lv_goto (tgt := 3) hx hb d_Mo_make_51 (by decide) ?_
            exact ih (i + 1) (by omega) (by rw [hR, ff_f (by simp [c_42])]) ls (lv_sub hl [1, 2, 3, 4, 0] rfl)
          · exact KA i ls (by omega) (by rw [hR, ff_t (by simp only [c_20, c_31, c_42, decide_true, Bool.and_self])]) (lv_sub hl [0, 1, 2, 3, 4] rfl)

set_option maxHeartbeats 4000000 in
set_option maxRecDepth 100000 in
theorem c_Mo_make (l : Launch) (dC : Nat → ClassId) (dI : Nat → Nat → Nat) (cI cL cZ : ClassId) (bd : Nat → Nat) (th : Int32) (K F S DD : Nat → Int32) (n : Nat) (NU VA BE WA LE AA RI UN CO : Nat → Int32) (unk cnt : Nat) (hn : n ≤ 120) (hunk : unk ≤ 10) (hcnt : cnt ≤ 30) (nd : Nat → Nat × Nat × Nat) (hok : MoOk nd n K F S DD) (q : Nat × Nat × Nat) (hq : rowOk q n) (hdd : ¬ (q.1 = 2 ∧ 60 ≤ dp nd q.2.1)) (sz : Nat) : Met l y_Mo_make (cw_Mo_make :: tb) (rmH 2 0 0) (va_Pc [.ref (bd 0), .int (nI q.1), .int (fF q), .int (fS q)] (wy_P (dC, dI) classes (wMo cI cZ bd th K F S DD n NU VA BE WA LE AA RI UN CO unk cnt) (tyI cI cL cZ) sz)) (wy_Q ry_i (fun r (u : MoS) => ∃ nd', mkm nd n q r nd' u.2.2.2.2 ∧ MoU nd' u) (wy_B (dC, dI) classes (tyI cI cL cZ) (va_A (wMo cI cZ bd th K F S DD n NU VA BE WA LE AA RI UN CO unk cnt) sz) (fun u : MoS => (wMo cI cZ bd th u.1 u.2.1 u.2.2.1 u.2.2.2.1 u.2.2.2.2 NU VA BE WA LE AA RI UN CO unk cnt))) (va_A (wMo cI cZ bd th K F S DD n NU VA BE WA LE AA RI UN CO unk cnt) sz)) 0 0 (va_A (wMo cI cZ bd th K F S DD n NU VA BE WA LE AA RI UN CO unk cnt) sz) := by
  refine Met.ofW (cc := b_Mo_make) (maxL := 5) (ret := (some .int)) (by decide +kernel) rfl ?_
  intro p e s m args below meth c s₁ B hml0 hv
  have C0 := cx_of B hml0 rfl
  obtain ⟨hx, hb, hr, hml, hown, htb, hlocks⟩ := id C0
  obtain ⟨rfl, hsz, hP, hK, hD0⟩ := hv
  subst hsz
  have hD := hD0.self (sz := s.heap.size)
  generalize hAe : va_A (wMo cI cZ bd th K F S DD n NU VA BE WA LE AA RI UN CO unk cnt) s.heap.size = A at hD ⊢
  have hA : ∀ q : Nat, s.heap.size ≤ q → A q := fun q h => by rw [← hAe]; exact Or.inr h
  have hS : va_S A s.heap s.heap [] := va_S.rf
  have hl := lv_entry ([.ref (bd 0), .int (nI q.1), .int (fF q), .int (fS q)]) (n := 5) (Nat.le_of_ble_eq_true rfl)
  rw [lg_entry_eq]
  generalize (lg_sl ([.ref (bd 0), .int (nI q.1), .int (fF q), .int (fS q)]) ++ List.replicate (5 - (lg_sl ([.ref (bd 0), .int (nI q.1), .int (fF q), .int (fS q)])).length) Slot.unset).toArray = ls at hl ⊢
  have hl : lv_has ls 5 [(0, .ref (bd 0)), (1, .int (nI q.1)), (2, .int (fF q)), (3, .int (fS q))] := hl
  have hP : va_P (dC, dI) classes [((bd 0), .inr (4, [.int th, .ref (bd 1), .ref (bd 2), .ref (bd 3), .ref (bd 4), .int (nI n), .ref (bd 5), .ref (bd 6), .ref (bd 7), .ref (bd 8), .ref (bd 9), .ref (bd 10), .ref (bd 11), .ref (bd 12), .ref (bd 13), .int (nI unk), .int (nI cnt)])), ((bd 1), .inl (cI, 120, .inl K)), ((bd 2), .inl (cI, 120, .inl F)), ((bd 3), .inl (cI, 120, .inl S)), ((bd 4), .inl (cI, 120, .inl DD)), ((bd 5), .inl (cI, 5, .inl NU)), ((bd 6), .inl (cI, 120, .inl VA)), ((bd 7), .inl (cI, 120, .inl BE)), ((bd 8), .inl (cI, 128, .inl WA)), ((bd 9), .inl (cI, 30, .inl LE)), ((bd 10), .inl (cI, 30, .inl AA)), ((bd 11), .inl (cI, 30, .inl RI)), ((bd 12), .inl (cI, 10, .inl UN)), ((bd 13), .inl (cZ, 30, .inl CO))] s.heap := hP
  have hD : va_D A [((bd 0), .inr (4, [.int th, .ref (bd 1), .ref (bd 2), .ref (bd 3), .ref (bd 4), .int (nI n), .ref (bd 5), .ref (bd 6), .ref (bd 7), .ref (bd 8), .ref (bd 9), .ref (bd 10), .ref (bd 11), .ref (bd 12), .ref (bd 13), .int (nI unk), .int (nI cnt)])), ((bd 1), .inl (cI, 120, .inl K)), ((bd 2), .inl (cI, 120, .inl F)), ((bd 3), .inl (cI, 120, .inl S)), ((bd 4), .inl (cI, 120, .inl DD)), ((bd 5), .inl (cI, 5, .inl NU)), ((bd 6), .inl (cI, 120, .inl VA)), ((bd 7), .inl (cI, 120, .inl BE)), ((bd 8), .inl (cI, 128, .inl WA)), ((bd 9), .inl (cI, 30, .inl LE)), ((bd 10), .inl (cI, 30, .inl AA)), ((bd 11), .inl (cI, 30, .inl RI)), ((bd 12), .inl (cI, 10, .inl UN)), ((bd 13), .inl (cZ, 30, .inl CO))] := hD
  have hA0 := hA
  refine lv_iconst (v := 0) hx hb d_Mo_make_0 (by decide) ?_
  refine lv_istore (lv' := [(4, .int 0), (0, .ref (bd 0)), (1, .int (nI q.1)), (2, .int (fF q)), (3, .int (fS q))]) hx hb d_Mo_make_1 hl (by decide) rfl (fun ls hl => ?_)
  refine lp_Mo_make l C0 dC dI cI cL cZ bd th K F S DD n NU VA BE WA LE AA RI UN CO unk cnt hn hunk hcnt q hK hP (fnd K F S n q) (fun i ls hi hR hl => ?_) (fun i ls hR hl => ?_) n 0 (by omega) rfl ls (lv_sub hl [1, 2, 3, 4, 0] rfl)
  · obtain ⟨j, h1, h2, h3⟩ := (fnd_cases hok.1 hok.2.1 hq).resolve_left (fun z => nI_m1 (by omega) (hR.symm.trans z.1))
    have eij : i = j := (nI_eq (by omega) (by omega)).mp (hR.symm.trans h3)
    refine lv_iload hx hb d_Mo_make_45 (lv_at hl 4 rfl) ?_
    exact W.iret (v := (nI i)) hx hb hr (fun t ht hW => ⟨⟨(nI i), (K, F, S, DD, n), rfl, ⟨nd, Or.inl (Or.inl ⟨j, h1, h2, by rw [eij], rfl, rfl⟩), hok⟩, by rw [ht]; exact hP, va_K.moved hW.alike hK, hD⟩, hS.F ht⟩) hS.2.2 d_Mo_make_47
  · have hnew : ∀ j, j < n → nd j ≠ q := ((fnd_cases hok.1 hok.2.1 hq).resolve_right (fun ⟨j, h1, _, h3⟩ => nI_m1 (by omega) (h3.symm.trans hR))).2
    refine lv_aload_n hx hb d_Mo_make_54 rfl (lv_at hl 0 rfl) ?_
    refine va_get (D := (dC, dI)) (ci := 4) (v := .int (nI n)) (C := R_Mo) (T := F_Mo) (N := 17) hx hb htb ul_Mo hown hK hP 0 rfl rfl 5 (by decide) (htb _ mw_553) (fun _ h9 => h9) rfl d_Mo_make_55 ?_
    refine lv_bipush (v := 120) hx hb d_Mo_make_58 (by decide) ?_
    refine lv_icmp_ne (tgt := 65) hx hb d_Mo_make_60 (by decide) (fun c_60 => ?_) (fun c_60 => ?_)
    · have hn1 : n < 120 := by have h9 : ¬ n = 120 := (fun z => c_60 (by rw [z]; rfl)); omega
      have hq4 := hq.1
      refine lv_iload_n hx hb d_Mo_make_65 rfl (lv_at hl 1 rfl) ?_
      refine lv_iconst (v := 2) hx hb d_Mo_make_66 (by decide) ?_
      refine lv_icmp_ge (tgt := 74) hx hb d_Mo_make_67 (by decide) (fun c_67 => ?_) (fun c_67 => ?_)
      · refine lv_iload_n hx hb d_Mo_make_74 rfl (lv_at hl 1 rfl) ?_
        refine lv_iconst (v := 2) hx hb d_Mo_make_75 (by decide) ?_
        refine lv_icmp_ne (tgt := 90) hx hb d_Mo_make_76 (by decide) (fun c_76 => ?_) (fun c_76 => ?_)
        · have k3 : 3 ≤ q.1 := by have h8 : ¬ q.1 = 2 := (fun z => c_76 (by rw [z]; rfl)); have h9 := (nI_leI (a := 2) (by decide) (by omega)).mp c_67; omega
          have ha := hq.2.2.1 (by omega)
          have hb1 := hq.2.2.2.1 k3
          have hda := hok.1.2.2.1 _ ha
          have hdb := hok.1.2.2.1 _ hb1
          rw [fF_n (by omega), fS_n k3] at hl
          refine lv_aload_n hx hb d_Mo_make_90 rfl (lv_at hl 0 rfl) ?_
          refine va_get (D := (dC, dI)) (ci := 4) (v := .ref (bd 4)) (C := R_Mo) (T := F_Mo) (N := 17) hx hb htb ul_Mo hown hK hP 0 rfl rfl 4 (by decide) (htb _ mw_552) (fun _ h9 => h9) rfl d_Mo_make_91 ?_
          refine lv_iload_n hx hb d_Mo_make_94 rfl (lv_at hl 2 rfl) ?_
          refine ry_iald (D := (dC, dI)) (j := q.2.1) hx hb hK hP 4 0 rfl rfl (by omega) (by decide) d_Mo_make_95 ?_
          refine lv_aload_n hx hb d_Mo_make_96 rfl (lv_at hl 0 rfl) ?_
          refine va_get (D := (dC, dI)) (ci := 4) (v := .ref (bd 4)) (C := R_Mo) (T := F_Mo) (N := 17) hx hb htb ul_Mo hown hK hP 0 rfl rfl 4 (by decide) (htb _ mw_552) (fun _ h9 => h9) rfl d_Mo_make_97 ?_
          refine lv_iload_n hx hb d_Mo_make_100 rfl (lv_at hl 3 rfl) ?_
          refine ry_iald (D := (dC, dI)) (j := q.2.2) hx hb hK hP 4 0 rfl rfl (by omega) (by decide) d_Mo_make_101 ?_
          refine lv_icmp_le (tgt := 114) hx hb d_Mo_make_102 (by decide) (fun c_102 => ?_) (fun c_102 => ?_)
          · refine lv_aload_n hx hb d_Mo_make_114 rfl (lv_at hl 0 rfl) ?_
            refine va_get (D := (dC, dI)) (ci := 4) (v := .ref (bd 4)) (C := R_Mo) (T := F_Mo) (N := 17) hx hb htb ul_Mo hown hK hP 0 rfl rfl 4 (by decide) (htb _ mw_552) (fun _ h9 => h9) rfl d_Mo_make_115 ?_
            refine lv_iload_n hx hb d_Mo_make_118 rfl (lv_at hl 3 rfl) ?_
            refine ry_iald (D := (dC, dI)) (j := q.2.2) hx hb hK hP 4 0 rfl rfl (by omega) (by decide) d_Mo_make_119 ?_
            rw [show ((DD q.2.2) : Int32) = nI (dp (ext nd n q) n) from by rw [ext_dp hq, dA, if_neg (by omega), if_neg (by omega), if_pos (by omega), if_pos k3, hok.2.2 _ hb1]; rw [Nat.max_eq_right ((nI_leI (by omega) (by omega)).mp (by rw [← hok.2.2 _ ha, ← hok.2.2 _ hb1]; exact c_102))]]
            refine lv_istore (lv' := [(4, .int (nI (dp (ext nd n q) n))), (0, .ref (bd 0)), (1, .int (nI q.1)), (2, .int (nI q.2.1)), (3, .int (nI q.2.2))]) hx hb d_Mo_make_120 hl (by decide) rfl (fun ls hl => ?_)
            rw [← fF_n (q := q) (by omega)] at hl
            rw [← fS_n (q := q) k3] at hl
            refine lv_aload_n hx hb d_Mo_make_122 rfl (lv_at hl 1 rfl) ?_
            refine va_get (D := (dC, dI)) (ci := 4) (v := .ref (bd 1)) (C := R_Mo) (T := F_Mo) (N := 17) hx hb htb ul_Mo hown hK hP 0 rfl rfl 1 (by decide) (htb _ mw_549) (fun _ h9 => h9) rfl d_Mo_make_123 ?_
            refine lv_aload_n hx hb d_Mo_make_126 rfl (lv_at hl 1 rfl) ?_
            refine va_get (D := (dC, dI)) (ci := 4) (v := .int (nI n)) (C := R_Mo) (T := F_Mo) (N := 17) hx hb htb ul_Mo hown hK hP 0 rfl rfl 5 (by decide) (htb _ mw_553) (fun _ h9 => h9) rfl d_Mo_make_127 ?_
            refine lv_iload_n hx hb d_Mo_make_130 rfl (lv_at hl 2 rfl) ?_
            refine ry_iast (D := (dC, dI)) (j := n) hx hb hK hP hD hS 1 0 rfl rfl (by omega) (by decide) d_Mo_make_131 (fun H locs hP hD hS => ?_)
            have hP : va_P (dC, dI) classes [((bd 0), .inr (4, [.int th, .ref (bd 1), .ref (bd 2), .ref (bd 3), .ref (bd 4), .int (nI n), .ref (bd 5), .ref (bd 6), .ref (bd 7), .ref (bd 8), .ref (bd 9), .ref (bd 10), .ref (bd 11), .ref (bd 12), .ref (bd 13), .int (nI unk), .int (nI cnt)])), ((bd 1), .inl (cI, 120, .inl (upd K n (nI q.1)))), ((bd 2), .inl (cI, 120, .inl F)), ((bd 3), .inl (cI, 120, .inl S)), ((bd 4), .inl (cI, 120, .inl DD)), ((bd 5), .inl (cI, 5, .inl NU)), ((bd 6), .inl (cI, 120, .inl VA)), ((bd 7), .inl (cI, 120, .inl BE)), ((bd 8), .inl (cI, 128, .inl WA)), ((bd 9), .inl (cI, 30, .inl LE)), ((bd 10), .inl (cI, 30, .inl AA)), ((bd 11), .inl (cI, 30, .inl RI)), ((bd 12), .inl (cI, 10, .inl UN)), ((bd 13), .inl (cZ, 30, .inl CO))] H := hP
            have hD : va_D A [((bd 0), .inr (4, [.int th, .ref (bd 1), .ref (bd 2), .ref (bd 3), .ref (bd 4), .int (nI n), .ref (bd 5), .ref (bd 6), .ref (bd 7), .ref (bd 8), .ref (bd 9), .ref (bd 10), .ref (bd 11), .ref (bd 12), .ref (bd 13), .int (nI unk), .int (nI cnt)])), ((bd 1), .inl (cI, 120, .inl (upd K n (nI q.1)))), ((bd 2), .inl (cI, 120, .inl F)), ((bd 3), .inl (cI, 120, .inl S)), ((bd 4), .inl (cI, 120, .inl DD)), ((bd 5), .inl (cI, 5, .inl NU)), ((bd 6), .inl (cI, 120, .inl VA)), ((bd 7), .inl (cI, 120, .inl BE)), ((bd 8), .inl (cI, 128, .inl WA)), ((bd 9), .inl (cI, 30, .inl LE)), ((bd 10), .inl (cI, 30, .inl AA)), ((bd 11), .inl (cI, 30, .inl RI)), ((bd 12), .inl (cI, 10, .inl UN)), ((bd 13), .inl (cZ, 30, .inl CO))] := hD
            refine lv_aload_n hx hb d_Mo_make_132 rfl (lv_at hl 1 rfl) ?_
            refine va_get (D := (dC, dI)) (ci := 4) (v := .ref (bd 2)) (C := R_Mo) (T := F_Mo) (N := 17) hx hb htb ul_Mo hown hK hP 0 rfl rfl 2 (by decide) (htb _ mw_550) (fun _ h9 => h9) rfl d_Mo_make_133 ?_
            refine lv_aload_n hx hb d_Mo_make_136 rfl (lv_at hl 1 rfl) ?_
            refine va_get (D := (dC, dI)) (ci := 4) (v := .int (nI n)) (C := R_Mo) (T := F_Mo) (N := 17) hx hb htb ul_Mo hown hK hP 0 rfl rfl 5 (by decide) (htb _ mw_553) (fun _ h9 => h9) rfl d_Mo_make_137 ?_
            refine lv_iload_n hx hb d_Mo_make_140 rfl (lv_at hl 3 rfl) ?_
            refine ry_iast (D := (dC, dI)) (j := n) hx hb hK hP hD hS 2 0 rfl rfl (by omega) (by decide) d_Mo_make_141 (fun H locs hP hD hS => ?_)
            have hP : va_P (dC, dI) classes [((bd 0), .inr (4, [.int th, .ref (bd 1), .ref (bd 2), .ref (bd 3), .ref (bd 4), .int (nI n), .ref (bd 5), .ref (bd 6), .ref (bd 7), .ref (bd 8), .ref (bd 9), .ref (bd 10), .ref (bd 11), .ref (bd 12), .ref (bd 13), .int (nI unk), .int (nI cnt)])), ((bd 1), .inl (cI, 120, .inl (upd K n (nI q.1)))), ((bd 2), .inl (cI, 120, .inl (upd F n (fF q)))), ((bd 3), .inl (cI, 120, .inl S)), ((bd 4), .inl (cI, 120, .inl DD)), ((bd 5), .inl (cI, 5, .inl NU)), ((bd 6), .inl (cI, 120, .inl VA)), ((bd 7), .inl (cI, 120, .inl BE)), ((bd 8), .inl (cI, 128, .inl WA)), ((bd 9), .inl (cI, 30, .inl LE)), ((bd 10), .inl (cI, 30, .inl AA)), ((bd 11), .inl (cI, 30, .inl RI)), ((bd 12), .inl (cI, 10, .inl UN)), ((bd 13), .inl (cZ, 30, .inl CO))] H := hP
            have hD : va_D A [((bd 0), .inr (4, [.int th, .ref (bd 1), .ref (bd 2), .ref (bd 3), .ref (bd 4), .int (nI n), .ref (bd 5), .ref (bd 6), .ref (bd 7), .ref (bd 8), .ref (bd 9), .ref (bd 10), .ref (bd 11), .ref (bd 12), .ref (bd 13), .int (nI unk), .int (nI cnt)])), ((bd 1), .inl (cI, 120, .inl (upd K n (nI q.1)))), ((bd 2), .inl (cI, 120, .inl (upd F n (fF q)))), ((bd 3), .inl (cI, 120, .inl S)), ((bd 4), .inl (cI, 120, .inl DD)), ((bd 5), .inl (cI, 5, .inl NU)), ((bd 6), .inl (cI, 120, .inl VA)), ((bd 7), .inl (cI, 120, .inl BE)), ((bd 8), .inl (cI, 128, .inl WA)), ((bd 9), .inl (cI, 30, .inl LE)), ((bd 10), .inl (cI, 30, .inl AA)), ((bd 11), .inl (cI, 30, .inl RI)), ((bd 12), .inl (cI, 10, .inl UN)), ((bd 13), .inl (cZ, 30, .inl CO))] := hD
            refine lv_aload_n hx hb d_Mo_make_142 rfl (lv_at hl 1 rfl) ?_
            refine va_get (D := (dC, dI)) (ci := 4) (v := .ref (bd 3)) (C := R_Mo) (T := F_Mo) (N := 17) hx hb htb ul_Mo hown hK hP 0 rfl rfl 3 (by decide) (htb _ mw_551) (fun _ h9 => h9) rfl d_Mo_make_143 ?_
            refine lv_aload_n hx hb d_Mo_make_146 rfl (lv_at hl 1 rfl) ?_
            refine va_get (D := (dC, dI)) (ci := 4) (v := .int (nI n)) (C := R_Mo) (T := F_Mo) (N := 17) hx hb htb ul_Mo hown hK hP 0 rfl rfl 5 (by decide) (htb _ mw_553) (fun _ h9 => h9) rfl d_Mo_make_147 ?_
            refine lv_iload_n hx hb d_Mo_make_150 rfl (lv_at hl 4 rfl) ?_
            refine ry_iast (D := (dC, dI)) (j := n) hx hb hK hP hD hS 3 0 rfl rfl (by omega) (by decide) d_Mo_make_151 (fun H locs hP hD hS => ?_)
            have hP : va_P (dC, dI) classes [((bd 0), .inr (4, [.int th, .ref (bd 1), .ref (bd 2), .ref (bd 3), .ref (bd 4), .int (nI n), .ref (bd 5), .ref (bd 6), .ref (bd 7), .ref (bd 8), .ref (bd 9), .ref (bd 10), .ref (bd 11), .ref (bd 12), .ref (bd 13), .int (nI unk), .int (nI cnt)])), ((bd 1), .inl (cI, 120, .inl (upd K n (nI q.1)))), ((bd 2), .inl (cI, 120, .inl (upd F n (fF q)))), ((bd 3), .inl (cI, 120, .inl (upd S n (fS q)))), ((bd 4), .inl (cI, 120, .inl DD)), ((bd 5), .inl (cI, 5, .inl NU)), ((bd 6), .inl (cI, 120, .inl VA)), ((bd 7), .inl (cI, 120, .inl BE)), ((bd 8), .inl (cI, 128, .inl WA)), ((bd 9), .inl (cI, 30, .inl LE)), ((bd 10), .inl (cI, 30, .inl AA)), ((bd 11), .inl (cI, 30, .inl RI)), ((bd 12), .inl (cI, 10, .inl UN)), ((bd 13), .inl (cZ, 30, .inl CO))] H := hP
            have hD : va_D A [((bd 0), .inr (4, [.int th, .ref (bd 1), .ref (bd 2), .ref (bd 3), .ref (bd 4), .int (nI n), .ref (bd 5), .ref (bd 6), .ref (bd 7), .ref (bd 8), .ref (bd 9), .ref (bd 10), .ref (bd 11), .ref (bd 12), .ref (bd 13), .int (nI unk), .int (nI cnt)])), ((bd 1), .inl (cI, 120, .inl (upd K n (nI q.1)))), ((bd 2), .inl (cI, 120, .inl (upd F n (fF q)))), ((bd 3), .inl (cI, 120, .inl (upd S n (fS q)))), ((bd 4), .inl (cI, 120, .inl DD)), ((bd 5), .inl (cI, 5, .inl NU)), ((bd 6), .inl (cI, 120, .inl VA)), ((bd 7), .inl (cI, 120, .inl BE)), ((bd 8), .inl (cI, 128, .inl WA)), ((bd 9), .inl (cI, 30, .inl LE)), ((bd 10), .inl (cI, 30, .inl AA)), ((bd 11), .inl (cI, 30, .inl RI)), ((bd 12), .inl (cI, 10, .inl UN)), ((bd 13), .inl (cZ, 30, .inl CO))] := hD
            refine lv_aload_n hx hb d_Mo_make_152 rfl (lv_at hl 1 rfl) ?_
            refine va_get (D := (dC, dI)) (ci := 4) (v := .ref (bd 4)) (C := R_Mo) (T := F_Mo) (N := 17) hx hb htb ul_Mo hown hK hP 0 rfl rfl 4 (by decide) (htb _ mw_552) (fun _ h9 => h9) rfl d_Mo_make_153 ?_
            refine lv_aload_n hx hb d_Mo_make_156 rfl (lv_at hl 1 rfl) ?_
            refine va_get (D := (dC, dI)) (ci := 4) (v := .int (nI n)) (C := R_Mo) (T := F_Mo) (N := 17) hx hb htb ul_Mo hown hK hP 0 rfl rfl 5 (by decide) (htb _ mw_553) (fun _ h9 => h9) rfl d_Mo_make_157 ?_
            refine lv_iload hx hb d_Mo_make_160 (lv_at hl 0 rfl) ?_
            refine ry_iast (D := (dC, dI)) (j := n) hx hb hK hP hD hS 4 0 rfl rfl (by omega) (by decide) d_Mo_make_162 (fun H locs hP hD hS => ?_)
            have hP : va_P (dC, dI) classes [((bd 0), .inr (4, [.int th, .ref (bd 1), .ref (bd 2), .ref (bd 3), .ref (bd 4), .int (nI n), .ref (bd 5), .ref (bd 6), .ref (bd 7), .ref (bd 8), .ref (bd 9), .ref (bd 10), .ref (bd 11), .ref (bd 12), .ref (bd 13), .int (nI unk), .int (nI cnt)])), ((bd 1), .inl (cI, 120, .inl (upd K n (nI q.1)))), ((bd 2), .inl (cI, 120, .inl (upd F n (fF q)))), ((bd 3), .inl (cI, 120, .inl (upd S n (fS q)))), ((bd 4), .inl (cI, 120, .inl (upd DD n ((nI (dp (ext nd n q) n)))))), ((bd 5), .inl (cI, 5, .inl NU)), ((bd 6), .inl (cI, 120, .inl VA)), ((bd 7), .inl (cI, 120, .inl BE)), ((bd 8), .inl (cI, 128, .inl WA)), ((bd 9), .inl (cI, 30, .inl LE)), ((bd 10), .inl (cI, 30, .inl AA)), ((bd 11), .inl (cI, 30, .inl RI)), ((bd 12), .inl (cI, 10, .inl UN)), ((bd 13), .inl (cZ, 30, .inl CO))] H := hP
            have hD : va_D A [((bd 0), .inr (4, [.int th, .ref (bd 1), .ref (bd 2), .ref (bd 3), .ref (bd 4), .int (nI n), .ref (bd 5), .ref (bd 6), .ref (bd 7), .ref (bd 8), .ref (bd 9), .ref (bd 10), .ref (bd 11), .ref (bd 12), .ref (bd 13), .int (nI unk), .int (nI cnt)])), ((bd 1), .inl (cI, 120, .inl (upd K n (nI q.1)))), ((bd 2), .inl (cI, 120, .inl (upd F n (fF q)))), ((bd 3), .inl (cI, 120, .inl (upd S n (fS q)))), ((bd 4), .inl (cI, 120, .inl (upd DD n ((nI (dp (ext nd n q) n)))))), ((bd 5), .inl (cI, 5, .inl NU)), ((bd 6), .inl (cI, 120, .inl VA)), ((bd 7), .inl (cI, 120, .inl BE)), ((bd 8), .inl (cI, 128, .inl WA)), ((bd 9), .inl (cI, 30, .inl LE)), ((bd 10), .inl (cI, 30, .inl AA)), ((bd 11), .inl (cI, 30, .inl RI)), ((bd 12), .inl (cI, 10, .inl UN)), ((bd 13), .inl (cZ, 30, .inl CO))] := hD
            refine lv_aload_n hx hb d_Mo_make_163 rfl (lv_at hl 1 rfl) ?_
            refine lv_dup hx hb d_Mo_make_164 rfl ?_
            refine va_get (D := (dC, dI)) (ci := 4) (v := .int (nI n)) (C := R_Mo) (T := F_Mo) (N := 17) hx hb htb ul_Mo hown hK hP 0 rfl rfl 5 (by decide) (htb _ mw_553) (fun _ h9 => h9) rfl d_Mo_make_165 ?_
            refine lv_iconst (v := 1) hx hb d_Mo_make_168 (by decide) ?_
            refine lv_iadd hx hb d_Mo_make_169 ?_
            rw [nI_1]
            refine va_put (D := (dC, dI)) (ci := 4) (v := .int (nI (n + 1))) (ty := .int) (C := R_Mo) (T := F_Mo) (N := 17) hx hb htb ul_Mo t_Mo t_Mo_ok n_Mo hown hK hP hD hS 0 rfl rfl 5 (by decide) (htb _ mw_553) (fun _ h9 => h9) rfl (by decide +kernel) rfl rfl (Nat.le_of_ble_eq_true rfl) d_Mo_make_170 (fun H locs hP hD hS => ?_)
            have hP : va_P (dC, dI) classes [((bd 0), .inr (4, [.int th, .ref (bd 1), .ref (bd 2), .ref (bd 3), .ref (bd 4), .int (nI (n + 1)), .ref (bd 5), .ref (bd 6), .ref (bd 7), .ref (bd 8), .ref (bd 9), .ref (bd 10), .ref (bd 11), .ref (bd 12), .ref (bd 13), .int (nI unk), .int (nI cnt)])), ((bd 1), .inl (cI, 120, .inl (upd K n (nI q.1)))), ((bd 2), .inl (cI, 120, .inl (upd F n (fF q)))), ((bd 3), .inl (cI, 120, .inl (upd S n (fS q)))), ((bd 4), .inl (cI, 120, .inl (upd DD n ((nI (dp (ext nd n q) n)))))), ((bd 5), .inl (cI, 5, .inl NU)), ((bd 6), .inl (cI, 120, .inl VA)), ((bd 7), .inl (cI, 120, .inl BE)), ((bd 8), .inl (cI, 128, .inl WA)), ((bd 9), .inl (cI, 30, .inl LE)), ((bd 10), .inl (cI, 30, .inl AA)), ((bd 11), .inl (cI, 30, .inl RI)), ((bd 12), .inl (cI, 10, .inl UN)), ((bd 13), .inl (cZ, 30, .inl CO))] H := hP
            have hD : va_D A [((bd 0), .inr (4, [.int th, .ref (bd 1), .ref (bd 2), .ref (bd 3), .ref (bd 4), .int (nI (n + 1)), .ref (bd 5), .ref (bd 6), .ref (bd 7), .ref (bd 8), .ref (bd 9), .ref (bd 10), .ref (bd 11), .ref (bd 12), .ref (bd 13), .int (nI unk), .int (nI cnt)])), ((bd 1), .inl (cI, 120, .inl (upd K n (nI q.1)))), ((bd 2), .inl (cI, 120, .inl (upd F n (fF q)))), ((bd 3), .inl (cI, 120, .inl (upd S n (fS q)))), ((bd 4), .inl (cI, 120, .inl (upd DD n ((nI (dp (ext nd n q) n)))))), ((bd 5), .inl (cI, 5, .inl NU)), ((bd 6), .inl (cI, 120, .inl VA)), ((bd 7), .inl (cI, 120, .inl BE)), ((bd 8), .inl (cI, 128, .inl WA)), ((bd 9), .inl (cI, 30, .inl LE)), ((bd 10), .inl (cI, 30, .inl AA)), ((bd 11), .inl (cI, 30, .inl RI)), ((bd 12), .inl (cI, 10, .inl UN)), ((bd 13), .inl (cZ, 30, .inl CO))] := hD
            refine lv_aload_n hx hb d_Mo_make_173 rfl (lv_at hl 1 rfl) ?_
            refine va_get (D := (dC, dI)) (ci := 4) (v := .int (nI (n + 1))) (C := R_Mo) (T := F_Mo) (N := 17) hx hb htb ul_Mo hown hK hP 0 rfl rfl 5 (by decide) (htb _ mw_553) (fun _ h9 => h9) rfl d_Mo_make_174 ?_
            refine lv_iconst (v := 1) hx hb d_Mo_make_177 (by decide) ?_
            refine lv_isub hx hb d_Mo_make_178 ?_
            rw [nI_pred]
            exact W.iret (v := (nI n)) hx hb hr (fun t ht hW => ⟨⟨(nI n), ((upd K n (nI q.1)), (upd F n (fF q)), (upd S n (fS q)), (upd DD n (nI (dp (ext nd n q) n))), n + 1), rfl, ⟨ext nd n q, Or.inl (Or.inr ⟨hnew, hn1, hdd, rfl, rfl, rfl⟩), ext_mo hok hq hn1 hnew hdd⟩, by rw [ht]; exact hP, va_K.moved hW.alike hK, hD⟩, hS.F ht⟩) hS.2.2 d_Mo_make_179
          · refine lv_aload_n hx hb d_Mo_make_105 rfl (lv_at hl 0 rfl) ?_
            refine va_get (D := (dC, dI)) (ci := 4) (v := .ref (bd 4)) (C := R_Mo) (T := F_Mo) (N := 17) hx hb htb ul_Mo hown hK hP 0 rfl rfl 4 (by decide) (htb _ mw_552) (fun _ h9 => h9) rfl d_Mo_make_106 ?_
            refine lv_iload_n hx hb d_Mo_make_109 rfl (lv_at hl 2 rfl) ?_
            refine ry_iald (D := (dC, dI)) (j := q.2.1) hx hb hK hP 4 0 rfl rfl (by omega) (by decide) d_Mo_make_110 ?_
            refine lv_goto (tgt := 120) hx hb d_Mo_make_111 (by decide) ?_
            rw [show ((DD q.2.1) : Int32) = nI (dp (ext nd n q) n) from by rw [ext_dp hq, dA, if_neg (by omega), if_neg (by omega), if_pos (by omega), if_pos k3, hok.2.2 _ ha]; rw [Nat.max_eq_left (Nat.le_of_not_le fun z => c_102 (by rw [hok.2.2 _ ha, hok.2.2 _ hb1]; exact (nI_leI (by omega) (by omega)).mpr z))]]
            refine lv_istore (lv' := [(4, .int (nI (dp (ext nd n q) n))), (0, .ref (bd 0)), (1, .int (nI q.1)), (2, .int (nI q.2.1)), (3, .int (nI q.2.2))]) hx hb d_Mo_make_120 hl (by decide) rfl (fun ls hl => ?_)
            rw [← fF_n (q := q) (by omega)] at hl
            rw [← fS_n (q := q) k3] at hl
            refine lv_aload_n hx hb d_Mo_make_122 rfl (lv_at hl 1 rfl) ?_
            refine va_get (D := (dC, dI)) (ci := 4) (v := .ref (bd 1)) (C := R_Mo) (T := F_Mo) (N := 17) hx hb htb ul_Mo hown hK hP 0 rfl rfl 1 (by decide) (htb _ mw_549) (fun _ h9 => h9) rfl d_Mo_make_123 ?_
            refine lv_aload_n hx hb d_Mo_make_126 rfl (lv_at hl 1 rfl) ?_
            refine va_get (D := (dC, dI)) (ci := 4) (v := .int (nI n)) (C := R_Mo) (T := F_Mo) (N := 17) hx hb htb ul_Mo hown hK hP 0 rfl rfl 5 (by decide) (htb _ mw_553) (fun _ h9 => h9) rfl d_Mo_make_127 ?_
            refine lv_iload_n hx hb d_Mo_make_130 rfl (lv_at hl 2 rfl) ?_
            refine ry_iast (D := (dC, dI)) (j := n) hx hb hK hP hD hS 1 0 rfl rfl (by omega) (by decide) d_Mo_make_131 (fun H locs hP hD hS => ?_)
            have hP : va_P (dC, dI) classes [((bd 0), .inr (4, [.int th, .ref (bd 1), .ref (bd 2), .ref (bd 3), .ref (bd 4), .int (nI n), .ref (bd 5), .ref (bd 6), .ref (bd 7), .ref (bd 8), .ref (bd 9), .ref (bd 10), .ref (bd 11), .ref (bd 12), .ref (bd 13), .int (nI unk), .int (nI cnt)])), ((bd 1), .inl (cI, 120, .inl (upd K n (nI q.1)))), ((bd 2), .inl (cI, 120, .inl F)), ((bd 3), .inl (cI, 120, .inl S)), ((bd 4), .inl (cI, 120, .inl DD)), ((bd 5), .inl (cI, 5, .inl NU)), ((bd 6), .inl (cI, 120, .inl VA)), ((bd 7), .inl (cI, 120, .inl BE)), ((bd 8), .inl (cI, 128, .inl WA)), ((bd 9), .inl (cI, 30, .inl LE)), ((bd 10), .inl (cI, 30, .inl AA)), ((bd 11), .inl (cI, 30, .inl RI)), ((bd 12), .inl (cI, 10, .inl UN)), ((bd 13), .inl (cZ, 30, .inl CO))] H := hP
            have hD : va_D A [((bd 0), .inr (4, [.int th, .ref (bd 1), .ref (bd 2), .ref (bd 3), .ref (bd 4), .int (nI n), .ref (bd 5), .ref (bd 6), .ref (bd 7), .ref (bd 8), .ref (bd 9), .ref (bd 10), .ref (bd 11), .ref (bd 12), .ref (bd 13), .int (nI unk), .int (nI cnt)])), ((bd 1), .inl (cI, 120, .inl (upd K n (nI q.1)))), ((bd 2), .inl (cI, 120, .inl F)), ((bd 3), .inl (cI, 120, .inl S)), ((bd 4), .inl (cI, 120, .inl DD)), ((bd 5), .inl (cI, 5, .inl NU)), ((bd 6), .inl (cI, 120, .inl VA)), ((bd 7), .inl (cI, 120, .inl BE)), ((bd 8), .inl (cI, 128, .inl WA)), ((bd 9), .inl (cI, 30, .inl LE)), ((bd 10), .inl (cI, 30, .inl AA)), ((bd 11), .inl (cI, 30, .inl RI)), ((bd 12), .inl (cI, 10, .inl UN)), ((bd 13), .inl (cZ, 30, .inl CO))] := hD
            refine lv_aload_n hx hb d_Mo_make_132 rfl (lv_at hl 1 rfl) ?_
            refine va_get (D := (dC, dI)) (ci := 4) (v := .ref (bd 2)) (C := R_Mo) (T := F_Mo) (N := 17) hx hb htb ul_Mo hown hK hP 0 rfl rfl 2 (by decide) (htb _ mw_550) (fun _ h9 => h9) rfl d_Mo_make_133 ?_
            refine lv_aload_n hx hb d_Mo_make_136 rfl (lv_at hl 1 rfl) ?_
            refine va_get (D := (dC, dI)) (ci := 4) (v := .int (nI n)) (C := R_Mo) (T := F_Mo) (N := 17) hx hb htb ul_Mo hown hK hP 0 rfl rfl 5 (by decide) (htb _ mw_553) (fun _ h9 => h9) rfl d_Mo_make_137 ?_
            refine lv_iload_n hx hb d_Mo_make_140 rfl (lv_at hl 3 rfl) ?_
            refine ry_iast (D := (dC, dI)) (j := n) hx hb hK hP hD hS 2 0 rfl rfl (by omega) (by decide) d_Mo_make_141 (fun H locs hP hD hS => ?_)
            have hP : va_P (dC, dI) classes [((bd 0), .inr (4, [.int th, .ref (bd 1), .ref (bd 2), .ref (bd 3), .ref (bd 4), .int (nI n), .ref (bd 5), .ref (bd 6), .ref (bd 7), .ref (bd 8), .ref (bd 9), .ref (bd 10), .ref (bd 11), .ref (bd 12), .ref (bd 13), .int (nI unk), .int (nI cnt)])), ((bd 1), .inl (cI, 120, .inl (upd K n (nI q.1)))), ((bd 2), .inl (cI, 120, .inl (upd F n (fF q)))), ((bd 3), .inl (cI, 120, .inl S)), ((bd 4), .inl (cI, 120, .inl DD)), ((bd 5), .inl (cI, 5, .inl NU)), ((bd 6), .inl (cI, 120, .inl VA)), ((bd 7), .inl (cI, 120, .inl BE)), ((bd 8), .inl (cI, 128, .inl WA)), ((bd 9), .inl (cI, 30, .inl LE)), ((bd 10), .inl (cI, 30, .inl AA)), ((bd 11), .inl (cI, 30, .inl RI)), ((bd 12), .inl (cI, 10, .inl UN)), ((bd 13), .inl (cZ, 30, .inl CO))] H := hP
            have hD : va_D A [((bd 0), .inr (4, [.int th, .ref (bd 1), .ref (bd 2), .ref (bd 3), .ref (bd 4), .int (nI n), .ref (bd 5), .ref (bd 6), .ref (bd 7), .ref (bd 8), .ref (bd 9), .ref (bd 10), .ref (bd 11), .ref (bd 12), .ref (bd 13), .int (nI unk), .int (nI cnt)])), ((bd 1), .inl (cI, 120, .inl (upd K n (nI q.1)))), ((bd 2), .inl (cI, 120, .inl (upd F n (fF q)))), ((bd 3), .inl (cI, 120, .inl S)), ((bd 4), .inl (cI, 120, .inl DD)), ((bd 5), .inl (cI, 5, .inl NU)), ((bd 6), .inl (cI, 120, .inl VA)), ((bd 7), .inl (cI, 120, .inl BE)), ((bd 8), .inl (cI, 128, .inl WA)), ((bd 9), .inl (cI, 30, .inl LE)), ((bd 10), .inl (cI, 30, .inl AA)), ((bd 11), .inl (cI, 30, .inl RI)), ((bd 12), .inl (cI, 10, .inl UN)), ((bd 13), .inl (cZ, 30, .inl CO))] := hD
            refine lv_aload_n hx hb d_Mo_make_142 rfl (lv_at hl 1 rfl) ?_
            refine va_get (D := (dC, dI)) (ci := 4) (v := .ref (bd 3)) (C := R_Mo) (T := F_Mo) (N := 17) hx hb htb ul_Mo hown hK hP 0 rfl rfl 3 (by decide) (htb _ mw_551) (fun _ h9 => h9) rfl d_Mo_make_143 ?_
            refine lv_aload_n hx hb d_Mo_make_146 rfl (lv_at hl 1 rfl) ?_
            refine va_get (D := (dC, dI)) (ci := 4) (v := .int (nI n)) (C := R_Mo) (T := F_Mo) (N := 17) hx hb htb ul_Mo hown hK hP 0 rfl rfl 5 (by decide) (htb _ mw_553) (fun _ h9 => h9) rfl d_Mo_make_147 ?_
            refine lv_iload_n hx hb d_Mo_make_150 rfl (lv_at hl 4 rfl) ?_
            refine ry_iast (D := (dC, dI)) (j := n) hx hb hK hP hD hS 3 0 rfl rfl (by omega) (by decide) d_Mo_make_151 (fun H locs hP hD hS => ?_)
            have hP : va_P (dC, dI) classes [((bd 0), .inr (4, [.int th, .ref (bd 1), .ref (bd 2), .ref (bd 3), .ref (bd 4), .int (nI n), .ref (bd 5), .ref (bd 6), .ref (bd 7), .ref (bd 8), .ref (bd 9), .ref (bd 10), .ref (bd 11), .ref (bd 12), .ref (bd 13), .int (nI unk), .int (nI cnt)])), ((bd 1), .inl (cI, 120, .inl (upd K n (nI q.1)))), ((bd 2), .inl (cI, 120, .inl (upd F n (fF q)))), ((bd 3), .inl (cI, 120, .inl (upd S n (fS q)))), ((bd 4), .inl (cI, 120, .inl DD)), ((bd 5), .inl (cI, 5, .inl NU)), ((bd 6), .inl (cI, 120, .inl VA)), ((bd 7), .inl (cI, 120, .inl BE)), ((bd 8), .inl (cI, 128, .inl WA)), ((bd 9), .inl (cI, 30, .inl LE)), ((bd 10), .inl (cI, 30, .inl AA)), ((bd 11), .inl (cI, 30, .inl RI)), ((bd 12), .inl (cI, 10, .inl UN)), ((bd 13), .inl (cZ, 30, .inl CO))] H := hP
            have hD : va_D A [((bd 0), .inr (4, [.int th, .ref (bd 1), .ref (bd 2), .ref (bd 3), .ref (bd 4), .int (nI n), .ref (bd 5), .ref (bd 6), .ref (bd 7), .ref (bd 8), .ref (bd 9), .ref (bd 10), .ref (bd 11), .ref (bd 12), .ref (bd 13), .int (nI unk), .int (nI cnt)])), ((bd 1), .inl (cI, 120, .inl (upd K n (nI q.1)))), ((bd 2), .inl (cI, 120, .inl (upd F n (fF q)))), ((bd 3), .inl (cI, 120, .inl (upd S n (fS q)))), ((bd 4), .inl (cI, 120, .inl DD)), ((bd 5), .inl (cI, 5, .inl NU)), ((bd 6), .inl (cI, 120, .inl VA)), ((bd 7), .inl (cI, 120, .inl BE)), ((bd 8), .inl (cI, 128, .inl WA)), ((bd 9), .inl (cI, 30, .inl LE)), ((bd 10), .inl (cI, 30, .inl AA)), ((bd 11), .inl (cI, 30, .inl RI)), ((bd 12), .inl (cI, 10, .inl UN)), ((bd 13), .inl (cZ, 30, .inl CO))] := hD
            refine lv_aload_n hx hb d_Mo_make_152 rfl (lv_at hl 1 rfl) ?_
            refine va_get (D := (dC, dI)) (ci := 4) (v := .ref (bd 4)) (C := R_Mo) (T := F_Mo) (N := 17) hx hb htb ul_Mo hown hK hP 0 rfl rfl 4 (by decide) (htb _ mw_552) (fun _ h9 => h9) rfl d_Mo_make_153 ?_
            refine lv_aload_n hx hb d_Mo_make_156 rfl (lv_at hl 1 rfl) ?_
            refine va_get (D := (dC, dI)) (ci := 4) (v := .int (nI n)) (C := R_Mo) (T := F_Mo) (N := 17) hx hb htb ul_Mo hown hK hP 0 rfl rfl 5 (by decide) (htb _ mw_553) (fun _ h9 => h9) rfl d_Mo_make_157 ?_
            refine lv_iload hx hb d_Mo_make_160 (lv_at hl 0 rfl) ?_
            refine ry_iast (D := (dC, dI)) (j := n) hx hb hK hP hD hS 4 0 rfl rfl (by omega) (by decide) d_Mo_make_162 (fun H locs hP hD hS => ?_)
            have hP : va_P (dC, dI) classes [((bd 0), .inr (4, [.int th, .ref (bd 1), .ref (bd 2), .ref (bd 3), .ref (bd 4), .int (nI n), .ref (bd 5), .ref (bd 6), .ref (bd 7), .ref (bd 8), .ref (bd 9), .ref (bd 10), .ref (bd 11), .ref (bd 12), .ref (bd 13), .int (nI unk), .int (nI cnt)])), ((bd 1), .inl (cI, 120, .inl (upd K n (nI q.1)))), ((bd 2), .inl (cI, 120, .inl (upd F n (fF q)))), ((bd 3), .inl (cI, 120, .inl (upd S n (fS q)))), ((bd 4), .inl (cI, 120, .inl (upd DD n ((nI (dp (ext nd n q) n)))))), ((bd 5), .inl (cI, 5, .inl NU)), ((bd 6), .inl (cI, 120, .inl VA)), ((bd 7), .inl (cI, 120, .inl BE)), ((bd 8), .inl (cI, 128, .inl WA)), ((bd 9), .inl (cI, 30, .inl LE)), ((bd 10), .inl (cI, 30, .inl AA)), ((bd 11), .inl (cI, 30, .inl RI)), ((bd 12), .inl (cI, 10, .inl UN)), ((bd 13), .inl (cZ, 30, .inl CO))] H := hP
            have hD : va_D A [((bd 0), .inr (4, [.int th, .ref (bd 1), .ref (bd 2), .ref (bd 3), .ref (bd 4), .int (nI n), .ref (bd 5), .ref (bd 6), .ref (bd 7), .ref (bd 8), .ref (bd 9), .ref (bd 10), .ref (bd 11), .ref (bd 12), .ref (bd 13), .int (nI unk), .int (nI cnt)])), ((bd 1), .inl (cI, 120, .inl (upd K n (nI q.1)))), ((bd 2), .inl (cI, 120, .inl (upd F n (fF q)))), ((bd 3), .inl (cI, 120, .inl (upd S n (fS q)))), ((bd 4), .inl (cI, 120, .inl (upd DD n ((nI (dp (ext nd n q) n)))))), ((bd 5), .inl (cI, 5, .inl NU)), ((bd 6), .inl (cI, 120, .inl VA)), ((bd 7), .inl (cI, 120, .inl BE)), ((bd 8), .inl (cI, 128, .inl WA)), ((bd 9), .inl (cI, 30, .inl LE)), ((bd 10), .inl (cI, 30, .inl AA)), ((bd 11), .inl (cI, 30, .inl RI)), ((bd 12), .inl (cI, 10, .inl UN)), ((bd 13), .inl (cZ, 30, .inl CO))] := hD
            refine lv_aload_n hx hb d_Mo_make_163 rfl (lv_at hl 1 rfl) ?_
            refine lv_dup hx hb d_Mo_make_164 rfl ?_
            refine va_get (D := (dC, dI)) (ci := 4) (v := .int (nI n)) (C := R_Mo) (T := F_Mo) (N := 17) hx hb htb ul_Mo hown hK hP 0 rfl rfl 5 (by decide) (htb _ mw_553) (fun _ h9 => h9) rfl d_Mo_make_165 ?_
            refine lv_iconst (v := 1) hx hb d_Mo_make_168 (by decide) ?_
            refine lv_iadd hx hb d_Mo_make_169 ?_
            rw [nI_1]
            refine va_put (D := (dC, dI)) (ci := 4) (v := .int (nI (n + 1))) (ty := .int) (C := R_Mo) (T := F_Mo) (N := 17) hx hb htb ul_Mo t_Mo t_Mo_ok n_Mo hown hK hP hD hS 0 rfl rfl 5 (by decide) (htb _ mw_553) (fun _ h9 => h9) rfl (by decide +kernel) rfl rfl (Nat.le_of_ble_eq_true rfl) d_Mo_make_170 (fun H locs hP hD hS => ?_)
            have hP : va_P (dC, dI) classes [((bd 0), .inr (4, [.int th, .ref (bd 1), .ref (bd 2), .ref (bd 3), .ref (bd 4), .int (nI (n + 1)), .ref (bd 5), .ref (bd 6), .ref (bd 7), .ref (bd 8), .ref (bd 9), .ref (bd 10), .ref (bd 11), .ref (bd 12), .ref (bd 13), .int (nI unk), .int (nI cnt)])), ((bd 1), .inl (cI, 120, .inl (upd K n (nI q.1)))), ((bd 2), .inl (cI, 120, .inl (upd F n (fF q)))), ((bd 3), .inl (cI, 120, .inl (upd S n (fS q)))), ((bd 4), .inl (cI, 120, .inl (upd DD n ((nI (dp (ext nd n q) n)))))), ((bd 5), .inl (cI, 5, .inl NU)), ((bd 6), .inl (cI, 120, .inl VA)), ((bd 7), .inl (cI, 120, .inl BE)), ((bd 8), .inl (cI, 128, .inl WA)), ((bd 9), .inl (cI, 30, .inl LE)), ((bd 10), .inl (cI, 30, .inl AA)), ((bd 11), .inl (cI, 30, .inl RI)), ((bd 12), .inl (cI, 10, .inl UN)), ((bd 13), .inl (cZ, 30, .inl CO))] H := hP
            have hD : va_D A [((bd 0), .inr (4, [.int th, .ref (bd 1), .ref (bd 2), .ref (bd 3), .ref (bd 4), .int (nI (n + 1)), .ref (bd 5), .ref (bd 6), .ref (bd 7), .ref (bd 8), .ref (bd 9), .ref (bd 10), .ref (bd 11), .ref (bd 12), .ref (bd 13), .int (nI unk), .int (nI cnt)])), ((bd 1), .inl (cI, 120, .inl (upd K n (nI q.1)))), ((bd 2), .inl (cI, 120, .inl (upd F n (fF q)))), ((bd 3), .inl (cI, 120, .inl (upd S n (fS q)))), ((bd 4), .inl (cI, 120, .inl (upd DD n ((nI (dp (ext nd n q) n)))))), ((bd 5), .inl (cI, 5, .inl NU)), ((bd 6), .inl (cI, 120, .inl VA)), ((bd 7), .inl (cI, 120, .inl BE)), ((bd 8), .inl (cI, 128, .inl WA)), ((bd 9), .inl (cI, 30, .inl LE)), ((bd 10), .inl (cI, 30, .inl AA)), ((bd 11), .inl (cI, 30, .inl RI)), ((bd 12), .inl (cI, 10, .inl UN)), ((bd 13), .inl (cZ, 30, .inl CO))] := hD
            refine lv_aload_n hx hb d_Mo_make_173 rfl (lv_at hl 1 rfl) ?_
            refine va_get (D := (dC, dI)) (ci := 4) (v := .int (nI (n + 1))) (C := R_Mo) (T := F_Mo) (N := 17) hx hb htb ul_Mo hown hK hP 0 rfl rfl 5 (by decide) (htb _ mw_553) (fun _ h9 => h9) rfl d_Mo_make_174 ?_
            refine lv_iconst (v := 1) hx hb d_Mo_make_177 (by decide) ?_
            refine lv_isub hx hb d_Mo_make_178 ?_
            rw [nI_pred]
            exact W.iret (v := (nI n)) hx hb hr (fun t ht hW => ⟨⟨(nI n), ((upd K n (nI q.1)), (upd F n (fF q)), (upd S n (fS q)), (upd DD n (nI (dp (ext nd n q) n))), n + 1), rfl, ⟨ext nd n q, Or.inl (Or.inr ⟨hnew, hn1, hdd, rfl, rfl, rfl⟩), ext_mo hok hq hn1 hnew hdd⟩, by rw [ht]; exact hP, va_K.moved hW.alike hK, hD⟩, hS.F ht⟩) hS.2.2 d_Mo_make_179
        · have k2 : q.1 = 2 := (nI_eq (b := 2) (by omega) (by decide)).mp c_76
          have ha := hq.2.2.1 (by omega)
          rw [fF_n (by omega)] at hl
          refine lv_aload_n hx hb d_Mo_make_79 rfl (lv_at hl 0 rfl) ?_
          refine va_get (D := (dC, dI)) (ci := 4) (v := .ref (bd 4)) (C := R_Mo) (T := F_Mo) (N := 17) hx hb htb ul_Mo hown hK hP 0 rfl rfl 4 (by decide) (htb _ mw_552) (fun _ h9 => h9) rfl d_Mo_make_80 ?_
          refine lv_iload_n hx hb d_Mo_make_83 rfl (lv_at hl 2 rfl) ?_
          refine ry_iald (D := (dC, dI)) (j := q.2.1) hx hb hK hP 4 0 rfl rfl (by omega) (by decide) d_Mo_make_84 ?_
          refine lv_iconst (v := 1) hx hb d_Mo_make_85 (by decide) ?_
          refine lv_iadd hx hb d_Mo_make_86 ?_
          refine lv_goto (tgt := 120) hx hb d_Mo_make_87 (by decide) ?_
          rw [show (((DD q.2.1) + 1) : Int32) = nI (dp (ext nd n q) n) from by rw [ext_dp hq, dA, if_neg (by omega), if_pos k2, if_pos (by omega), hok.2.2 _ ha]; exact nI_1 _]
          refine lv_istore (lv' := [(4, .int (nI (dp (ext nd n q) n))), (0, .ref (bd 0)), (1, .int (nI q.1)), (2, .int (nI q.2.1)), (3, .int (fS q))]) hx hb d_Mo_make_120 hl (by decide) rfl (fun ls hl => ?_)
          rw [← fF_n (q := q) (by omega)] at hl
          refine lv_aload_n hx hb d_Mo_make_122 rfl (lv_at hl 1 rfl) ?_
          refine va_get (D := (dC, dI)) (ci := 4) (v := .ref (bd 1)) (C := R_Mo) (T := F_Mo) (N := 17) hx hb htb ul_Mo hown hK hP 0 rfl rfl 1 (by decide) (htb _ mw_549) (fun _ h9 => h9) rfl d_Mo_make_123 ?_
          refine lv_aload_n hx hb d_Mo_make_126 rfl (lv_at hl 1 rfl) ?_
          refine va_get (D := (dC, dI)) (ci := 4) (v := .int (nI n)) (C := R_Mo) (T := F_Mo) (N := 17) hx hb htb ul_Mo hown hK hP 0 rfl rfl 5 (by decide) (htb _ mw_553) (fun _ h9 => h9) rfl d_Mo_make_127 ?_
          refine lv_iload_n hx hb d_Mo_make_130 rfl (lv_at hl 2 rfl) ?_
          refine ry_iast (D := (dC, dI)) (j := n) hx hb hK hP hD hS 1 0 rfl rfl (by omega) (by decide) d_Mo_make_131 (fun H locs hP hD hS => ?_)
          have hP : va_P (dC, dI) classes [((bd 0), .inr (4, [.int th, .ref (bd 1), .ref (bd 2), .ref (bd 3), .ref (bd 4), .int (nI n), .ref (bd 5), .ref (bd 6), .ref (bd 7), .ref (bd 8), .ref (bd 9), .ref (bd 10), .ref (bd 11), .ref (bd 12), .ref (bd 13), .int (nI unk), .int (nI cnt)])), ((bd 1), .inl (cI, 120, .inl (upd K n (nI q.1)))), ((bd 2), .inl (cI, 120, .inl F)), ((bd 3), .inl (cI, 120, .inl S)), ((bd 4), .inl (cI, 120, .inl DD)), ((bd 5), .inl (cI, 5, .inl NU)), ((bd 6), .inl (cI, 120, .inl VA)), ((bd 7), .inl (cI, 120, .inl BE)), ((bd 8), .inl (cI, 128, .inl WA)), ((bd 9), .inl (cI, 30, .inl LE)), ((bd 10), .inl (cI, 30, .inl AA)), ((bd 11), .inl (cI, 30, .inl RI)), ((bd 12), .inl (cI, 10, .inl UN)), ((bd 13), .inl (cZ, 30, .inl CO))] H := hP
          have hD : va_D A [((bd 0), .inr (4, [.int th, .ref (bd 1), .ref (bd 2), .ref (bd 3), .ref (bd 4), .int (nI n), .ref (bd 5), .ref (bd 6), .ref (bd 7), .ref (bd 8), .ref (bd 9), .ref (bd 10), .ref (bd 11), .ref (bd 12), .ref (bd 13), .int (nI unk), .int (nI cnt)])), ((bd 1), .inl (cI, 120, .inl (upd K n (nI q.1)))), ((bd 2), .inl (cI, 120, .inl F)), ((bd 3), .inl (cI, 120, .inl S)), ((bd 4), .inl (cI, 120, .inl DD)), ((bd 5), .inl (cI, 5, .inl NU)), ((bd 6), .inl (cI, 120, .inl VA)), ((bd 7), .inl (cI, 120, .inl BE)), ((bd 8), .inl (cI, 128, .inl WA)), ((bd 9), .inl (cI, 30, .inl LE)), ((bd 10), .inl (cI, 30, .inl AA)), ((bd 11), .inl (cI, 30, .inl RI)), ((bd 12), .inl (cI, 10, .inl UN)), ((bd 13), .inl (cZ, 30, .inl CO))] := hD
          refine lv_aload_n hx hb d_Mo_make_132 rfl (lv_at hl 1 rfl) ?_
          refine va_get (D := (dC, dI)) (ci := 4) (v := .ref (bd 2)) (C := R_Mo) (T := F_Mo) (N := 17) hx hb htb ul_Mo hown hK hP 0 rfl rfl 2 (by decide) (htb _ mw_550) (fun _ h9 => h9) rfl d_Mo_make_133 ?_
          refine lv_aload_n hx hb d_Mo_make_136 rfl (lv_at hl 1 rfl) ?_
          refine va_get (D := (dC, dI)) (ci := 4) (v := .int (nI n)) (C := R_Mo) (T := F_Mo) (N := 17) hx hb htb ul_Mo hown hK hP 0 rfl rfl 5 (by decide) (htb _ mw_553) (fun _ h9 => h9) rfl d_Mo_make_137 ?_
          refine lv_iload_n hx hb d_Mo_make_140 rfl (lv_at hl 3 rfl) ?_
          refine ry_iast (D := (dC, dI)) (j := n) hx hb hK hP hD hS 2 0 rfl rfl (by omega) (by decide) d_Mo_make_141 (fun H locs hP hD hS => ?_)
          have hP : va_P (dC, dI) classes [((bd 0), .inr (4, [.int th, .ref (bd 1), .ref (bd 2), .ref (bd 3), .ref (bd 4), .int (nI n), .ref (bd 5), .ref (bd 6), .ref (bd 7), .ref (bd 8), .ref (bd 9), .ref (bd 10), .ref (bd 11), .ref (bd 12), .ref (bd 13), .int (nI unk), .int (nI cnt)])), ((bd 1), .inl (cI, 120, .inl (upd K n (nI q.1)))), ((bd 2), .inl (cI, 120, .inl (upd F n (fF q)))), ((bd 3), .inl (cI, 120, .inl S)), ((bd 4), .inl (cI, 120, .inl DD)), ((bd 5), .inl (cI, 5, .inl NU)), ((bd 6), .inl (cI, 120, .inl VA)), ((bd 7), .inl (cI, 120, .inl BE)), ((bd 8), .inl (cI, 128, .inl WA)), ((bd 9), .inl (cI, 30, .inl LE)), ((bd 10), .inl (cI, 30, .inl AA)), ((bd 11), .inl (cI, 30, .inl RI)), ((bd 12), .inl (cI, 10, .inl UN)), ((bd 13), .inl (cZ, 30, .inl CO))] H := hP
          have hD : va_D A [((bd 0), .inr (4, [.int th, .ref (bd 1), .ref (bd 2), .ref (bd 3), .ref (bd 4), .int (nI n), .ref (bd 5), .ref (bd 6), .ref (bd 7), .ref (bd 8), .ref (bd 9), .ref (bd 10), .ref (bd 11), .ref (bd 12), .ref (bd 13), .int (nI unk), .int (nI cnt)])), ((bd 1), .inl (cI, 120, .inl (upd K n (nI q.1)))), ((bd 2), .inl (cI, 120, .inl (upd F n (fF q)))), ((bd 3), .inl (cI, 120, .inl S)), ((bd 4), .inl (cI, 120, .inl DD)), ((bd 5), .inl (cI, 5, .inl NU)), ((bd 6), .inl (cI, 120, .inl VA)), ((bd 7), .inl (cI, 120, .inl BE)), ((bd 8), .inl (cI, 128, .inl WA)), ((bd 9), .inl (cI, 30, .inl LE)), ((bd 10), .inl (cI, 30, .inl AA)), ((bd 11), .inl (cI, 30, .inl RI)), ((bd 12), .inl (cI, 10, .inl UN)), ((bd 13), .inl (cZ, 30, .inl CO))] := hD
          refine lv_aload_n hx hb d_Mo_make_142 rfl (lv_at hl 1 rfl) ?_
          refine va_get (D := (dC, dI)) (ci := 4) (v := .ref (bd 3)) (C := R_Mo) (T := F_Mo) (N := 17) hx hb htb ul_Mo hown hK hP 0 rfl rfl 3 (by decide) (htb _ mw_551) (fun _ h9 => h9) rfl d_Mo_make_143 ?_
          refine lv_aload_n hx hb d_Mo_make_146 rfl (lv_at hl 1 rfl) ?_
          refine va_get (D := (dC, dI)) (ci := 4) (v := .int (nI n)) (C := R_Mo) (T := F_Mo) (N := 17) hx hb htb ul_Mo hown hK hP 0 rfl rfl 5 (by decide) (htb _ mw_553) (fun _ h9 => h9) rfl d_Mo_make_147 ?_
          refine lv_iload_n hx hb d_Mo_make_150 rfl (lv_at hl 4 rfl) ?_
          refine ry_iast (D := (dC, dI)) (j := n) hx hb hK hP hD hS 3 0 rfl rfl (by omega) (by decide) d_Mo_make_151 (fun H locs hP hD hS => ?_)
          have hP : va_P (dC, dI) classes [((bd 0), .inr (4, [.int th, .ref (bd 1), .ref (bd 2), .ref (bd 3), .ref (bd 4), .int (nI n), .ref (bd 5), .ref (bd 6), .ref (bd 7), .ref (bd 8), .ref (bd 9), .ref (bd 10), .ref (bd 11), .ref (bd 12), .ref (bd 13), .int (nI unk), .int (nI cnt)])), ((bd 1), .inl (cI, 120, .inl (upd K n (nI q.1)))), ((bd 2), .inl (cI, 120, .inl (upd F n (fF q)))), ((bd 3), .inl (cI, 120, .inl (upd S n (fS q)))), ((bd 4), .inl (cI, 120, .inl DD)), ((bd 5), .inl (cI, 5, .inl NU)), ((bd 6), .inl (cI, 120, .inl VA)), ((bd 7), .inl (cI, 120, .inl BE)), ((bd 8), .inl (cI, 128, .inl WA)), ((bd 9), .inl (cI, 30, .inl LE)), ((bd 10), .inl (cI, 30, .inl AA)), ((bd 11), .inl (cI, 30, .inl RI)), ((bd 12), .inl (cI, 10, .inl UN)), ((bd 13), .inl (cZ, 30, .inl CO))] H := hP
          have hD : va_D A [((bd 0), .inr (4, [.int th, .ref (bd 1), .ref (bd 2), .ref (bd 3), .ref (bd 4), .int (nI n), .ref (bd 5), .ref (bd 6), .ref (bd 7), .ref (bd 8), .ref (bd 9), .ref (bd 10), .ref (bd 11), .ref (bd 12), .ref (bd 13), .int (nI unk), .int (nI cnt)])), ((bd 1), .inl (cI, 120, .inl (upd K n (nI q.1)))), ((bd 2), .inl (cI, 120, .inl (upd F n (fF q)))), ((bd 3), .inl (cI, 120, .inl (upd S n (fS q)))), ((bd 4), .inl (cI, 120, .inl DD)), ((bd 5), .inl (cI, 5, .inl NU)), ((bd 6), .inl (cI, 120, .inl VA)), ((bd 7), .inl (cI, 120, .inl BE)), ((bd 8), .inl (cI, 128, .inl WA)), ((bd 9), .inl (cI, 30, .inl LE)), ((bd 10), .inl (cI, 30, .inl AA)), ((bd 11), .inl (cI, 30, .inl RI)), ((bd 12), .inl (cI, 10, .inl UN)), ((bd 13), .inl (cZ, 30, .inl CO))] := hD
          refine lv_aload_n hx hb d_Mo_make_152 rfl (lv_at hl 1 rfl) ?_
          refine va_get (D := (dC, dI)) (ci := 4) (v := .ref (bd 4)) (C := R_Mo) (T := F_Mo) (N := 17) hx hb htb ul_Mo hown hK hP 0 rfl rfl 4 (by decide) (htb _ mw_552) (fun _ h9 => h9) rfl d_Mo_make_153 ?_
          refine lv_aload_n hx hb d_Mo_make_156 rfl (lv_at hl 1 rfl) ?_
          refine va_get (D := (dC, dI)) (ci := 4) (v := .int (nI n)) (C := R_Mo) (T := F_Mo) (N := 17) hx hb htb ul_Mo hown hK hP 0 rfl rfl 5 (by decide) (htb _ mw_553) (fun _ h9 => h9) rfl d_Mo_make_157 ?_
          refine lv_iload hx hb d_Mo_make_160 (lv_at hl 0 rfl) ?_
          refine ry_iast (D := (dC, dI)) (j := n) hx hb hK hP hD hS 4 0 rfl rfl (by omega) (by decide) d_Mo_make_162 (fun H locs hP hD hS => ?_)
          have hP : va_P (dC, dI) classes [((bd 0), .inr (4, [.int th, .ref (bd 1), .ref (bd 2), .ref (bd 3), .ref (bd 4), .int (nI n), .ref (bd 5), .ref (bd 6), .ref (bd 7), .ref (bd 8), .ref (bd 9), .ref (bd 10), .ref (bd 11), .ref (bd 12), .ref (bd 13), .int (nI unk), .int (nI cnt)])), ((bd 1), .inl (cI, 120, .inl (upd K n (nI q.1)))), ((bd 2), .inl (cI, 120, .inl (upd F n (fF q)))), ((bd 3), .inl (cI, 120, .inl (upd S n (fS q)))), ((bd 4), .inl (cI, 120, .inl (upd DD n ((nI (dp (ext nd n q) n)))))), ((bd 5), .inl (cI, 5, .inl NU)), ((bd 6), .inl (cI, 120, .inl VA)), ((bd 7), .inl (cI, 120, .inl BE)), ((bd 8), .inl (cI, 128, .inl WA)), ((bd 9), .inl (cI, 30, .inl LE)), ((bd 10), .inl (cI, 30, .inl AA)), ((bd 11), .inl (cI, 30, .inl RI)), ((bd 12), .inl (cI, 10, .inl UN)), ((bd 13), .inl (cZ, 30, .inl CO))] H := hP
          have hD : va_D A [((bd 0), .inr (4, [.int th, .ref (bd 1), .ref (bd 2), .ref (bd 3), .ref (bd 4), .int (nI n), .ref (bd 5), .ref (bd 6), .ref (bd 7), .ref (bd 8), .ref (bd 9), .ref (bd 10), .ref (bd 11), .ref (bd 12), .ref (bd 13), .int (nI unk), .int (nI cnt)])), ((bd 1), .inl (cI, 120, .inl (upd K n (nI q.1)))), ((bd 2), .inl (cI, 120, .inl (upd F n (fF q)))), ((bd 3), .inl (cI, 120, .inl (upd S n (fS q)))), ((bd 4), .inl (cI, 120, .inl (upd DD n ((nI (dp (ext nd n q) n)))))), ((bd 5), .inl (cI, 5, .inl NU)), ((bd 6), .inl (cI, 120, .inl VA)), ((bd 7), .inl (cI, 120, .inl BE)), ((bd 8), .inl (cI, 128, .inl WA)), ((bd 9), .inl (cI, 30, .inl LE)), ((bd 10), .inl (cI, 30, .inl AA)), ((bd 11), .inl (cI, 30, .inl RI)), ((bd 12), .inl (cI, 10, .inl UN)), ((bd 13), .inl (cZ, 30, .inl CO))] := hD
          refine lv_aload_n hx hb d_Mo_make_163 rfl (lv_at hl 1 rfl) ?_
          refine lv_dup hx hb d_Mo_make_164 rfl ?_
          refine va_get (D := (dC, dI)) (ci := 4) (v := .int (nI n)) (C := R_Mo) (T := F_Mo) (N := 17) hx hb htb ul_Mo hown hK hP 0 rfl rfl 5 (by decide) (htb _ mw_553) (fun _ h9 => h9) rfl d_Mo_make_165 ?_
          refine lv_iconst (v := 1) hx hb d_Mo_make_168 (by decide) ?_
          refine lv_iadd hx hb d_Mo_make_169 ?_
          rw [nI_1]
          refine va_put (D := (dC, dI)) (ci := 4) (v := .int (nI (n + 1))) (ty := .int) (C := R_Mo) (T := F_Mo) (N := 17) hx hb htb ul_Mo t_Mo t_Mo_ok n_Mo hown hK hP hD hS 0 rfl rfl 5 (by decide) (htb _ mw_553) (fun _ h9 => h9) rfl (by decide +kernel) rfl rfl (Nat.le_of_ble_eq_true rfl) d_Mo_make_170 (fun H locs hP hD hS => ?_)
          have hP : va_P (dC, dI) classes [((bd 0), .inr (4, [.int th, .ref (bd 1), .ref (bd 2), .ref (bd 3), .ref (bd 4), .int (nI (n + 1)), .ref (bd 5), .ref (bd 6), .ref (bd 7), .ref (bd 8), .ref (bd 9), .ref (bd 10), .ref (bd 11), .ref (bd 12), .ref (bd 13), .int (nI unk), .int (nI cnt)])), ((bd 1), .inl (cI, 120, .inl (upd K n (nI q.1)))), ((bd 2), .inl (cI, 120, .inl (upd F n (fF q)))), ((bd 3), .inl (cI, 120, .inl (upd S n (fS q)))), ((bd 4), .inl (cI, 120, .inl (upd DD n ((nI (dp (ext nd n q) n)))))), ((bd 5), .inl (cI, 5, .inl NU)), ((bd 6), .inl (cI, 120, .inl VA)), ((bd 7), .inl (cI, 120, .inl BE)), ((bd 8), .inl (cI, 128, .inl WA)), ((bd 9), .inl (cI, 30, .inl LE)), ((bd 10), .inl (cI, 30, .inl AA)), ((bd 11), .inl (cI, 30, .inl RI)), ((bd 12), .inl (cI, 10, .inl UN)), ((bd 13), .inl (cZ, 30, .inl CO))] H := hP
          have hD : va_D A [((bd 0), .inr (4, [.int th, .ref (bd 1), .ref (bd 2), .ref (bd 3), .ref (bd 4), .int (nI (n + 1)), .ref (bd 5), .ref (bd 6), .ref (bd 7), .ref (bd 8), .ref (bd 9), .ref (bd 10), .ref (bd 11), .ref (bd 12), .ref (bd 13), .int (nI unk), .int (nI cnt)])), ((bd 1), .inl (cI, 120, .inl (upd K n (nI q.1)))), ((bd 2), .inl (cI, 120, .inl (upd F n (fF q)))), ((bd 3), .inl (cI, 120, .inl (upd S n (fS q)))), ((bd 4), .inl (cI, 120, .inl (upd DD n ((nI (dp (ext nd n q) n)))))), ((bd 5), .inl (cI, 5, .inl NU)), ((bd 6), .inl (cI, 120, .inl VA)), ((bd 7), .inl (cI, 120, .inl BE)), ((bd 8), .inl (cI, 128, .inl WA)), ((bd 9), .inl (cI, 30, .inl LE)), ((bd 10), .inl (cI, 30, .inl AA)), ((bd 11), .inl (cI, 30, .inl RI)), ((bd 12), .inl (cI, 10, .inl UN)), ((bd 13), .inl (cZ, 30, .inl CO))] := hD
          refine lv_aload_n hx hb d_Mo_make_173 rfl (lv_at hl 1 rfl) ?_
          refine va_get (D := (dC, dI)) (ci := 4) (v := .int (nI (n + 1))) (C := R_Mo) (T := F_Mo) (N := 17) hx hb htb ul_Mo hown hK hP 0 rfl rfl 5 (by decide) (htb _ mw_553) (fun _ h9 => h9) rfl d_Mo_make_174 ?_
          refine lv_iconst (v := 1) hx hb d_Mo_make_177 (by decide) ?_
          refine lv_isub hx hb d_Mo_make_178 ?_
          rw [nI_pred]
          exact W.iret (v := (nI n)) hx hb hr (fun t ht hW => ⟨⟨(nI n), ((upd K n (nI q.1)), (upd F n (fF q)), (upd S n (fS q)), (upd DD n (nI (dp (ext nd n q) n))), n + 1), rfl, ⟨ext nd n q, Or.inl (Or.inr ⟨hnew, hn1, hdd, rfl, rfl, rfl⟩), ext_mo hok hq hn1 hnew hdd⟩, by rw [ht]; exact hP, va_K.moved hW.alike hK, hD⟩, hS.F ht⟩) hS.2.2 d_Mo_make_179
      · refine lv_iconst (v := 0) hx hb d_Mo_make_70 (by decide) ?_
        refine lv_goto (tgt := 120) hx hb d_Mo_make_71 (by decide) ?_
        rw [show (0 : Int32) = nI (dp (ext nd n q) n) from by rw [ext_dp hq, dA, if_pos ((nI_ltI (b := 2) (by omega) (by decide)).mp (by rw [Int32.lt_iff_toInt_lt]; have h9 := c_67; rw [Int32.le_iff_toInt_le] at h9; exact Int.not_le.mp h9))]; rfl]
        refine lv_istore (lv' := [(4, .int (nI (dp (ext nd n q) n))), (0, .ref (bd 0)), (1, .int (nI q.1)), (2, .int (fF q)), (3, .int (fS q))]) hx hb d_Mo_make_120 hl (by decide) rfl (fun ls hl => ?_)
        refine lv_aload_n hx hb d_Mo_make_122 rfl (lv_at hl 1 rfl) ?_
        refine va_get (D := (dC, dI)) (ci := 4) (v := .ref (bd 1)) (C := R_Mo) (T := F_Mo) (N := 17) hx hb htb ul_Mo hown hK hP 0 rfl rfl 1 (by decide) (htb _ mw_549) (fun _ h9 => h9) rfl d_Mo_make_123 ?_
        refine lv_aload_n hx hb d_Mo_make_126 rfl (lv_at hl 1 rfl) ?_
        refine va_get (D := (dC, dI)) (ci := 4) (v := .int (nI n)) (C := R_Mo) (T := F_Mo) (N := 17) hx hb htb ul_Mo hown hK hP 0 rfl rfl 5 (by decide) (htb _ mw_553) (fun _ h9 => h9) rfl d_Mo_make_127 ?_
        refine lv_iload_n hx hb d_Mo_make_130 rfl (lv_at hl 2 rfl) ?_
        refine ry_iast (D := (dC, dI)) (j := n) hx hb hK hP hD hS 1 0 rfl rfl (by omega) (by decide) d_Mo_make_131 (fun H locs hP hD hS => ?_)
        have hP : va_P (dC, dI) classes [((bd 0), .inr (4, [.int th, .ref (bd 1), .ref (bd 2), .ref (bd 3), .ref (bd 4), .int (nI n), .ref (bd 5), .ref (bd 6), .ref (bd 7), .ref (bd 8), .ref (bd 9), .ref (bd 10), .ref (bd 11), .ref (bd 12), .ref (bd 13), .int (nI unk), .int (nI cnt)])), ((bd 1), .inl (cI, 120, .inl (upd K n (nI q.1)))), ((bd 2), .inl (cI, 120, .inl F)), ((bd 3), .inl (cI, 120, .inl S)), ((bd 4), .inl (cI, 120, .inl DD)), ((bd 5), .inl (cI, 5, .inl NU)), ((bd 6), .inl (cI, 120, .inl VA)), ((bd 7), .inl (cI, 120, .inl BE)), ((bd 8), .inl (cI, 128, .inl WA)), ((bd 9), .inl (cI, 30, .inl LE)), ((bd 10), .inl (cI, 30, .inl AA)), ((bd 11), .inl (cI, 30, .inl RI)), ((bd 12), .inl (cI, 10, .inl UN)), ((bd 13), .inl (cZ, 30, .inl CO))] H := hP
        have hD : va_D A [((bd 0), .inr (4, [.int th, .ref (bd 1), .ref (bd 2), .ref (bd 3), .ref (bd 4), .int (nI n), .ref (bd 5), .ref (bd 6), .ref (bd 7), .ref (bd 8), .ref (bd 9), .ref (bd 10), .ref (bd 11), .ref (bd 12), .ref (bd 13), .int (nI unk), .int (nI cnt)])), ((bd 1), .inl (cI, 120, .inl (upd K n (nI q.1)))), ((bd 2), .inl (cI, 120, .inl F)), ((bd 3), .inl (cI, 120, .inl S)), ((bd 4), .inl (cI, 120, .inl DD)), ((bd 5), .inl (cI, 5, .inl NU)), ((bd 6), .inl (cI, 120, .inl VA)), ((bd 7), .inl (cI, 120, .inl BE)), ((bd 8), .inl (cI, 128, .inl WA)), ((bd 9), .inl (cI, 30, .inl LE)), ((bd 10), .inl (cI, 30, .inl AA)), ((bd 11), .inl (cI, 30, .inl RI)), ((bd 12), .inl (cI, 10, .inl UN)), ((bd 13), .inl (cZ, 30, .inl CO))] := hD
        refine lv_aload_n hx hb d_Mo_make_132 rfl (lv_at hl 1 rfl) ?_
        refine va_get (D := (dC, dI)) (ci := 4) (v := .ref (bd 2)) (C := R_Mo) (T := F_Mo) (N := 17) hx hb htb ul_Mo hown hK hP 0 rfl rfl 2 (by decide) (htb _ mw_550) (fun _ h9 => h9) rfl d_Mo_make_133 ?_
        refine lv_aload_n hx hb d_Mo_make_136 rfl (lv_at hl 1 rfl) ?_
        refine va_get (D := (dC, dI)) (ci := 4) (v := .int (nI n)) (C := R_Mo) (T := F_Mo) (N := 17) hx hb htb ul_Mo hown hK hP 0 rfl rfl 5 (by decide) (htb _ mw_553) (fun _ h9 => h9) rfl d_Mo_make_137 ?_
        refine lv_iload_n hx hb d_Mo_make_140 rfl (lv_at hl 3 rfl) ?_
        refine ry_iast (D := (dC, dI)) (j := n) hx hb hK hP hD hS 2 0 rfl rfl (by omega) (by decide) d_Mo_make_141 (fun H locs hP hD hS => ?_)
        have hP : va_P (dC, dI) classes [((bd 0), .inr (4, [.int th, .ref (bd 1), .ref (bd 2), .ref (bd 3), .ref (bd 4), .int (nI n), .ref (bd 5), .ref (bd 6), .ref (bd 7), .ref (bd 8), .ref (bd 9), .ref (bd 10), .ref (bd 11), .ref (bd 12), .ref (bd 13), .int (nI unk), .int (nI cnt)])), ((bd 1), .inl (cI, 120, .inl (upd K n (nI q.1)))), ((bd 2), .inl (cI, 120, .inl (upd F n (fF q)))), ((bd 3), .inl (cI, 120, .inl S)), ((bd 4), .inl (cI, 120, .inl DD)), ((bd 5), .inl (cI, 5, .inl NU)), ((bd 6), .inl (cI, 120, .inl VA)), ((bd 7), .inl (cI, 120, .inl BE)), ((bd 8), .inl (cI, 128, .inl WA)), ((bd 9), .inl (cI, 30, .inl LE)), ((bd 10), .inl (cI, 30, .inl AA)), ((bd 11), .inl (cI, 30, .inl RI)), ((bd 12), .inl (cI, 10, .inl UN)), ((bd 13), .inl (cZ, 30, .inl CO))] H := hP
        have hD : va_D A [((bd 0), .inr (4, [.int th, .ref (bd 1), .ref (bd 2), .ref (bd 3), .ref (bd 4), .int (nI n), .ref (bd 5), .ref (bd 6), .ref (bd 7), .ref (bd 8), .ref (bd 9), .ref (bd 10), .ref (bd 11), .ref (bd 12), .ref (bd 13), .int (nI unk), .int (nI cnt)])), ((bd 1), .inl (cI, 120, .inl (upd K n (nI q.1)))), ((bd 2), .inl (cI, 120, .inl (upd F n (fF q)))), ((bd 3), .inl (cI, 120, .inl S)), ((bd 4), .inl (cI, 120, .inl DD)), ((bd 5), .inl (cI, 5, .inl NU)), ((bd 6), .inl (cI, 120, .inl VA)), ((bd 7), .inl (cI, 120, .inl BE)), ((bd 8), .inl (cI, 128, .inl WA)), ((bd 9), .inl (cI, 30, .inl LE)), ((bd 10), .inl (cI, 30, .inl AA)), ((bd 11), .inl (cI, 30, .inl RI)), ((bd 12), .inl (cI, 10, .inl UN)), ((bd 13), .inl (cZ, 30, .inl CO))] := hD
        refine lv_aload_n hx hb d_Mo_make_142 rfl (lv_at hl 1 rfl) ?_
        refine va_get (D := (dC, dI)) (ci := 4) (v := .ref (bd 3)) (C := R_Mo) (T := F_Mo) (N := 17) hx hb htb ul_Mo hown hK hP 0 rfl rfl 3 (by decide) (htb _ mw_551) (fun _ h9 => h9) rfl d_Mo_make_143 ?_
        refine lv_aload_n hx hb d_Mo_make_146 rfl (lv_at hl 1 rfl) ?_
        refine va_get (D := (dC, dI)) (ci := 4) (v := .int (nI n)) (C := R_Mo) (T := F_Mo) (N := 17) hx hb htb ul_Mo hown hK hP 0 rfl rfl 5 (by decide) (htb _ mw_553) (fun _ h9 => h9) rfl d_Mo_make_147 ?_
        refine lv_iload_n hx hb d_Mo_make_150 rfl (lv_at hl 4 rfl) ?_
        refine ry_iast (D := (dC, dI)) (j := n) hx hb hK hP hD hS 3 0 rfl rfl (by omega) (by decide) d_Mo_make_151 (fun H locs hP hD hS => ?_)
        have hP : va_P (dC, dI) classes [((bd 0), .inr (4, [.int th, .ref (bd 1), .ref (bd 2), .ref (bd 3), .ref (bd 4), .int (nI n), .ref (bd 5), .ref (bd 6), .ref (bd 7), .ref (bd 8), .ref (bd 9), .ref (bd 10), .ref (bd 11), .ref (bd 12), .ref (bd 13), .int (nI unk), .int (nI cnt)])), ((bd 1), .inl (cI, 120, .inl (upd K n (nI q.1)))), ((bd 2), .inl (cI, 120, .inl (upd F n (fF q)))), ((bd 3), .inl (cI, 120, .inl (upd S n (fS q)))), ((bd 4), .inl (cI, 120, .inl DD)), ((bd 5), .inl (cI, 5, .inl NU)), ((bd 6), .inl (cI, 120, .inl VA)), ((bd 7), .inl (cI, 120, .inl BE)), ((bd 8), .inl (cI, 128, .inl WA)), ((bd 9), .inl (cI, 30, .inl LE)), ((bd 10), .inl (cI, 30, .inl AA)), ((bd 11), .inl (cI, 30, .inl RI)), ((bd 12), .inl (cI, 10, .inl UN)), ((bd 13), .inl (cZ, 30, .inl CO))] H := hP
        have hD : va_D A [((bd 0), .inr (4, [.int th, .ref (bd 1), .ref (bd 2), .ref (bd 3), .ref (bd 4), .int (nI n), .ref (bd 5), .ref (bd 6), .ref (bd 7), .ref (bd 8), .ref (bd 9), .ref (bd 10), .ref (bd 11), .ref (bd 12), .ref (bd 13), .int (nI unk), .int (nI cnt)])), ((bd 1), .inl (cI, 120, .inl (upd K n (nI q.1)))), ((bd 2), .inl (cI, 120, .inl (upd F n (fF q)))), ((bd 3), .inl (cI, 120, .inl (upd S n (fS q)))), ((bd 4), .inl (cI, 120, .inl DD)), ((bd 5), .inl (cI, 5, .inl NU)), ((bd 6), .inl (cI, 120, .inl VA)), ((bd 7), .inl (cI, 120, .inl BE)), ((bd 8), .inl (cI, 128, .inl WA)), ((bd 9), .inl (cI, 30, .inl LE)), ((bd 10), .inl (cI, 30, .inl AA)), ((bd 11), .inl (cI, 30, .inl RI)), ((bd 12), .inl (cI, 10, .inl UN)), ((bd 13), .inl (cZ, 30, .inl CO))] := hD
        refine lv_aload_n hx hb d_Mo_make_152 rfl (lv_at hl 1 rfl) ?_
        refine va_get (D := (dC, dI)) (ci := 4) (v := .ref (bd 4)) (C := R_Mo) (T := F_Mo) (N := 17) hx hb htb ul_Mo hown hK hP 0 rfl rfl 4 (by decide) (htb _ mw_552) (fun _ h9 => h9) rfl d_Mo_make_153 ?_
        refine lv_aload_n hx hb d_Mo_make_156 rfl (lv_at hl 1 rfl) ?_
        refine va_get (D := (dC, dI)) (ci := 4) (v := .int (nI n)) (C := R_Mo) (T := F_Mo) (N := 17) hx hb htb ul_Mo hown hK hP 0 rfl rfl 5 (by decide) (htb _ mw_553) (fun _ h9 => h9) rfl d_Mo_make_157 ?_
        refine lv_iload hx hb d_Mo_make_160 (lv_at hl 0 rfl) ?_
        refine ry_iast (D := (dC, dI)) (j := n) hx hb hK hP hD hS 4 0 rfl rfl (by omega) (by decide) d_Mo_make_162 (fun H locs hP hD hS => ?_)
        have hP : va_P (dC, dI) classes [((bd 0), .inr (4, [.int th, .ref (bd 1), .ref (bd 2), .ref (bd 3), .ref (bd 4), .int (nI n), .ref (bd 5), .ref (bd 6), .ref (bd 7), .ref (bd 8), .ref (bd 9), .ref (bd 10), .ref (bd 11), .ref (bd 12), .ref (bd 13), .int (nI unk), .int (nI cnt)])), ((bd 1), .inl (cI, 120, .inl (upd K n (nI q.1)))), ((bd 2), .inl (cI, 120, .inl (upd F n (fF q)))), ((bd 3), .inl (cI, 120, .inl (upd S n (fS q)))), ((bd 4), .inl (cI, 120, .inl (upd DD n ((nI (dp (ext nd n q) n)))))), ((bd 5), .inl (cI, 5, .inl NU)), ((bd 6), .inl (cI, 120, .inl VA)), ((bd 7), .inl (cI, 120, .inl BE)), ((bd 8), .inl (cI, 128, .inl WA)), ((bd 9), .inl (cI, 30, .inl LE)), ((bd 10), .inl (cI, 30, .inl AA)), ((bd 11), .inl (cI, 30, .inl RI)), ((bd 12), .inl (cI, 10, .inl UN)), ((bd 13), .inl (cZ, 30, .inl CO))] H := hP
        have hD : va_D A [((bd 0), .inr (4, [.int th, .ref (bd 1), .ref (bd 2), .ref (bd 3), .ref (bd 4), .int (nI n), .ref (bd 5), .ref (bd 6), .ref (bd 7), .ref (bd 8), .ref (bd 9), .ref (bd 10), .ref (bd 11), .ref (bd 12), .ref (bd 13), .int (nI unk), .int (nI cnt)])), ((bd 1), .inl (cI, 120, .inl (upd K n (nI q.1)))), ((bd 2), .inl (cI, 120, .inl (upd F n (fF q)))), ((bd 3), .inl (cI, 120, .inl (upd S n (fS q)))), ((bd 4), .inl (cI, 120, .inl (upd DD n ((nI (dp (ext nd n q) n)))))), ((bd 5), .inl (cI, 5, .inl NU)), ((bd 6), .inl (cI, 120, .inl VA)), ((bd 7), .inl (cI, 120, .inl BE)), ((bd 8), .inl (cI, 128, .inl WA)), ((bd 9), .inl (cI, 30, .inl LE)), ((bd 10), .inl (cI, 30, .inl AA)), ((bd 11), .inl (cI, 30, .inl RI)), ((bd 12), .inl (cI, 10, .inl UN)), ((bd 13), .inl (cZ, 30, .inl CO))] := hD
        refine lv_aload_n hx hb d_Mo_make_163 rfl (lv_at hl 1 rfl) ?_
        refine lv_dup hx hb d_Mo_make_164 rfl ?_
        refine va_get (D := (dC, dI)) (ci := 4) (v := .int (nI n)) (C := R_Mo) (T := F_Mo) (N := 17) hx hb htb ul_Mo hown hK hP 0 rfl rfl 5 (by decide) (htb _ mw_553) (fun _ h9 => h9) rfl d_Mo_make_165 ?_
        refine lv_iconst (v := 1) hx hb d_Mo_make_168 (by decide) ?_
        refine lv_iadd hx hb d_Mo_make_169 ?_
        rw [nI_1]
        refine va_put (D := (dC, dI)) (ci := 4) (v := .int (nI (n + 1))) (ty := .int) (C := R_Mo) (T := F_Mo) (N := 17) hx hb htb ul_Mo t_Mo t_Mo_ok n_Mo hown hK hP hD hS 0 rfl rfl 5 (by decide) (htb _ mw_553) (fun _ h9 => h9) rfl (by decide +kernel) rfl rfl (Nat.le_of_ble_eq_true rfl) d_Mo_make_170 (fun H locs hP hD hS => ?_)
        have hP : va_P (dC, dI) classes [((bd 0), .inr (4, [.int th, .ref (bd 1), .ref (bd 2), .ref (bd 3), .ref (bd 4), .int (nI (n + 1)), .ref (bd 5), .ref (bd 6), .ref (bd 7), .ref (bd 8), .ref (bd 9), .ref (bd 10), .ref (bd 11), .ref (bd 12), .ref (bd 13), .int (nI unk), .int (nI cnt)])), ((bd 1), .inl (cI, 120, .inl (upd K n (nI q.1)))), ((bd 2), .inl (cI, 120, .inl (upd F n (fF q)))), ((bd 3), .inl (cI, 120, .inl (upd S n (fS q)))), ((bd 4), .inl (cI, 120, .inl (upd DD n ((nI (dp (ext nd n q) n)))))), ((bd 5), .inl (cI, 5, .inl NU)), ((bd 6), .inl (cI, 120, .inl VA)), ((bd 7), .inl (cI, 120, .inl BE)), ((bd 8), .inl (cI, 128, .inl WA)), ((bd 9), .inl (cI, 30, .inl LE)), ((bd 10), .inl (cI, 30, .inl AA)), ((bd 11), .inl (cI, 30, .inl RI)), ((bd 12), .inl (cI, 10, .inl UN)), ((bd 13), .inl (cZ, 30, .inl CO))] H := hP
        have hD : va_D A [((bd 0), .inr (4, [.int th, .ref (bd 1), .ref (bd 2), .ref (bd 3), .ref (bd 4), .int (nI (n + 1)), .ref (bd 5), .ref (bd 6), .ref (bd 7), .ref (bd 8), .ref (bd 9), .ref (bd 10), .ref (bd 11), .ref (bd 12), .ref (bd 13), .int (nI unk), .int (nI cnt)])), ((bd 1), .inl (cI, 120, .inl (upd K n (nI q.1)))), ((bd 2), .inl (cI, 120, .inl (upd F n (fF q)))), ((bd 3), .inl (cI, 120, .inl (upd S n (fS q)))), ((bd 4), .inl (cI, 120, .inl (upd DD n ((nI (dp (ext nd n q) n)))))), ((bd 5), .inl (cI, 5, .inl NU)), ((bd 6), .inl (cI, 120, .inl VA)), ((bd 7), .inl (cI, 120, .inl BE)), ((bd 8), .inl (cI, 128, .inl WA)), ((bd 9), .inl (cI, 30, .inl LE)), ((bd 10), .inl (cI, 30, .inl AA)), ((bd 11), .inl (cI, 30, .inl RI)), ((bd 12), .inl (cI, 10, .inl UN)), ((bd 13), .inl (cZ, 30, .inl CO))] := hD
        refine lv_aload_n hx hb d_Mo_make_173 rfl (lv_at hl 1 rfl) ?_
        refine va_get (D := (dC, dI)) (ci := 4) (v := .int (nI (n + 1))) (C := R_Mo) (T := F_Mo) (N := 17) hx hb htb ul_Mo hown hK hP 0 rfl rfl 5 (by decide) (htb _ mw_553) (fun _ h9 => h9) rfl d_Mo_make_174 ?_
        refine lv_iconst (v := 1) hx hb d_Mo_make_177 (by decide) ?_
        refine lv_isub hx hb d_Mo_make_178 ?_
        rw [nI_pred]
        exact W.iret (v := (nI n)) hx hb hr (fun t ht hW => ⟨⟨(nI n), ((upd K n (nI q.1)), (upd F n (fF q)), (upd S n (fS q)), (upd DD n (nI (dp (ext nd n q) n))), n + 1), rfl, ⟨ext nd n q, Or.inl (Or.inr ⟨hnew, hn1, hdd, rfl, rfl, rfl⟩), ext_mo hok hq hn1 hnew hdd⟩, by rw [ht]; exact hP, va_K.moved hW.alike hK, hD⟩, hS.F ht⟩) hS.2.2 d_Mo_make_179
    · refine lv_iconst (v := (-1)) hx hb d_Mo_make_63 (by decide) ?_
      exact W.iret (v := (-1)) hx hb hr (fun t ht hW => ⟨⟨(-1), (K, F, S, DD, n), rfl, ⟨nd, Or.inr ⟨hnew, (nI_eq (b := 120) (by omega) (by decide)).mp c_60, rfl, rfl, rfl⟩, hok⟩, by rw [ht]; exact hP, va_K.moved hW.alike hK, hD⟩, hS.F ht⟩) hS.2.2 d_Mo_make_64
