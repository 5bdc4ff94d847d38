set_option maxHeartbeats 4000000 in
set_option maxRecDepth 100000 in
theorem c_Pt_at (l : Launch) (bb : Nat → Nat) (hbb : byt bb) (i : Nat) (hi : i < 6) : Met l y_Pt_at (cw_Pt_at :: tb) (rmH 1 0 0) (va_Pc [.long (en bb), .int (nI i)] (fun _ => True)) (ry_S ry_i (fun r => r = nI (bb i) - 1)) 0 0 (fun _ => False) := by
  refine Met.ofW (cc := b_Pt_at) (maxL := 3) (ret := (some .int)) (by decide +kernel) rfl ?_
  intro p e s m args below meth c s₁ B hml0 hv
  have C0 := cx_of B hml0 rfl
  obtain ⟨hx, hb, hr, hml, hown, htb, hlocks⟩ := id C0
  obtain ⟨rfl, -⟩ := hv
  have hl := lv_entry ([.long (en bb), .int (nI i)]) (n := 3) (Nat.le_of_ble_eq_true rfl)
  rw [lg_entry_eq]
  generalize (lg_sl ([.long (en bb), .int (nI i)]) ++ List.replicate (3 - (lg_sl ([.long (en bb), .int (nI i)])).length) Slot.unset).toArray = ls at hl ⊢
  have hl : lv_has ls 3 [(0, .long (en bb)), (2, .int (nI i))] := hl
  refine lv_lload_n hx hb d_Pt_at_0 rfl (lv_at hl 0 rfl) ?_
  refine lv_iload_n hx hb d_Pt_at_1 rfl (lv_at hl 1 rfl) ?_
  refine lv_bipush (v := 8) hx hb d_Pt_at_2 (by decide) ?_
  refine lv_imul hx hb d_Pt_at_4 ?_
  refine lv_lushr hx hb d_Pt_at_5 rfl ?_
  refine lv_ldc2 (v := 255) hx hb hown (htb _ mw_352) d_Pt_at_6 ?_
  refine lv_land hx hb d_Pt_at_9 ?_
  refine lv_l2i hx hb d_Pt_at_10 rfl ?_
  refine lv_iconst (v := 1) hx hb d_Pt_at_11 (by decide) ?_
  refine lv_isub hx hb d_Pt_at_12 ?_
  exact W.iret (v := ((((((en bb) : Int64).toUInt64 >>> ((((nI i) * 8) : Int32).toInt64.toUInt64 &&& Int64.toUInt64 63)).toInt64 &&& 255) : Int64).toInt32 - 1)) hx hb hr (fun t ht hW => ⟨((((((en bb) : Int64).toUInt64 >>> ((((nI i) * 8) : Int32).toInt64.toUInt64 &&& Int64.toUInt64 63)).toInt64 &&& 255) : Int64).toInt32 - 1), rfl, pa_en hbb hi, ht⟩) (fun _ h => by cases h) d_Pt_at_13

set_option maxHeartbeats 4000000 in
set_option maxRecDepth 100000 in
theorem c_Pt_only (l : Launch) (i x : Nat) (hi : i < 6) (hx_ : x < 128) : Met l y_Pt_only (cw_Pt_only :: tb) (rmH 1 0 0) (va_Pc [.int (nI i), .int (nI x - 1)] (fun _ => True)) (ry_S ry_l (fun r => r = lN (x * 256 ^ i))) 0 0 (fun _ => False) := by
  refine Met.ofW (cc := b_Pt_only) (maxL := 2) (ret := (some .long)) (by decide +kernel) rfl ?_
  intro p e s m args below meth c s₁ B hml0 hv
  have C0 := cx_of B hml0 rfl
  obtain ⟨hx, hb, hr, hml, hown, htb, hlocks⟩ := id C0
  obtain ⟨rfl, -⟩ := hv
  have hl := lv_entry ([.int (nI i), .int (nI x - 1)]) (n := 2) (Nat.le_of_ble_eq_true rfl)
  rw [lg_entry_eq]
  generalize (lg_sl ([.int (nI i), .int (nI x - 1)]) ++ List.replicate (2 - (lg_sl ([.int (nI i), .int (nI x - 1)])).length) Slot.unset).toArray = ls at hl ⊢
  have hl : lv_has ls 2 [(0, .int (nI i)), (1, .int (nI x - 1))] := hl
  refine lv_iload_n hx hb d_Pt_only_0 rfl (lv_at hl 1 rfl) ?_
  refine lv_iconst (v := 1) hx hb d_Pt_only_1 (by decide) ?_
  refine lv_iadd hx hb d_Pt_only_2 ?_
  refine lv_i2l hx hb d_Pt_only_3 rfl ?_
  refine lv_iload_n hx hb d_Pt_only_4 rfl (lv_at hl 0 rfl) ?_
  refine lv_bipush (v := 8) hx hb d_Pt_only_5 (by decide) ?_
  refine lv_imul hx hb d_Pt_only_7 ?_
  refine lv_lshl hx hb d_Pt_only_8 rfl ?_
  exact W.lret (v := ((((nI x - 1) + 1) : Int32).toInt64 <<< ((((nI i) * 8) : Int32).toInt64 &&& 63))) hx hb hr (fun t ht hW => ⟨((((nI x - 1) + 1) : Int32).toInt64 <<< ((((nI i) * 8) : Int32).toInt64 &&& 63)), rfl, ol_en hx_ hi, ht⟩) (fun _ h => by cases h) d_Pt_only_9

set_option maxHeartbeats 4000000 in
set_option maxRecDepth 100000 in
theorem lp_Pt_raised {p : Program} {l : Launch} {e : Env} {s : State} {m : MethodId} {args : Array Value} {below : List Frame} {meth : Method} {c : Code} {H : Heap} {locs : List Loc} {Q : State → Prop} (C0 : cx p s m args meth c b_Pt_raised 6 (some .long) R_Pt)  (bb : Nat → Nat) (hbb : byt bb) (hb1 : ∀ i, i < 6 → bb i < 127) :
    ∀ (n : Nat) (k : Nat), 7 ≤ k + n ∧ k ≤ 6 → ∀ (ls : Array Slot), lv_has ls 6 [(0, .long (en bb)), (2, .long (lN (es (ra bb) k))), (4, .int (nI k))] → (∀  (ls : Array Slot),  lv_has ls 6 [(0, .long (en bb)), (2, .long (en (ra bb)))] → W p l e (rmH 2 0 0) s m args below meth c H locs 0 0 Q (F0 m 43 ls [])) → W p l e (rmH 2 0 0) s m args below meth c H locs 0 0 Q (F0 m 5 ls []) := by
  obtain ⟨hx, hb, hr, hml, hown, htb, hlocks⟩ := id C0
  intro n
  induction n with
  | zero =>
    intro k hk; omega
  | succ n ih =>
    intro k hk ls hl K
    refine lv_iload hx hb d_Pt_raised_5 (lv_at hl 2 rfl) ?_
    refine lv_iconst (v := 5) hx hb d_Pt_raised_7 (by decide) ?_
    refine lv_icmp_gt (tgt := 43) hx hb d_Pt_raised_8 (by decide) (fun c_8 => ?_) (fun c_8 => ?_)
    · have e6 : k = 6 := by have := (nI_ltI (a := 5) (b := k) (by decide) (by omega)).mp c_8; omega
      subst e6
      exact K ls (lv_sub hl [0, 1] rfl)
    · have hk5 : ¬ 5 < k := fun z => c_8 ((nI_ltI (a := 5) (b := k) (by decide) (by omega)).mpr z)
      have hbk := hb1 k (by omega)
      refine lv_lload_n hx hb d_Pt_raised_11 rfl (lv_at hl 0 rfl) ?_
      refine lv_iload hx hb d_Pt_raised_12 (lv_at hl 2 rfl) ?_
      refine ry_callS (n := 2) (As := [.long (en bb), .int (nI k)]) (rest := []) ⟨hx, hb, hml, hown, htb⟩ (c_Pt_at l bb hbb k (by omega)) (gS mw_349 mw_350 mw_12 mc_Pt_at) rfl rfl (by decide +kernel) ⟨Nat.le_of_ble_eq_true rfl, Nat.le_of_ble_eq_true rfl⟩ rfl hl.1 rfl (Nat.le_of_ble_eq_true rfl) d_Pt_raised_14 ⟨Nat.zero_le _, Nat.zero_le _⟩ (fun r_1 hr_1 => ?_)
      subst hr_1
      refine W.eq (g2 := F0 m 17 ls [.int (nI (bb k) - 1)]) rfl ?_
      refine lv_istore (lv' := [(5, .int (nI (bb k) - 1)), (0, .long (en bb)), (2, .long (lN (es (ra bb) k))), (4, .int (nI k))]) hx hb d_Pt_raised_17 hl (by decide) rfl (fun ls hl => ?_)
      refine lv_iload hx hb d_Pt_raised_19 (lv_at hl 0 rfl) ?_
      refine lv_iconst (v := (-1)) hx hb d_Pt_raised_21 (by decide) ?_
      refine lv_icmp_eq (tgt := 37) hx hb d_Pt_raised_22 (by decide) (fun c_22 => ?_) (fun c_22 => ?_)
      · have h0 : bb k = 0 := (m1_none (by omega)).mp c_22
        have e9 : es (ra bb) (k + 1) = es (ra bb) k := by show es (ra bb) k + ra bb k * 256 ^ k = _; rw [ra, if_pos h0]; omega
        rw [← e9] at hl
        refine lv_iinc (v := (nI (k + 1))) (lv' := [(4, .int (nI (k + 1))), (5, .int (nI (bb k) - 1)), (0, .long (en bb)), (2, .long (lN (es (ra bb) (k + 1))))]) hx hb d_Pt_raised_37 hl (k := 3) rfl (nI_1 _) (by decide) rfl (fun ls hl => ?_)
        refine lv_goto (tgt := 5) hx hb d_Pt_raised_40 (by decide) ?_
        exact ih (k + 1) (by omega) ls (lv_sub hl [2, 3, 0] rfl) K
      · have h0 : ¬ bb k = 0 := fun z => c_22 ((m1_none (by omega)).mpr z)
        refine lv_lload_n hx hb d_Pt_raised_25 rfl (lv_at hl 2 rfl) ?_
        refine lv_iload hx hb d_Pt_raised_26 (lv_at hl 3 rfl) ?_
        refine lv_iload hx hb d_Pt_raised_28 (lv_at hl 0 rfl) ?_
        refine lv_iconst (v := 1) hx hb d_Pt_raised_30 (by decide) ?_
        refine lv_iadd hx hb d_Pt_raised_31 ?_
        rw [m1_p1 (by omega)]
        refine ry_callS (n := 2) (As := [.int (nI k), .int (nI (bb k + 1) - 1)]) (rest := [.long (lN (es (ra bb) k))]) ⟨hx, hb, hml, hown, htb⟩ (c_Pt_only l k (bb k + 1) (by omega) (by omega)) (gS mw_353 mw_340 mw_12 mc_Pt_only) rfl rfl (by decide +kernel) ⟨Nat.le_of_ble_eq_true rfl, Nat.le_of_ble_eq_true rfl⟩ rfl hl.1 rfl (Nat.le_of_ble_eq_true rfl) d_Pt_raised_32 ⟨Nat.zero_le _, Nat.zero_le _⟩ (fun r_2 hr_2 => ?_)
        subst hr_2
        refine W.eq (g2 := F0 m 35 ls [.long (lN ((bb k + 1) * 256 ^ k)), .long (lN (es (ra bb) k))]) rfl ?_
        refine lv_lor hx hb d_Pt_raised_35 ?_
        refine lv_topl (fun x_3 ex_3 => ?_)
        rw [show (lN (es (ra bb) k) ||| lN ((bb k + 1) * 256 ^ k)) = lN (es (ra bb) (k + 1)) from by rw [← or_es (ra_byt hbb hb1) (by omega), ra, if_neg h0]] at ex_3
        subst ex_3
        refine lv_lstore_n (lv' := [(2, .long (lN (es (ra bb) (k + 1)))), (5, .int (nI (bb k) - 1)), (0, .long (en bb)), (4, .int (nI k))]) hx hb d_Pt_raised_36 rfl hl (by decide) rfl (fun ls hl => ?_)
        refine lv_iinc (v := (nI (k + 1))) (lv' := [(4, .int (nI (k + 1))), (2, .long (lN (es (ra bb) (k + 1)))), (5, .int (nI (bb k) - 1)), (0, .long (en bb))]) hx hb d_Pt_raised_37 hl (k := 3) rfl (nI_1 _) (by decide) rfl (fun ls hl => ?_)
        refine lv_goto (tgt := 5) hx hb d_Pt_raised_40 (by decide) ?_
        exact ih (k + 1) (by omega) ls (lv_sub hl [3, 1, 0] rfl) K

set_option maxHeartbeats 4000000 in
set_option maxRecDepth 100000 in
theorem c_Pt_raised (l : Launch) (bb : Nat → Nat) (hbb : byt bb) (hb1 : ∀ i, i < 6 → bb i < 127) : Met l y_Pt_raised (cw_Pt_raised :: tb) (rmH 2 0 0) (va_Pc [.long (en bb)] (fun _ => True)) (ry_S ry_l (fun r => r = en (ra bb))) 0 0 (fun _ => False) := by
  refine Met.ofW (cc := b_Pt_raised) (maxL := 6) (ret := (some .long)) (by decide +kernel) rfl ?_
  intro p e s m args below meth c s₁ B hml0 hv
  have C0 := cx_of B hml0 rfl
  obtain ⟨hx, hb, hr, hml, hown, htb, hlocks⟩ := id C0
  obtain ⟨rfl, -⟩ := hv
  have hl := lv_entry ([.long (en bb)]) (n := 6) (Nat.le_of_ble_eq_true rfl)
  rw [lg_entry_eq]
  generalize (lg_sl ([.long (en bb)]) ++ List.replicate (6 - (lg_sl ([.long (en bb)])).length) Slot.unset).toArray = ls at hl ⊢
  have hl : lv_has ls 6 [(0, .long (en bb))] := hl
  refine lv_lconst (v := 0) hx hb d_Pt_raised_0 (by decide) ?_
  refine lv_lstore_n (lv' := [(2, .long 0), (0, .long (en bb))]) hx hb d_Pt_raised_1 rfl hl (by decide) rfl (fun ls hl => ?_)
  refine lv_iconst (v := 0) hx hb d_Pt_raised_2 (by decide) ?_
  refine lv_istore (lv' := [(4, .int 0), (2, .long 0), (0, .long (en bb))]) hx hb d_Pt_raised_3 hl (by decide) rfl (fun ls hl => ?_)
  refine lp_Pt_raised C0 bb hbb hb1 7 0 (by omega) ls (lv_sub hl [2, 1, 0] rfl) (fun ls hl => ?_)
  refine lv_lload_n hx hb d_Pt_raised_43 rfl (lv_at hl 1 rfl) ?_
  exact W.lret (v := (en (ra bb))) hx hb hr (fun t ht hW => ⟨(en (ra bb)), rfl, rfl, ht⟩) (fun _ h => by cases h) d_Pt_raised_44

set_option maxHeartbeats 4000000 in
set_option maxRecDepth 100000 in
theorem c_Pt_vanish (l : Launch) (bb : Nat → Nat) (hbb : byt bb) : Met l y_Pt_vanish (cw_Pt_vanish :: tb) (rmH 2 0 0) (va_Pc [.long (en bb)] (fun _ => True)) (ry_S ry_i (fun r => r = if bb 5 = 1 then 1 else 0)) 0 0 (fun _ => False) := by
  refine Met.ofW (cc := b_Pt_vanish) (maxL := 2) (ret := (some .boolean)) (by decide +kernel) rfl ?_
  intro p e s m args below meth c s₁ B hml0 hv
  have C0 := cx_of B hml0 rfl
  obtain ⟨hx, hb, hr, hml, hown, htb, hlocks⟩ := id C0
  obtain ⟨rfl, -⟩ := hv
  have hl := lv_entry ([.long (en bb)]) (n := 2) (Nat.le_of_ble_eq_true rfl)
  rw [lg_entry_eq]
  generalize (lg_sl ([.long (en bb)]) ++ List.replicate (2 - (lg_sl ([.long (en bb)])).length) Slot.unset).toArray = ls at hl ⊢
  have hl : lv_has ls 2 [(0, .long (en bb))] := hl
  obtain ⟨q0, q1, q2, q3, q4, q5⟩ := byt_all hbb
  refine lv_lload_n hx hb d_Pt_vanish_0 rfl (lv_at hl 0 rfl) ?_
  refine lv_iconst (v := 5) hx hb d_Pt_vanish_1 (by decide) ?_
  refine ry_callS (n := 2) (As := [.long (en bb), .int 5]) (rest := []) ⟨hx, hb, hml, hown, htb⟩ (c_Pt_at l bb hbb 5 (by decide)) (gS mw_349 mw_350 mw_12 mc_Pt_at) rfl rfl (by decide +kernel) ⟨Nat.le_of_ble_eq_true rfl, Nat.le_of_ble_eq_true rfl⟩ rfl hl.1 rfl (Nat.le_of_ble_eq_true rfl) d_Pt_vanish_2 ⟨Nat.zero_le _, Nat.zero_le _⟩ (fun r_1 hr_1 => ?_)
  subst hr_1
  refine W.eq (g2 := F0 m 5 ls [.int (nI (bb 5) - 1)]) rfl ?_
  refine lv_if_ne (tgt := 12) hx hb d_Pt_vanish_5 (by decide) (fun c_5 => ?_) (fun c_5 => ?_)
  · refine lv_iconst (v := 0) hx hb d_Pt_vanish_12 (by decide) ?_
    exact W.zret (v := 0) hx hb hr rfl (fun t ht hW => ⟨0, rfl, (by rw [if_neg (fun z => c_5 ((m1_zero (by omega)).mpr z))]), ht⟩) (fun _ h => by cases h) d_Pt_vanish_13
  · refine lv_iconst (v := 1) hx hb d_Pt_vanish_8 (by decide) ?_
    refine lv_goto (tgt := 13) hx hb d_Pt_vanish_9 (by decide) ?_
    exact W.zret (v := 1) hx hb hr rfl (fun t ht hW => ⟨1, rfl, (by rw [if_pos ((m1_zero (by omega)).mp c_5)]), ht⟩) (fun _ h => by cases h) d_Pt_vanish_13

set_option maxHeartbeats 4000000 in
set_option maxRecDepth 100000 in
theorem c_Pt_valueAtOnes (l : Launch) (bb : Nat → Nat) (hbb : byt bb) : Met l y_Pt_valueAtOnes (cw_Pt_valueAtOnes :: tb) (rmH 2 0 0) (va_Pc [.long (en bb)] (fun _ => True)) (ry_S ry_i (fun r => r = nI (vo bb))) 0 0 (fun _ => False) := by
  refine Met.ofW (cc := b_Pt_valueAtOnes) (maxL := 4) (ret := (some .int)) (by decide +kernel) rfl ?_
  intro p e s m args below meth c s₁ B hml0 hv
  have C0 := cx_of B hml0 rfl
  obtain ⟨hx, hb, hr, hml, hown, htb, hlocks⟩ := id C0
  obtain ⟨rfl, -⟩ := hv
  have hl := lv_entry ([.long (en bb)]) (n := 4) (Nat.le_of_ble_eq_true rfl)
  rw [lg_entry_eq]
  generalize (lg_sl ([.long (en bb)]) ++ List.replicate (4 - (lg_sl ([.long (en bb)])).length) Slot.unset).toArray = ls at hl ⊢
  have hl : lv_has ls 4 [(0, .long (en bb))] := hl
  obtain ⟨q0, q1, q2, q3, q4, q5⟩ := byt_all hbb
  refine lv_lload_n hx hb d_Pt_valueAtOnes_0 rfl (lv_at hl 0 rfl) ?_
  refine lv_iconst (v := 5) hx hb d_Pt_valueAtOnes_1 (by decide) ?_
  refine ry_callS (n := 2) (As := [.long (en bb), .int 5]) (rest := []) ⟨hx, hb, hml, hown, htb⟩ (c_Pt_at l bb hbb 5 (by decide)) (gS mw_349 mw_350 mw_12 mc_Pt_at) rfl rfl (by decide +kernel) ⟨Nat.le_of_ble_eq_true rfl, Nat.le_of_ble_eq_true rfl⟩ rfl hl.1 rfl (Nat.le_of_ble_eq_true rfl) d_Pt_valueAtOnes_2 ⟨Nat.zero_le _, Nat.zero_le _⟩ (fun r_1 hr_1 => ?_)
  subst hr_1
  refine W.eq (g2 := F0 m 5 ls [.int (nI (bb 5) - 1)]) rfl ?_
  refine lv_istore_n (lv' := [(2, .int (nI (bb 5) - 1)), (0, .long (en bb))]) hx hb d_Pt_valueAtOnes_5 rfl hl (by decide) rfl (fun ls hl => ?_)
  refine lv_iconst (v := 0) hx hb d_Pt_valueAtOnes_6 (by decide) ?_
  refine lv_istore_n (lv' := [(3, .int 0), (2, .int (nI (bb 5) - 1)), (0, .long (en bb))]) hx hb d_Pt_valueAtOnes_7 rfl hl (by decide) rfl (fun ls hl => ?_)
  refine lv_iload_n hx hb d_Pt_valueAtOnes_8 rfl (lv_at hl 0 rfl) ?_
  refine lv_iconst (v := 5) hx hb d_Pt_valueAtOnes_9 (by decide) ?_
  refine lv_icmp_ge (tgt := 31) hx hb d_Pt_valueAtOnes_10 (by decide) (fun c_10 => ?_) (fun c_10 => ?_)
  · exact absurd c_10 (by decide)
  · refine lv_iload_n hx hb d_Pt_valueAtOnes_13 rfl (lv_at hl 1 rfl) ?_
    refine lv_lload_n hx hb d_Pt_valueAtOnes_14 rfl (lv_at hl 2 rfl) ?_
    refine lv_iload_n hx hb d_Pt_valueAtOnes_15 rfl (lv_at hl 0 rfl) ?_
    refine ry_callS (n := 2) (As := [.long (en bb), .int 0]) (rest := [.int (nI (bb 5) - 1)]) ⟨hx, hb, hml, hown, htb⟩ (c_Pt_at l bb hbb 0 (by decide)) (gS mw_349 mw_350 mw_12 mc_Pt_at) rfl rfl (by decide +kernel) ⟨Nat.le_of_ble_eq_true rfl, Nat.le_of_ble_eq_true rfl⟩ rfl hl.1 rfl (Nat.le_of_ble_eq_true rfl) d_Pt_valueAtOnes_16 ⟨Nat.zero_le _, Nat.zero_le _⟩ (fun r_2 hr_2 => ?_)
    subst hr_2
    refine W.eq (g2 := F0 m 19 ls [.int (nI (bb 0) - 1), .int (nI (bb 5) - 1)]) rfl ?_
    refine lv_iconst (v := 1) hx hb d_Pt_valueAtOnes_19 (by decide) ?_
    refine lv_iadd hx hb d_Pt_valueAtOnes_20 ?_
    rw [m1_add]
    refine va_mmax hx hb (by rw [hml]; exact hl.1.symm) hown (htb _ mw_357) (htb _ mw_145) (htb _ mw_11) (htb _ mc_max) (Nat.le_of_ble_eq_true rfl) (Nat.le_of_ble_eq_true rfl) (Nat.zero_le _) (Nat.zero_le _) d_Pt_valueAtOnes_21 ?_
    refine lv_topi (fun x_3 ex_3 => ?_)
    rw [m1_maxn (by omega) (by omega)] at ex_3
    subst ex_3
    refine lv_istore_n (lv' := [(2, .int (nI (max (bb 5 - 1) (bb 0)))), (3, .int 0), (0, .long (en bb))]) hx hb d_Pt_valueAtOnes_24 rfl hl (by decide) rfl (fun ls hl => ?_)
    refine lv_iinc (v := 1) (lv' := [(3, .int 1), (2, .int (nI (max (bb 5 - 1) (bb 0)))), (0, .long (en bb))]) hx hb d_Pt_valueAtOnes_25 hl (k := 1) rfl (by first | rfl | decide) (by decide) rfl (fun ls hl => ?_)
    refine lv_goto (tgt := 8) hx hb d_Pt_valueAtOnes_28 (by decide) ?_
    refine lv_iload_n hx hb d_Pt_valueAtOnes_8 rfl (lv_at hl 0 rfl) ?_
    refine lv_iconst (v := 5) hx hb d_Pt_valueAtOnes_9 (by decide) ?_
    refine lv_icmp_ge (tgt := 31) hx hb d_Pt_valueAtOnes_10 (by decide) (fun c_10 => ?_) (fun c_10 => ?_)
    · exact absurd c_10 (by decide)
    · refine lv_iload_n hx hb d_Pt_valueAtOnes_13 rfl (lv_at hl 1 rfl) ?_
      refine lv_lload_n hx hb d_Pt_valueAtOnes_14 rfl (lv_at hl 2 rfl) ?_
      refine lv_iload_n hx hb d_Pt_valueAtOnes_15 rfl (lv_at hl 0 rfl) ?_
      refine ry_callS (n := 2) (As := [.long (en bb), .int 1]) (rest := [.int (nI (max (bb 5 - 1) (bb 0)))]) ⟨hx, hb, hml, hown, htb⟩ (c_Pt_at l bb hbb 1 (by decide)) (gS mw_349 mw_350 mw_12 mc_Pt_at) rfl rfl (by decide +kernel) ⟨Nat.le_of_ble_eq_true rfl, Nat.le_of_ble_eq_true rfl⟩ rfl hl.1 rfl (Nat.le_of_ble_eq_true rfl) d_Pt_valueAtOnes_16 ⟨Nat.zero_le _, Nat.zero_le _⟩ (fun r_4 hr_4 => ?_)
      subst hr_4
      refine W.eq (g2 := F0 m 19 ls [.int (nI (bb 1) - 1), .int (nI (max (bb 5 - 1) (bb 0)))]) rfl ?_
      refine lv_iconst (v := 1) hx hb d_Pt_valueAtOnes_19 (by decide) ?_
      refine lv_iadd hx hb d_Pt_valueAtOnes_20 ?_
      rw [m1_add]
      refine va_mmax hx hb (by rw [hml]; exact hl.1.symm) hown (htb _ mw_357) (htb _ mw_145) (htb _ mw_11) (htb _ mc_max) (Nat.le_of_ble_eq_true rfl) (Nat.le_of_ble_eq_true rfl) (Nat.zero_le _) (Nat.zero_le _) d_Pt_valueAtOnes_21 ?_
      refine lv_topi (fun x_5 ex_5 => ?_)
      rw [nI_max (by omega) (by omega)] at ex_5
      subst ex_5
      refine lv_istore_n (lv' := [(2, .int (nI (max (max (bb 5 - 1) (bb 0)) (bb 1)))), (3, .int 1), (0, .long (en bb))]) hx hb d_Pt_valueAtOnes_24 rfl hl (by decide) rfl (fun ls hl => ?_)
      refine lv_iinc (v := 2) (lv' := [(3, .int 2), (2, .int (nI (max (max (bb 5 - 1) (bb 0)) (bb 1)))), (0, .long (en bb))]) hx hb d_Pt_valueAtOnes_25 hl (k := 1) rfl (by first | rfl | decide) (by decide) rfl (fun ls hl => ?_)
      refine lv_goto (tgt := 8) hx hb d_Pt_valueAtOnes_28 (by decide) ?_
      refine lv_iload_n hx hb d_Pt_valueAtOnes_8 rfl (lv_at hl 0 rfl) ?_
      refine lv_iconst (v := 5) hx hb d_Pt_valueAtOnes_9 (by decide) ?_
      refine lv_icmp_ge (tgt := 31) hx hb d_Pt_valueAtOnes_10 (by decide) (fun c_10 => ?_) (fun c_10 => ?_)
      · exact absurd c_10 (by decide)
      · refine lv_iload_n hx hb d_Pt_valueAtOnes_13 rfl (lv_at hl 1 rfl) ?_
        refine lv_lload_n hx hb d_Pt_valueAtOnes_14 rfl (lv_at hl 2 rfl) ?_
        refine lv_iload_n hx hb d_Pt_valueAtOnes_15 rfl (lv_at hl 0 rfl) ?_
        refine ry_callS (n := 2) (As := [.long (en bb), .int 2]) (rest := [.int (nI (max (max (bb 5 - 1) (bb 0)) (bb 1)))]) ⟨hx, hb, hml, hown, htb⟩ (c_Pt_at l bb hbb 2 (by decide)) (gS mw_349 mw_350 mw_12 mc_Pt_at) rfl rfl (by decide +kernel) ⟨Nat.le_of_ble_eq_true rfl, Nat.le_of_ble_eq_true rfl⟩ rfl hl.1 rfl (Nat.le_of_ble_eq_true rfl) d_Pt_valueAtOnes_16 ⟨Nat.zero_le _, Nat.zero_le _⟩ (fun r_6 hr_6 => ?_)
        subst hr_6
        refine W.eq (g2 := F0 m 19 ls [.int (nI (bb 2) - 1), .int (nI (max (max (bb 5 - 1) (bb 0)) (bb 1)))]) rfl ?_
        refine lv_iconst (v := 1) hx hb d_Pt_valueAtOnes_19 (by decide) ?_
        refine lv_iadd hx hb d_Pt_valueAtOnes_20 ?_
        rw [m1_add]
        refine va_mmax hx hb (by rw [hml]; exact hl.1.symm) hown (htb _ mw_357) (htb _ mw_145) (htb _ mw_11) (htb _ mc_max) (Nat.le_of_ble_eq_true rfl) (Nat.le_of_ble_eq_true rfl) (Nat.zero_le _) (Nat.zero_le _) d_Pt_valueAtOnes_21 ?_
        refine lv_topi (fun x_7 ex_7 => ?_)
        rw [nI_max (by omega) (by omega)] at ex_7
        subst ex_7
        refine lv_istore_n (lv' := [(2, .int (nI (max (max (max (bb 5 - 1) (bb 0)) (bb 1)) (bb 2)))), (3, .int 2), (0, .long (en bb))]) hx hb d_Pt_valueAtOnes_24 rfl hl (by decide) rfl (fun ls hl => ?_)
        refine lv_iinc (v := 3) (lv' := [(3, .int 3), (2, .int (nI (max (max (max (bb 5 - 1) (bb 0)) (bb 1)) (bb 2)))), (0, .long (en bb))]) hx hb d_Pt_valueAtOnes_25 hl (k := 1) rfl (by first | rfl | decide) (by decide) rfl (fun ls hl => ?_)
        refine lv_goto (tgt := 8) hx hb d_Pt_valueAtOnes_28 (by decide) ?_
        refine lv_iload_n hx hb d_Pt_valueAtOnes_8 rfl (lv_at hl 0 rfl) ?_
        refine lv_iconst (v := 5) hx hb d_Pt_valueAtOnes_9 (by decide) ?_
        refine lv_icmp_ge (tgt := 31) hx hb d_Pt_valueAtOnes_10 (by decide) (fun c_10 => ?_) (fun c_10 => ?_)
        · exact absurd c_10 (by decide)
        · refine lv_iload_n hx hb d_Pt_valueAtOnes_13 rfl (lv_at hl 1 rfl) ?_
          refine lv_lload_n hx hb d_Pt_valueAtOnes_14 rfl (lv_at hl 2 rfl) ?_
          refine lv_iload_n hx hb d_Pt_valueAtOnes_15 rfl (lv_at hl 0 rfl) ?_
          refine ry_callS (n := 2) (As := [.long (en bb), .int 3]) (rest := [.int (nI (max (max (max (bb 5 - 1) (bb 0)) (bb 1)) (bb 2)))]) ⟨hx, hb, hml, hown, htb⟩ (c_Pt_at l bb hbb 3 (by decide)) (gS mw_349 mw_350 mw_12 mc_Pt_at) rfl rfl (by decide +kernel) ⟨Nat.le_of_ble_eq_true rfl, Nat.le_of_ble_eq_true rfl⟩ rfl hl.1 rfl (Nat.le_of_ble_eq_true rfl) d_Pt_valueAtOnes_16 ⟨Nat.zero_le _, Nat.zero_le _⟩ (fun r_8 hr_8 => ?_)
          subst hr_8
          refine W.eq (g2 := F0 m 19 ls [.int (nI (bb 3) - 1), .int (nI (max (max (max (bb 5 - 1) (bb 0)) (bb 1)) (bb 2)))]) rfl ?_
          refine lv_iconst (v := 1) hx hb d_Pt_valueAtOnes_19 (by decide) ?_
          refine lv_iadd hx hb d_Pt_valueAtOnes_20 ?_
          rw [m1_add]
          refine va_mmax hx hb (by rw [hml]; exact hl.1.symm) hown (htb _ mw_357) (htb _ mw_145) (htb _ mw_11) (htb _ mc_max) (Nat.le_of_ble_eq_true rfl) (Nat.le_of_ble_eq_true rfl) (Nat.zero_le _) (Nat.zero_le _) d_Pt_valueAtOnes_21 ?_
          refine lv_topi (fun x_9 ex_9 => ?_)
          rw [nI_max (by omega) (by omega)] at ex_9
          subst ex_9
          refine lv_istore_n (lv' := [(2, .int (nI (max (max (max (max (bb 5 - 1) (bb 0)) (bb 1)) (bb 2)) (bb 3)))), (3, .int 3), (0, .long (en bb))]) hx hb d_Pt_valueAtOnes_24 rfl hl (by decide) rfl (fun ls hl => ?_)
          refine lv_iinc (v := 4) (lv' := [(3, .int 4), (2, .int (nI (max (max (max (max (bb 5 - 1) (bb 0)) (bb 1)) (bb 2)) (bb 3)))), (0, .long (en bb))]) hx hb d_Pt_valueAtOnes_25 hl (k := 1) rfl (by first | rfl | decide) (by decide) rfl (fun ls hl => ?_)
          refine lv_goto (tgt := 8) hx hb d_Pt_valueAtOnes_28 (by decide) ?_
          refine lv_iload_n hx hb d_Pt_valueAtOnes_8 rfl (lv_at hl 0 rfl) ?_
          refine lv_iconst (v := 5) hx hb d_Pt_valueAtOnes_9 (by decide) ?_
          refine lv_icmp_ge (tgt := 31) hx hb d_Pt_valueAtOnes_10 (by decide) (fun c_10 => ?_) (fun c_10 => ?_)
          · exact absurd c_10 (by decide)
          · refine lv_iload_n hx hb d_Pt_valueAtOnes_13 rfl (lv_at hl 1 rfl) ?_
            refine lv_lload_n hx hb d_Pt_valueAtOnes_14 rfl (lv_at hl 2 rfl) ?_
            refine lv_iload_n hx hb d_Pt_valueAtOnes_15 rfl (lv_at hl 0 rfl) ?_
            refine ry_callS (n := 2) (As := [.long (en bb), .int 4]) (rest := [.int (nI (max (max (max (max (bb 5 - 1) (bb 0)) (bb 1)) (bb 2)) (bb 3)))]) ⟨hx, hb, hml, hown, htb⟩ (c_Pt_at l bb hbb 4 (by decide)) (gS mw_349 mw_350 mw_12 mc_Pt_at) rfl rfl (by decide +kernel) ⟨Nat.le_of_ble_eq_true rfl, Nat.le_of_ble_eq_true rfl⟩ rfl hl.1 rfl (Nat.le_of_ble_eq_true rfl) d_Pt_valueAtOnes_16 ⟨Nat.zero_le _, Nat.zero_le _⟩ (fun r_10 hr_10 => ?_)
            subst hr_10
            refine W.eq (g2 := F0 m 19 ls [.int (nI (bb 4) - 1), .int (nI (max (max (max (max (bb 5 - 1) (bb 0)) (bb 1)) (bb 2)) (bb 3)))]) rfl ?_
            refine lv_iconst (v := 1) hx hb d_Pt_valueAtOnes_19 (by decide) ?_
            refine lv_iadd hx hb d_Pt_valueAtOnes_20 ?_
            rw [m1_add]
            refine va_mmax hx hb (by rw [hml]; exact hl.1.symm) hown (htb _ mw_357) (htb _ mw_145) (htb _ mw_11) (htb _ mc_max) (Nat.le_of_ble_eq_true rfl) (Nat.le_of_ble_eq_true rfl) (Nat.zero_le _) (Nat.zero_le _) d_Pt_valueAtOnes_21 ?_
            refine lv_topi (fun x_11 ex_11 => ?_)
            rw [nI_max (by omega) (by omega)] at ex_11
            subst ex_11
            refine lv_istore_n (lv' := [(2, .int (nI (max (max (max (max (max (bb 5 - 1) (bb 0)) (bb 1)) (bb 2)) (bb 3)) (bb 4)))), (3, .int 4), (0, .long (en bb))]) hx hb d_Pt_valueAtOnes_24 rfl hl (by decide) rfl (fun ls hl => ?_)
            refine lv_iinc (v := 5) (lv' := [(3, .int 5), (2, .int (nI (max (max (max (max (max (bb 5 - 1) (bb 0)) (bb 1)) (bb 2)) (bb 3)) (bb 4)))), (0, .long (en bb))]) hx hb d_Pt_valueAtOnes_25 hl (k := 1) rfl (by first | rfl | decide) (by decide) rfl (fun ls hl => ?_)
            refine lv_goto (tgt := 8) hx hb d_Pt_valueAtOnes_28 (by decide) ?_
            refine lv_iload_n hx hb d_Pt_valueAtOnes_8 rfl (lv_at hl 0 rfl) ?_
            refine lv_iconst (v := 5) hx hb d_Pt_valueAtOnes_9 (by decide) ?_
            refine lv_icmp_ge (tgt := 31) hx hb d_Pt_valueAtOnes_10 (by decide) (fun c_10 => ?_) (fun c_10 => ?_)
            · refine lv_iload_n hx hb d_Pt_valueAtOnes_31 rfl (lv_at hl 1 rfl) ?_
              exact W.iret (v := (nI (max (max (max (max (max (bb 5 - 1) (bb 0)) (bb 1)) (bb 2)) (bb 3)) (bb 4)))) hx hb hr (fun t ht hW => ⟨(nI (max (max (max (max (max (bb 5 - 1) (bb 0)) (bb 1)) (bb 2)) (bb 3)) (bb 4))), rfl, rfl, ht⟩) (fun _ h => by cases h) d_Pt_valueAtOnes_32
            · exact absurd (by decide) c_10
