set_option maxHeartbeats 4000000 in
set_option maxRecDepth 100000 in
theorem c_Pt_at (l : Launch) (bb : Nat → Nat) (hbb : byt bb) (i : Nat) (hi : i < 6) : Met l y_Pt_at (cw_Pt_at :: tb) (rmH 1 0 0) (va_Pc [.long (en bb), .int (nI i)] (fun _ => True)) (ry_S ry_i (fun r => r = nI (bb i) - 1)) 0 0 (fun _ => False) := by
  refine Met.ofW (cc := b_Pt_at) (maxL := 3) (ret := (some .int)) (by decide +kernel) rfl ?_
  intro p e s m args below meth c s₁ B hml0 hv
  have C0 := cx_of B hml0 rfl
  obtain ⟨hx, hb, hr, hml, hown, htb, hlocks⟩ := id C0
  obtain ⟨rfl, -⟩ := hv
  have hl := lv_entry ([.long (en bb), .int (nI i)]) (n := 3) (Nat.le_of_ble_eq_true rfl)
  rw [lg_entry_eq]
  generalize (lg_sl ([.long (en bb), .int (nI i)]) ++ List.replicate (3 - (lg_sl ([.long (en bb), .int (nI i)])).length) Slot.unset).toArray = ls at hl ⊢
  have hl : lv_has ls 3 [(0, .long (en bb)), (2, .int (nI i))] := hl
  refine lv_lload_n hx hb d_Pt_at_0 rfl (lv_at hl 0 rfl) ?_
  refine lv_iload_n hx hb d_Pt_at_1 rfl (lv_at hl 1 rfl) ?_
  refine lv_bipush (v := 8) hx hb d_Pt_at_2 (by decide) ?_
  refine lv_imul hx hb d_Pt_at_4 ?_
  refine lv_lushr hx hb d_Pt_at_5 rfl ?_
  refine lv_ldc2 (v := 255) hx hb hown (htb _ mw_352) d_Pt_at_6 ?_
  refine lv_land hx hb d_Pt_at_9 ?_
  refine lv_l2i hx hb d_Pt_at_10 rfl ?_
  refine lv_iconst (v := 1) hx hb d_Pt_at_11 (by decide) ?_
  refine lv_isub hx hb d_Pt_at_12 ?_
  exact W.iret (v := ((((((en bb) : Int64).toUInt64 >>> ((((nI i) * 8) : Int32).toInt64.toUInt64 &&& Int64.toUInt64 63)).toInt64 &&& 255 : Int64) : Int64).toInt32 - 1)) hx hb hr (fun t ht hW => ⟨((((((en bb) : Int64).toUInt64 >>> ((((nI i) * 8) : Int32).toInt64.toUInt64 &&& Int64.toUInt64 63)).toInt64 &&& 255 : Int64) : Int64).toInt32 - 1), rfl, pa_en hbb hi, ht⟩) (fun _ h => by cases h) d_Pt_at_13

set_option maxHeartbeats 4000000 in
set_option maxRecDepth 100000 in
theorem c_Pt_only (l : Launch) (i x : Nat) (hi : i < 6) (hx_ : x < 128) : Met l y_Pt_only (cw_Pt_only :: tb) (rmH 1 0 0) (va_Pc [.int (nI i), .int (nI x - 1)] (fun _ => True)) (ry_S ry_l (fun r => r = lN (x * 256 ^ i))) 0 0 (fun _ => False) := by
  refine Met.ofW (cc := b_Pt_only) (maxL := 2) (ret := (some .long)) (by decide +kernel) rfl ?_
  intro p e s m args below meth c s₁ B hml0 hv
  have C0 := cx_of B hml0 rfl
  obtain ⟨hx, hb, hr, hml, hown, htb, hlocks⟩ := id C0
  obtain ⟨rfl, -⟩ := hv
  have hl := lv_entry ([.int (nI i), .int (nI x - 1)]) (n := 2) (Nat.le_of_ble_eq_true rfl)
  rw [lg_entry_eq]
  generalize (lg_sl ([.int (nI i), .int (nI x - 1)]) ++ List.replicate (2 - (lg_sl ([.int (nI i), .int (nI x - 1)])).length) Slot.unset).toArray = ls at hl ⊢
  have hl : lv_has ls 2 [(0, .int (nI i)), (1, .int (nI x - 1))] := hl
  refine lv_iload_n hx hb d_Pt_only_0 rfl (lv_at hl 1 rfl) ?_
  refine lv_iconst (v := 1) hx hb d_Pt_only_1 (by decide) ?_
  refine lv_iadd hx hb d_Pt_only_2 ?_
  refine lv_i2l hx hb d_Pt_only_3 rfl ?_
  refine lv_iload_n hx hb d_Pt_only_4 rfl (lv_at hl 0 rfl) ?_
  refine lv_bipush (v := 8) hx hb d_Pt_only_5 (by decide) ?_
  refine lv_imul hx hb d_Pt_only_7 ?_
  refine lv_lshl hx hb d_Pt_only_8 rfl ?_
  exact W.lret (v := ((((nI x - 1) + 1) : Int32).toInt64 <<< ((((nI i) * 8) : Int32).toInt64 &&& 63))) hx hb hr (fun t ht hW => ⟨((((nI x - 1) + 1) : Int32).toInt64 <<< ((((nI i) * 8) : Int32).toInt64 &&& 63)), rfl, ol_en hx_ hi, ht⟩) (fun _ h => by cases h) d_Pt_only_9

set_option maxHeartbeats 4000000 in
set_option maxRecDepth 100000 in
theorem lp_Pt_raised {p : Program} {l : Launch} {e : Env} {s : State} {m : MethodId} {args : Array Value} {below : List Frame} {meth : Method} {c : Code} {H : Heap} {locs : List Loc} {Q : State → Prop} (C0 : cx p s m args meth c b_Pt_raised 6 (some .long) R_Pt)  (bb : Nat → Nat) (hbb : byt bb) (hb1 : ∀ i, i < 6 → bb i < 127) :
    ∀ (n : Nat) (k : Nat), 7 ≤ k + n ∧ k ≤ 6 → ∀ (ls : Array Slot), lv_has ls 6 [(0, .long (en bb)), (2, .long (lN (es (ra bb) k))), (4, .int (nI k))] → (∀  (ls : Array Slot),  lv_has ls 6 [(0, .long (en bb)), (2, .long (en (ra bb)))] → W p l e (rmH 2 0 0) s m args below meth c H locs 0 0 Q (F0 m 43 ls [])) → W p l e (rmH 2 0 0) s m args below meth c H locs 0 0 Q (F0 m 5 ls []) := by
  obtain ⟨hx, hb, hr, hml, hown, htb, hlocks⟩ := id C0
  intro n
  induction n with
  | zero =>
    intro k hk; omega
  | succ n ih =>
    intro k hk ls hl K
    refine lv_iload hx hb d_Pt_raised_5 (lv_at hl 2 rfl) ?_
    refine lv_iconst (v := 5) hx hb d_Pt_raised_7 (by decide) ?_
    refine lv_icmp_gt (tgt := 43) hx hb d_Pt_raised_8 (by decide) (fun c_8 => ?_) (fun c_8 => ?_)
    · have e6 : k = 6 := by have := (nI_ltI (a := 5) (b := k) (by decide) (by omega)).mp c_8; omega
      subst e6
      exact K ls (lv_sub hl [0, 1] rfl)
    · have hk5 : ¬ 5 < k := fun z => c_8 ((nI_ltI (a := 5) (b := k) (by decide) (by omega)).mpr z)
      have hbk := hb1 k (by omega)
      refine lv_lload_n hx hb d_Pt_raised_11 rfl (lv_at hl 0 rfl) ?_
      refine lv_iload hx hb d_Pt_raised_12 (lv_at hl 2 rfl) ?_
      refine ry_callS (n := 2) (As := [.long (en bb), .int (nI k)]) (rest := []) ⟨hx, hb, hml, hown, htb⟩ (c_Pt_at l bb hbb k (by omega)) (gS mw_349 mw_350 mw_12 mc_Pt_at) rfl rfl (by decide +kernel) ⟨Nat.le_of_ble_eq_true rfl, Nat.le_of_ble_eq_true rfl⟩ rfl hl.1 rfl (Nat.le_of_ble_eq_true rfl) d_Pt_raised_14 ⟨Nat.zero_le _, Nat.zero_le _⟩ (fun r_1 hr_1 => ?_)
      subst hr_1
      refine W.eq (g2 := F0 m 17 ls [.int (nI (bb k) - 1)]) rfl ?_
      refine lv_istore (lv' := [(5, .int (nI (bb k) - 1)), (0, .long (en bb)), (2, .long (lN (es (ra bb) k))), (4, .int (nI k))]) hx hb d_Pt_raised_17 hl (by decide) rfl (fun ls hl => ?_)
      refine lv_iload hx hb d_Pt_raised_19 (lv_at hl 0 rfl) ?_
      refine lv_iconst (v := (-1)) hx hb d_Pt_raised_21 (by decide) ?_
      refine lv_icmp_eq (tgt := 37) hx hb d_Pt_raised_22 (by decide) (fun c_22 => ?_) (fun c_22 => ?_)
      · have h0 : bb k = 0 := (m1_none (by omega)).mp c_22
        have e9 : es (ra bb) (k + 1) = es (ra bb) k := by show es (ra bb) k + ra bb k * 256 ^ k = _; rw [ra, if_pos h0]; omega
        rw [← e9] at hl
        refine lv_iinc (v := (nI (k + 1))) (lv' := [(4, .int (nI (k + 1))), (5, .int (nI (bb k) - 1)), (0, .long (en bb)), (2, .long (lN (es (ra bb) (k + 1))))]) hx hb d_Pt_raised_37 hl (k := 3) rfl (nI_1 _) (by decide) rfl (fun ls hl => ?_)
        refine lv_goto (tgt := 5) hx hb d_Pt_raised_40 (by decide) ?_
        exact ih (k + 1) (by omega) ls (lv_sub hl [2, 3, 0] rfl) K
      · have h0 : ¬ bb k = 0 := fun z => c_22 ((m1_none (by omega)).mpr z)
        refine lv_lload_n hx hb d_Pt_raised_25 rfl (lv_at hl 2 rfl) ?_
        refine lv_iload hx hb d_Pt_raised_26 (lv_at hl 3 rfl) ?_
        refine lv_iload hx hb d_Pt_raised_28 (lv_at hl 0 rfl) ?_
        refine lv_iconst (v := 1) hx hb d_Pt_raised_30 (by decide) ?_
        refine lv_iadd hx hb d_Pt_raised_31 ?_
        rw [m1_p1 (by omega)]
        refine ry_callS (n := 2) (As := [.int (nI k), .int (nI (bb k + 1) - 1)]) (rest := [.long (lN (es (ra bb) k))]) ⟨hx, hb, hml, hown, htb⟩ (c_Pt_only l k (bb k + 1) (by omega) (by omega)) (gS mw_353 mw_340 mw_12 mc_Pt_only) rfl rfl (by decide +kernel) ⟨Nat.le_of_ble_eq_true rfl, Nat.le_of_ble_eq_true rfl⟩ rfl hl.1 rfl (Nat.le_of_ble_eq_true rfl) d_Pt_raised_32 ⟨Nat.zero_le _, Nat.zero_le _⟩ (fun r_2 hr_2 => ?_)
        subst hr_2
        refine W.eq (g2 := F0 m 35 ls [.long (lN ((bb k + 1) * 256 ^ k)), .long (lN (es (ra bb) k))]) rfl ?_
        refine lv_lor hx hb d_Pt_raised_35 ?_
        refine lv_topl (fun x_3 ex_3 => ?_)
        rw [show (lN (es (ra bb) k) ||| lN ((bb k + 1) * 256 ^ k)) = lN (es (ra bb) (k + 1)) from by rw [← or_es (ra_byt hbb hb1) (by omega), ra, if_neg h0]] at ex_3
        subst ex_3
        refine lv_lstore_n (lv' := [(2, .long (lN (es (ra bb) (k + 1)))), (5, .int (nI (bb k) - 1)), (0, .long (en bb)), (4, .int (nI k))]) hx hb d_Pt_raised_36 rfl hl (by decide) rfl (fun ls hl => ?_)
        refine lv_iinc (v := (nI (k + 1))) (lv' := [(4, .int (nI (k + 1))), (2, .long (lN (es (ra bb) (k + 1)))), (5, .int (nI (bb k) - 1)), (0, .long (en bb))]) hx hb d_Pt_raised_37 hl (k := 3) rfl (nI_1 _) (by decide) rfl (fun ls hl => ?_)
        refine lv_goto (tgt := 5) hx hb d_Pt_raised_40 (by decide) ?_
        exact ih (k + 1) (by omega) ls (lv_sub hl [3, 1, 0] rfl) K

set_option maxHeartbeats 4000000 in
set_option maxRecDepth 100000 in
theorem c_Pt_raised (l : Launch) (bb : Nat → Nat) (hbb : byt bb) (hb1 : ∀ i, i < 6 → bb i < 127) : Met l y_Pt_raised (cw_Pt_raised :: tb) (rmH 2 0 0) (va_Pc [.long (en bb)] (fun _ => True)) (ry_S ry_l (fun r => r = en (ra bb))) 0 0 (fun _ => False) := by
  refine Met.ofW (cc := b_Pt_raised) (maxL := 6) (ret := (some .long)) (by decide +kernel) rfl ?_
  intro p e s m args below meth c s₁ B hml0 hv
  have C0 := cx_of B hml0 rfl
  obtain ⟨hx, hb, hr, hml, hown, htb, hlocks⟩ := id C0
  obtain ⟨rfl, -⟩ := hv
  have hl := lv_entry ([.long (en bb)]) (n := 6) (Nat.le_of_ble_eq_true rfl)
  rw [lg_entry_eq]
  generalize (lg_sl ([.long (en bb)]) ++ List.replicate (6 - (lg_sl ([.long (en bb)])).length) Slot.unset).toArray = ls at hl ⊢
  have hl : lv_has ls 6 [(0, .long (en bb))] := hl
  refine lv_lconst (v := 0) hx hb d_Pt_raised_0 (by decide) ?_
  refine lv_lstore_n (lv' := [(2, .long (0 : Int64)), (0, .long (en bb))]) hx hb d_Pt_raised_1 rfl hl (by decide) rfl (fun ls hl => ?_)
  refine lv_iconst (v := 0) hx hb d_Pt_raised_2 (by decide) ?_
  refine lv_istore (lv' := [(4, .int 0), (2, .long (0 : Int64)), (0, .long (en bb))]) hx hb d_Pt_raised_3 hl (by decide) rfl (fun ls hl => ?_)
  refine lp_Pt_raised C0 bb hbb hb1 7 0 (by omega) ls (lv_sub hl [2, 1, 0] rfl) (fun ls hl => ?_)
  refine lv_lload_n hx hb d_Pt_raised_43 rfl (lv_at hl 1 rfl) ?_
  exact W.lret (v := (en (ra bb))) hx hb hr (fun t ht hW => ⟨(en (ra bb)), rfl, rfl, ht⟩) (fun _ h => by cases h) d_Pt_raised_44

set_option maxHeartbeats 4000000 in
set_option maxRecDepth 100000 in
theorem c_Pt_vanish (l : Launch) (bb : Nat → Nat) (hbb : byt bb) : Met l y_Pt_vanish (cw_Pt_vanish :: tb) (rmH 2 0 0) (va_Pc [.long (en bb)] (fun _ => True)) (ry_S ry_i (fun r => r = if bb 5 = 1 then 1 else 0)) 0 0 (fun _ => False) := by
  refine Met.ofW (cc := b_Pt_vanish) (maxL := 2) (ret := (some .boolean)) (by decide +kernel) rfl ?_
  intro p e s m args below meth c s₁ B hml0 hv
  have C0 := cx_of B hml0 rfl
  obtain ⟨hx, hb, hr, hml, hown, htb, hlocks⟩ := id C0
  obtain ⟨rfl, -⟩ := hv
  have hl := lv_entry ([.long (en bb)]) (n := 2) (Nat.le_of_ble_eq_true rfl)
  rw [lg_entry_eq]
  generalize (lg_sl ([.long (en bb)]) ++ List.replicate (2 - (lg_sl ([.long (en bb)])).length) Slot.unset).toArray = ls at hl ⊢
  have hl : lv_has ls 2 [(0, .long (en bb))] := hl
  obtain ⟨q0, q1, q2, q3, q4, q5⟩ := byt_all hbb
  refine lv_lload_n hx hb d_Pt_vanish_0 rfl (lv_at hl 0 rfl) ?_
  refine lv_iconst (v := 5) hx hb d_Pt_vanish_1 (by decide) ?_
  refine ry_callS (n := 2) (As := [.long (en bb), .int 5]) (rest := []) ⟨hx, hb, hml, hown, htb⟩ (c_Pt_at l bb hbb 5 (by decide)) (gS mw_349 mw_350 mw_12 mc_Pt_at) rfl rfl (by decide +kernel) ⟨Nat.le_of_ble_eq_true rfl, Nat.le_of_ble_eq_true rfl⟩ rfl hl.1 rfl (Nat.le_of_ble_eq_true rfl) d_Pt_vanish_2 ⟨Nat.zero_le _, Nat.zero_le _⟩ (fun r_1 hr_1 => ?_)
  subst hr_1
  refine W.eq (g2 := F0 m 5 ls [.int (nI (bb 5) - 1)]) rfl ?_
  refine lv_if_ne (tgt := 12) hx hb d_Pt_vanish_5 (by decide) (fun c_5 => ?_) (fun c_5 => ?_)
  · refine lv_iconst (v := 0) hx hb d_Pt_vanish_12 (by decide) ?_
    exact W.zret (v := 0) hx hb hr rfl (fun t ht hW => ⟨0, rfl, (by rw [if_neg (fun z => c_5 ((m1_zero (by omega)).mpr z))]), ht⟩) (fun _ h => by cases h) d_Pt_vanish_13
  · refine lv_iconst (v := 1) hx hb d_Pt_vanish_8 (by decide) ?_
    refine lv_goto (tgt := 13) hx hb d_Pt_vanish_9 (by decide) ?_
    exact W.zret (v := 1) hx hb hr rfl (fun t ht hW => ⟨1, rfl, (by rw [if_pos ((m1_zero (by omega)).mp c_5)]), ht⟩) (fun _ h => by cases h) d_Pt_vanish_13

set_option maxHeartbeats 4000000 in
set_option maxRecDepth 100000 in
theorem c_Pt_valueAtOnes (l : Launch) (bb : Nat → Nat) (hbb : byt bb) : Met l y_Pt_valueAtOnes (cw_Pt_valueAtOnes :: tb) (rmH 2 0 0) (va_Pc [.long (en bb)] (fun _ => True)) (ry_S ry_i (fun r => r = nI (vo bb))) 0 0 (fun _ => False) := by
  refine Met.ofW (cc := b_Pt_valueAtOnes) (maxL := 4) (ret := (some .int)) (by decide +kernel) rfl ?_
  intro p e s m args below meth c s₁ B hml0 hv
  have C0 := cx_of B hml0 rfl
  obtain ⟨hx, hb, hr, hml, hown, htb, hlocks⟩ := id C0
  obtain ⟨rfl, -⟩ := hv
  have hl := lv_entry ([.long (en bb)]) (n := 4) (Nat.le_of_ble_eq_true rfl)
  rw [lg_entry_eq]
  generalize (lg_sl ([.long (en bb)]) ++ List.replicate (4 - (lg_sl ([.long (en bb)])).length) Slot.unset).toArray = ls at hl ⊢
  have hl : lv_has ls 4 [(0, .long (en bb))] := hl
  obtain ⟨q0, q1, q2, q3, q4, q5⟩ := byt_all hbb
  refine lv_lload_n hx hb d_Pt_valueAtOnes_0 rfl (lv_at hl 0 rfl) ?_
  refine lv_iconst (v := 5) hx hb d_Pt_valueAtOnes_1 (by decide) ?_
  refine ry_callS (n := 2) (As := [.long (en bb), .int 5]) (rest := []) ⟨hx, hb, hml, hown, htb⟩ (c_Pt_at l bb hbb 5 (by decide)) (gS mw_349 mw_350 mw_12 mc_Pt_at) rfl rfl (by decide +kernel) ⟨Nat.le_of_ble_eq_true rfl, Nat.le_of_ble_eq_true rfl⟩ rfl hl.1 rfl (Nat.le_of_ble_eq_true rfl) d_Pt_valueAtOnes_2 ⟨Nat.zero_le _, Nat.zero_le _⟩ (fun r_1 hr_1 => ?_)
  subst hr_1
  refine W.eq (g2 := F0 m 5 ls [.int (nI (bb 5) - 1)]) rfl ?_
  refine lv_istore_n (lv' := [(2, .int (nI (bb 5) - 1)), (0, .long (en bb))]) hx hb d_Pt_valueAtOnes_5 rfl hl (by decide) rfl (fun ls hl => ?_)
  refine lv_iconst (v := 0) hx hb d_Pt_valueAtOnes_6 (by decide) ?_
  refine lv_istore_n (lv' := [(3, .int 0), (2, .int (nI (bb 5) - 1)), (0, .long (en bb))]) hx hb d_Pt_valueAtOnes_7 rfl hl (by decide) rfl (fun ls hl => ?_)
  refine lv_iload_n hx hb d_Pt_valueAtOnes_8 rfl (lv_at hl 0 rfl) ?_
  refine lv_iconst (v := 5) hx hb d_Pt_valueAtOnes_9 (by decide) ?_
  refine lv_icmp_ge (tgt := 31) hx hb d_Pt_valueAtOnes_10 (by decide) (fun c_10 => ?_) (fun c_10 => ?_)
  · exact absurd c_10 (by decide)
  · refine lv_iload_n hx hb d_Pt_valueAtOnes_13 rfl (lv_at hl 1 rfl) ?_
    refine lv_lload_n hx hb d_Pt_valueAtOnes_14 rfl (lv_at hl 2 rfl) ?_
    refine lv_iload_n hx hb d_Pt_valueAtOnes_15 rfl (lv_at hl 0 rfl) ?_
    refine ry_callS (n := 2) (As := [.long (en bb), .int 0]) (rest := [.int (nI (bb 5) - 1)]) ⟨hx, hb, hml, hown, htb⟩ (c_Pt_at l bb hbb 0 (by decide)) (gS mw_349 mw_350 mw_12 mc_Pt_at) rfl rfl (by decide +kernel) ⟨Nat.le_of_ble_eq_true rfl, Nat.le_of_ble_eq_true rfl⟩ rfl hl.1 rfl (Nat.le_of_ble_eq_true rfl) d_Pt_valueAtOnes_16 ⟨Nat.zero_le _, Nat.zero_le _⟩ (fun r_2 hr_2 => ?_)
    subst hr_2
    refine W.eq (g2 := F0 m 19 ls [.int (nI (bb 0) - 1), .int (nI (bb 5) - 1)]) rfl ?_
    refine lv_iconst (v := 1) hx hb d_Pt_valueAtOnes_19 (by decide) ?_
    refine lv_iadd hx hb d_Pt_valueAtOnes_20 ?_
    rw [m1_add]
    refine va_mmax hx hb (by rw [hml]; exact hl.1.symm) hown (htb _ mw_357) (htb _ mw_145) (htb _ mw_11) (htb _ mc_max) (Nat.le_of_ble_eq_true rfl) (Nat.le_of_ble_eq_true rfl) (Nat.zero_le _) (Nat.zero_le _) d_Pt_valueAtOnes_21 ?_
    refine lv_topi (fun x_3 ex_3 => ?_)
    rw [m1_maxn (by omega) (by omega)] at ex_3
    subst ex_3
    refine lv_istore_n (lv' := [(2, .int (nI (max (bb 5 - 1) (bb 0)))), (3, .int 0), (0, .long (en bb))]) hx hb d_Pt_valueAtOnes_24 rfl hl (by decide) rfl (fun ls hl => ?_)
    refine lv_iinc (v := 1) (lv' := [(3, .int 1), (2, .int (nI (max (bb 5 - 1) (bb 0)))), (0, .long (en bb))]) hx hb d_Pt_valueAtOnes_25 hl (k := 1) rfl (by first | rfl | decide) (by decide) rfl (fun ls hl => ?_)
    refine lv_goto (tgt := 8) hx hb d_Pt_valueAtOnes_28 (by decide) ?_
    refine lv_iload_n hx hb d_Pt_valueAtOnes_8 rfl (lv_at hl 0 rfl) ?_
    refine lv_iconst (v := 5) hx hb d_Pt_valueAtOnes_9 (by decide) ?_
    refine lv_icmp_ge (tgt := 31) hx hb d_Pt_valueAtOnes_10 (by decide) (fun c_10_1 => ?_) (fun c_10_1 => ?_)
    · exact absurd c_10_1 (by decide)
    · refine lv_iload_n hx hb d_Pt_valueAtOnes_13 rfl (lv_at hl 1 rfl) ?_
      refine lv_lload_n hx hb d_Pt_valueAtOnes_14 rfl (lv_at hl 2 rfl) ?_
      refine lv_iload_n hx hb d_Pt_valueAtOnes_15 rfl (lv_at hl 0 rfl) ?_
      refine ry_callS (n := 2) (As := [.long (en bb), .int 1]) (rest := [.int (nI (max (bb 5 - 1) (bb 0)))]) ⟨hx, hb, hml, hown, htb⟩ (c_Pt_at l bb hbb 1 (by decide)) (gS mw_349 mw_350 mw_12 mc_Pt_at) rfl rfl (by decide +kernel) ⟨Nat.le_of_ble_eq_true rfl, Nat.le_of_ble_eq_true rfl⟩ rfl hl.1 rfl (Nat.le_of_ble_eq_true rfl) d_Pt_valueAtOnes_16 ⟨Nat.zero_le _, Nat.zero_le _⟩ (fun r_4 hr_4 => ?_)
      subst hr_4
      refine W.eq (g2 := F0 m 19 ls [.int (nI (bb 1) - 1), .int (nI (max (bb 5 - 1) (bb 0)))]) rfl ?_
      refine lv_iconst (v := 1) hx hb d_Pt_valueAtOnes_19 (by decide) ?_
      refine lv_iadd hx hb d_Pt_valueAtOnes_20 ?_
      rw [m1_add]
      refine va_mmax hx hb (by rw [hml]; exact hl.1.symm) hown (htb _ mw_357) (htb _ mw_145) (htb _ mw_11) (htb _ mc_max) (Nat.le_of_ble_eq_true rfl) (Nat.le_of_ble_eq_true rfl) (Nat.zero_le _) (Nat.zero_le _) d_Pt_valueAtOnes_21 ?_
      refine lv_topi (fun x_5 ex_5 => ?_)
      rw [nI_max (by omega) (by omega)] at ex_5
      subst ex_5
      refine lv_istore_n (lv' := [(2, .int (nI (max (max (bb 5 - 1) (bb 0)) (bb 1)))), (3, .int 1), (0, .long (en bb))]) hx hb d_Pt_valueAtOnes_24 rfl hl (by decide) rfl (fun ls hl => ?_)
      refine lv_iinc (v := 2) (lv' := [(3, .int 2), (2, .int (nI (max (max (bb 5 - 1) (bb 0)) (bb 1)))), (0, .long (en bb))]) hx hb d_Pt_valueAtOnes_25 hl (k := 1) rfl (by first | rfl | decide) (by decide) rfl (fun ls hl => ?_)
      refine lv_goto (tgt := 8) hx hb d_Pt_valueAtOnes_28 (by decide) ?_
      refine lv_iload_n hx hb d_Pt_valueAtOnes_8 rfl (lv_at hl 0 rfl) ?_
      refine lv_iconst (v := 5) hx hb d_Pt_valueAtOnes_9 (by decide) ?_
      refine lv_icmp_ge (tgt := 31) hx hb d_Pt_valueAtOnes_10 (by decide) (fun c_10_2 => ?_) (fun c_10_2 => ?_)
      · exact absurd c_10_2 (by decide)
      · refine lv_iload_n hx hb d_Pt_valueAtOnes_13 rfl (lv_at hl 1 rfl) ?_
        refine lv_lload_n hx hb d_Pt_valueAtOnes_14 rfl (lv_at hl 2 rfl) ?_
        refine lv_iload_n hx hb d_Pt_valueAtOnes_15 rfl (lv_at hl 0 rfl) ?_
        refine ry_callS (n := 2) (As := [.long (en bb), .int 2]) (rest := [.int (nI (max (max (bb 5 - 1) (bb 0)) (bb 1)))]) ⟨hx, hb, hml, hown, htb⟩ (c_Pt_at l bb hbb 2 (by decide)) (gS mw_349 mw_350 mw_12 mc_Pt_at) rfl rfl (by decide +kernel) ⟨Nat.le_of_ble_eq_true rfl, Nat.le_of_ble_eq_true rfl⟩ rfl hl.1 rfl (Nat.le_of_ble_eq_true rfl) d_Pt_valueAtOnes_16 ⟨Nat.zero_le _, Nat.zero_le _⟩ (fun r_6 hr_6 => ?_)
        subst hr_6
        refine W.eq (g2 := F0 m 19 ls [.int (nI (bb 2) - 1), .int (nI (max (max (bb 5 - 1) (bb 0)) (bb 1)))]) rfl ?_
        refine lv_iconst (v := 1) hx hb d_Pt_valueAtOnes_19 (by decide) ?_
        refine lv_iadd hx hb d_Pt_valueAtOnes_20 ?_
        rw [m1_add]
        refine va_mmax hx hb (by rw [hml]; exact hl.1.symm) hown (htb _ mw_357) (htb _ mw_145) (htb _ mw_11) (htb _ mc_max) (Nat.le_of_ble_eq_true rfl) (Nat.le_of_ble_eq_true rfl) (Nat.zero_le _) (Nat.zero_le _) d_Pt_valueAtOnes_21 ?_
        refine lv_topi (fun x_7 ex_7 => ?_)
        rw [nI_max (by omega) (by omega)] at ex_7
        subst ex_7
        refine lv_istore_n (lv' := [(2, .int (nI (max (max (max (bb 5 - 1) (bb 0)) (bb 1)) (bb 2)))), (3, .int 2), (0, .long (en bb))]) hx hb d_Pt_valueAtOnes_24 rfl hl (by decide) rfl (fun ls hl => ?_)
        refine lv_iinc (v := 3) (lv' := [(3, .int 3), (2, .int (nI (max (max (max (bb 5 - 1) (bb 0)) (bb 1)) (bb 2)))), (0, .long (en bb))]) hx hb d_Pt_valueAtOnes_25 hl (k := 1) rfl (by first | rfl | decide) (by decide) rfl (fun ls hl => ?_)
        refine lv_goto (tgt := 8) hx hb d_Pt_valueAtOnes_28 (by decide) ?_
        refine lv_iload_n hx hb d_Pt_valueAtOnes_8 rfl (lv_at hl 0 rfl) ?_
        refine lv_iconst (v := 5) hx hb d_Pt_valueAtOnes_9 (by decide) ?_
        refine lv_icmp_ge (tgt := 31) hx hb d_Pt_valueAtOnes_10 (by decide) (fun c_10_3 => ?_) (fun c_10_3 => ?_)
        · exact absurd c_10_3 (by decide)
        · refine lv_iload_n hx hb d_Pt_valueAtOnes_13 rfl (lv_at hl 1 rfl) ?_
          refine lv_lload_n hx hb d_Pt_valueAtOnes_14 rfl (lv_at hl 2 rfl) ?_
          refine lv_iload_n hx hb d_Pt_valueAtOnes_15 rfl (lv_at hl 0 rfl) ?_
          refine ry_callS (n := 2) (As := [.long (en bb), .int 3]) (rest := [.int (nI (max (max (max (bb 5 - 1) (bb 0)) (bb 1)) (bb 2)))]) ⟨hx, hb, hml, hown, htb⟩ (c_Pt_at l bb hbb 3 (by decide)) (gS mw_349 mw_350 mw_12 mc_Pt_at) rfl rfl (by decide +kernel) ⟨Nat.le_of_ble_eq_true rfl, Nat.le_of_ble_eq_true rfl⟩ rfl hl.1 rfl (Nat.le_of_ble_eq_true rfl) d_Pt_valueAtOnes_16 ⟨Nat.zero_le _, Nat.zero_le _⟩ (fun r_8 hr_8 => ?_)
          subst hr_8
          refine W.eq (g2 := F0 m 19 ls [.int (nI (bb 3) - 1), .int (nI (max (max (max (bb 5 - 1) (bb 0)) (bb 1)) (bb 2)))]) rfl ?_
          refine lv_iconst (v := 1) hx hb d_Pt_valueAtOnes_19 (by decide) ?_
          refine lv_iadd hx hb d_Pt_valueAtOnes_20 ?_
          rw [m1_add]
          refine va_mmax hx hb (by rw [hml]; exact hl.1.symm) hown (htb _ mw_357) (htb _ mw_145) (htb _ mw_11) (htb _ mc_max) (Nat.le_of_ble_eq_true rfl) (Nat.le_of_ble_eq_true rfl) (Nat.zero_le _) (Nat.zero_le _) d_Pt_valueAtOnes_21 ?_
          refine lv_topi (fun x_9 ex_9 => ?_)
          rw [nI_max (by omega) (by omega)] at ex_9
          subst ex_9
          refine lv_istore_n (lv' := [(2, .int (nI (max (max (max (max (bb 5 - 1) (bb 0)) (bb 1)) (bb 2)) (bb 3)))), (3, .int 3), (0, .long (en bb))]) hx hb d_Pt_valueAtOnes_24 rfl hl (by decide) rfl (fun ls hl => ?_)
          refine lv_iinc (v := 4) (lv' := [(3, .int 4), (2, .int (nI (max (max (max (max (bb 5 - 1) (bb 0)) (bb 1)) (bb 2)) (bb 3)))), (0, .long (en bb))]) hx hb d_Pt_valueAtOnes_25 hl (k := 1) rfl (by first | rfl | decide) (by decide) rfl (fun ls hl => ?_)
          refine lv_goto (tgt := 8) hx hb d_Pt_valueAtOnes_28 (by decide) ?_
          refine lv_iload_n hx hb d_Pt_valueAtOnes_8 rfl (lv_at hl 0 rfl) ?_
          refine lv_iconst (v := 5) hx hb d_Pt_valueAtOnes_9 (by decide) ?_
          refine lv_icmp_ge (tgt := 31) hx hb d_Pt_valueAtOnes_10 (by decide) (fun c_10_4 => ?_) (fun c_10_4 => ?_)
          · exact absurd c_10_4 (by decide)
          · refine lv_iload_n hx hb d_Pt_valueAtOnes_13 rfl (lv_at hl 1 rfl) ?_
            refine lv_lload_n hx hb d_Pt_valueAtOnes_14 rfl (lv_at hl 2 rfl) ?_
            refine lv_iload_n hx hb d_Pt_valueAtOnes_15 rfl (lv_at hl 0 rfl) ?_
            refine ry_callS (n := 2) (As := [.long (en bb), .int 4]) (rest := [.int (nI (max (max (max (max (bb 5 - 1) (bb 0)) (bb 1)) (bb 2)) (bb 3)))]) ⟨hx, hb, hml, hown, htb⟩ (c_Pt_at l bb hbb 4 (by decide)) (gS mw_349 mw_350 mw_12 mc_Pt_at) rfl rfl (by decide +kernel) ⟨Nat.le_of_ble_eq_true rfl, Nat.le_of_ble_eq_true rfl⟩ rfl hl.1 rfl (Nat.le_of_ble_eq_true rfl) d_Pt_valueAtOnes_16 ⟨Nat.zero_le _, Nat.zero_le _⟩ (fun r_10 hr_10 => ?_)
            subst hr_10
            refine W.eq (g2 := F0 m 19 ls [.int (nI (bb 4) - 1), .int (nI (max (max (max (max (bb 5 - 1) (bb 0)) (bb 1)) (bb 2)) (bb 3)))]) rfl ?_
            refine lv_iconst (v := 1) hx hb d_Pt_valueAtOnes_19 (by decide) ?_
            refine lv_iadd hx hb d_Pt_valueAtOnes_20 ?_
            rw [m1_add]
            refine va_mmax hx hb (by rw [hml]; exact hl.1.symm) hown (htb _ mw_357) (htb _ mw_145) (htb _ mw_11) (htb _ mc_max) (Nat.le_of_ble_eq_true rfl) (Nat.le_of_ble_eq_true rfl) (Nat.zero_le _) (Nat.zero_le _) d_Pt_valueAtOnes_21 ?_
            refine lv_topi (fun x_11 ex_11 => ?_)
            rw [nI_max (by omega) (by omega)] at ex_11
            subst ex_11
            refine lv_istore_n (lv' := [(2, .int (nI (max (max (max (max (max (bb 5 - 1) (bb 0)) (bb 1)) (bb 2)) (bb 3)) (bb 4)))), (3, .int 4), (0, .long (en bb))]) hx hb d_Pt_valueAtOnes_24 rfl hl (by decide) rfl (fun ls hl => ?_)
            refine lv_iinc (v := 5) (lv' := [(3, .int 5), (2, .int (nI (max (max (max (max (max (bb 5 - 1) (bb 0)) (bb 1)) (bb 2)) (bb 3)) (bb 4)))), (0, .long (en bb))]) hx hb d_Pt_valueAtOnes_25 hl (k := 1) rfl (by first | rfl | decide) (by decide) rfl (fun ls hl => ?_)
            refine lv_goto (tgt := 8) hx hb d_Pt_valueAtOnes_28 (by decide) ?_
            refine lv_iload_n hx hb d_Pt_valueAtOnes_8 rfl (lv_at hl 0 rfl) ?_
            refine lv_iconst (v := 5) hx hb d_Pt_valueAtOnes_9 (by decide) ?_
            refine lv_icmp_ge (tgt := 31) hx hb d_Pt_valueAtOnes_10 (by decide) (fun c_10_5 => ?_) (fun c_10_5 => ?_)
            · refine lv_iload_n hx hb d_Pt_valueAtOnes_31 rfl (lv_at hl 1 rfl) ?_
              exact W.iret (v := (nI (max (max (max (max (max (bb 5 - 1) (bb 0)) (bb 1)) (bb 2)) (bb 3)) (bb 4)))) hx hb hr (fun t ht hW => ⟨(nI (max (max (max (max (max (bb 5 - 1) (bb 0)) (bb 1)) (bb 2)) (bb 3)) (bb 4))), rfl, rfl, ht⟩) (fun _ h => by cases h) d_Pt_valueAtOnes_32
            · exact absurd (by decide) c_10_5

set_option maxHeartbeats 4000000 in
set_option maxRecDepth 100000 in
theorem c_Pt_joined (l : Launch) (b1 b2 : Nat → Nat) (hb1 : byt b1) (hb2 : byt b2) : Met l y_Pt_joined (cw_Pt_joined :: tb) (rmH 2 0 0) (va_Pc [.long (en b1), .long (en b2)] (fun _ => True)) (ry_S ry_l (fun r => r = en (jn b1 b2))) 0 0 (fun _ => False) := by
  refine Met.ofW (cc := b_Pt_joined) (maxL := 9) (ret := (some .long)) (by decide +kernel) rfl ?_
  intro p e s m args below meth c s₁ B hml0 hv
  have C0 := cx_of B hml0 rfl
  obtain ⟨hx, hb, hr, hml, hown, htb, hlocks⟩ := id C0
  obtain ⟨rfl, -⟩ := hv
  have hl := lv_entry ([.long (en b1), .long (en b2)]) (n := 9) (Nat.le_of_ble_eq_true rfl)
  rw [lg_entry_eq]
  generalize (lg_sl ([.long (en b1), .long (en b2)]) ++ List.replicate (9 - (lg_sl ([.long (en b1), .long (en b2)])).length) Slot.unset).toArray = ls at hl ⊢
  have hl : lv_has ls 9 [(0, .long (en b1)), (2, .long (en b2))] := hl
  obtain ⟨q0, q1, q2, q3, q4, q5⟩ := byt_all hb1
  obtain ⟨u0, u1, u2, u3, u4, u5⟩ := byt_all hb2
  have hgr := gr_lt hb1 hb2
  refine lv_lconst (v := 0) hx hb d_Pt_joined_0 (by decide) ?_
  refine lv_lstore (lv' := [(4, .long (0 : Int64)), (0, .long (en b1)), (2, .long (en b2))]) hx hb d_Pt_joined_1 hl (by decide) rfl (fun ls hl => ?_)
  refine lv_iconst (v := (-1)) hx hb d_Pt_joined_3 (by decide) ?_
  refine lv_istore (lv' := [(6, .int (-1)), (4, .long (0 : Int64)), (0, .long (en b1)), (2, .long (en b2))]) hx hb d_Pt_joined_4 hl (by decide) rfl (fun ls hl => ?_)
  refine lv_iconst (v := 0) hx hb d_Pt_joined_6 (by decide) ?_
  refine lv_istore (lv' := [(7, .int 0), (6, .int (-1)), (4, .long (0 : Int64)), (0, .long (en b1)), (2, .long (en b2))]) hx hb d_Pt_joined_7 hl (by decide) rfl (fun ls hl => ?_)
  refine lv_iload hx hb d_Pt_joined_9 (lv_at hl 0 rfl) ?_
  refine lv_iconst (v := 5) hx hb d_Pt_joined_11 (by decide) ?_
  refine lv_icmp_ge (tgt := 59) hx hb d_Pt_joined_12 (by decide) (fun c_12 => ?_) (fun c_12 => ?_)
  · exact absurd c_12 (by decide)
  · refine lv_lload_n hx hb d_Pt_joined_15 rfl (lv_at hl 3 rfl) ?_
    refine lv_iload hx hb d_Pt_joined_16 (lv_at hl 0 rfl) ?_
    refine ry_callS (n := 2) (As := [.long (en b1), .int 0]) (rest := []) ⟨hx, hb, hml, hown, htb⟩ (c_Pt_at l b1 hb1 0 (by decide)) (gS mw_349 mw_350 mw_12 mc_Pt_at) rfl rfl (by decide +kernel) ⟨Nat.le_of_ble_eq_true rfl, Nat.le_of_ble_eq_true rfl⟩ rfl hl.1 rfl (Nat.le_of_ble_eq_true rfl) d_Pt_joined_18 ⟨Nat.zero_le _, Nat.zero_le _⟩ (fun r_1 hr_1 => ?_)
    subst hr_1
    refine W.eq (g2 := F0 m 21 ls [.int (nI (b1 0) - 1)]) rfl ?_
    refine lv_lload_n hx hb d_Pt_joined_21 rfl (lv_at hl 4 rfl) ?_
    refine lv_iload hx hb d_Pt_joined_22 (lv_at hl 0 rfl) ?_
    refine ry_callS (n := 2) (As := [.long (en b2), .int 0]) (rest := [.int (nI (b1 0) - 1)]) ⟨hx, hb, hml, hown, htb⟩ (c_Pt_at l b2 hb2 0 (by decide)) (gS mw_349 mw_350 mw_12 mc_Pt_at) rfl rfl (by decide +kernel) ⟨Nat.le_of_ble_eq_true rfl, Nat.le_of_ble_eq_true rfl⟩ rfl hl.1 rfl (Nat.le_of_ble_eq_true rfl) d_Pt_joined_24 ⟨Nat.zero_le _, Nat.zero_le _⟩ (fun r_2 hr_2 => ?_)
    subst hr_2
    refine W.eq (g2 := F0 m 27 ls [.int (nI (b2 0) - 1), .int (nI (b1 0) - 1)]) rfl ?_
    refine va_mmax hx hb (by rw [hml]; exact hl.1.symm) hown (htb _ mw_357) (htb _ mw_145) (htb _ mw_11) (htb _ mc_max) (Nat.le_of_ble_eq_true rfl) (Nat.le_of_ble_eq_true rfl) (Nat.zero_le _) (Nat.zero_le _) d_Pt_joined_27 ?_
    refine lv_topi (fun x_3 ex_3 => ?_)
    rw [m1_max (by omega) (by omega)] at ex_3
    subst ex_3
    refine lv_istore (lv' := [(8, .int (nI (max (b1 0) (b2 0)) - 1)), (7, .int 0), (6, .int (-1)), (4, .long (0 : Int64)), (0, .long (en b1)), (2, .long (en b2))]) hx hb d_Pt_joined_30 hl (by decide) rfl (fun ls hl => ?_)
    refine lv_lload hx hb d_Pt_joined_32 (lv_at hl 3 rfl) ?_
    refine lv_iload hx hb d_Pt_joined_34 (lv_at hl 1 rfl) ?_
    refine lv_iload hx hb d_Pt_joined_36 (lv_at hl 0 rfl) ?_
    refine ry_callS (n := 2) (As := [.int 0, .int (nI (max (b1 0) (b2 0)) - 1)]) (rest := [.long (0 : Int64)]) ⟨hx, hb, hml, hown, htb⟩ (c_Pt_only l 0 (max (b1 0) (b2 0)) (by decide) (by omega)) (gS mw_353 mw_340 mw_12 mc_Pt_only) rfl rfl (by decide +kernel) ⟨Nat.le_of_ble_eq_true rfl, Nat.le_of_ble_eq_true rfl⟩ rfl hl.1 rfl (Nat.le_of_ble_eq_true rfl) d_Pt_joined_38 ⟨Nat.zero_le _, Nat.zero_le _⟩ (fun r_4 hr_4 => ?_)
    subst hr_4
    refine W.eq (g2 := F0 m 41 ls [.long (lN ((max (b1 0) (b2 0)) * 256 ^ 0)), .long (0 : Int64)]) rfl ?_
    refine lv_lor hx hb d_Pt_joined_41 ?_
    refine lv_topl (fun x_5 ex_5 => ?_)
    rw [show ((0 : Int64) ||| (lN ((max (b1 0) (b2 0)) * 256 ^ 0)) : Int64) = lN (es (jn b1 b2) 1) from or_jn hb1 hb2 (k := 0) (by decide)] at ex_5
    subst ex_5
    refine lv_lstore (lv' := [(4, .long (lN (es (jn b1 b2) 1))), (8, .int (nI (max (b1 0) (b2 0)) - 1)), (7, .int 0), (6, .int (-1)), (0, .long (en b1)), (2, .long (en b2))]) hx hb d_Pt_joined_42 hl (by decide) rfl (fun ls hl => ?_)
    refine lv_iload hx hb d_Pt_joined_44 (lv_at hl 3 rfl) ?_
    refine lv_iload hx hb d_Pt_joined_46 (lv_at hl 1 rfl) ?_
    refine va_mmax hx hb (by rw [hml]; exact hl.1.symm) hown (htb _ mw_357) (htb _ mw_145) (htb _ mw_11) (htb _ mc_max) (Nat.le_of_ble_eq_true rfl) (Nat.le_of_ble_eq_true rfl) (Nat.zero_le _) (Nat.zero_le _) d_Pt_joined_48 ?_
    refine lv_topi (fun x_6 ex_6 => ?_)
    rw [m1_max0 (by omega)] at ex_6
    subst ex_6
    refine lv_istore (lv' := [(6, .int (nI (max 0 (max (b1 0) (b2 0))) - 1)), (4, .long (lN (es (jn b1 b2) 1))), (8, .int (nI (max (b1 0) (b2 0)) - 1)), (7, .int 0), (0, .long (en b1)), (2, .long (en b2))]) hx hb d_Pt_joined_51 hl (by decide) rfl (fun ls hl => ?_)
    refine lv_iinc (v := 1) (lv' := [(7, .int 1), (6, .int (nI (max 0 (max (b1 0) (b2 0))) - 1)), (4, .long (lN (es (jn b1 b2) 1))), (8, .int (nI (max (b1 0) (b2 0)) - 1)), (0, .long (en b1)), (2, .long (en b2))]) hx hb d_Pt_joined_53 hl (k := 3) rfl (by first | rfl | decide) (by decide) rfl (fun ls hl => ?_)
    refine lv_goto (tgt := 9) hx hb d_Pt_joined_56 (by decide) ?_
    refine lv_iload hx hb d_Pt_joined_9 (lv_at hl 0 rfl) ?_
    refine lv_iconst (v := 5) hx hb d_Pt_joined_11 (by decide) ?_
    refine lv_icmp_ge (tgt := 59) hx hb d_Pt_joined_12 (by decide) (fun c_12_1 => ?_) (fun c_12_1 => ?_)
    · exact absurd c_12_1 (by decide)
    · refine lv_lload_n hx hb d_Pt_joined_15 rfl (lv_at hl 4 rfl) ?_
      refine lv_iload hx hb d_Pt_joined_16 (lv_at hl 0 rfl) ?_
      refine ry_callS (n := 2) (As := [.long (en b1), .int 1]) (rest := []) ⟨hx, hb, hml, hown, htb⟩ (c_Pt_at l b1 hb1 1 (by decide)) (gS mw_349 mw_350 mw_12 mc_Pt_at) rfl rfl (by decide +kernel) ⟨Nat.le_of_ble_eq_true rfl, Nat.le_of_ble_eq_true rfl⟩ rfl hl.1 rfl (Nat.le_of_ble_eq_true rfl) d_Pt_joined_18 ⟨Nat.zero_le _, Nat.zero_le _⟩ (fun r_7 hr_7 => ?_)
      subst hr_7
      refine W.eq (g2 := F0 m 21 ls [.int (nI (b1 1) - 1)]) rfl ?_
      refine lv_lload_n hx hb d_Pt_joined_21 rfl (lv_at hl 5 rfl) ?_
      refine lv_iload hx hb d_Pt_joined_22 (lv_at hl 0 rfl) ?_
      refine ry_callS (n := 2) (As := [.long (en b2), .int 1]) (rest := [.int (nI (b1 1) - 1)]) ⟨hx, hb, hml, hown, htb⟩ (c_Pt_at l b2 hb2 1 (by decide)) (gS mw_349 mw_350 mw_12 mc_Pt_at) rfl rfl (by decide +kernel) ⟨Nat.le_of_ble_eq_true rfl, Nat.le_of_ble_eq_true rfl⟩ rfl hl.1 rfl (Nat.le_of_ble_eq_true rfl) d_Pt_joined_24 ⟨Nat.zero_le _, Nat.zero_le _⟩ (fun r_8 hr_8 => ?_)
      subst hr_8
      refine W.eq (g2 := F0 m 27 ls [.int (nI (b2 1) - 1), .int (nI (b1 1) - 1)]) rfl ?_
      refine va_mmax hx hb (by rw [hml]; exact hl.1.symm) hown (htb _ mw_357) (htb _ mw_145) (htb _ mw_11) (htb _ mc_max) (Nat.le_of_ble_eq_true rfl) (Nat.le_of_ble_eq_true rfl) (Nat.zero_le _) (Nat.zero_le _) d_Pt_joined_27 ?_
      refine lv_topi (fun x_9 ex_9 => ?_)
      rw [m1_max (by omega) (by omega)] at ex_9
      subst ex_9
      refine lv_istore (lv' := [(8, .int (nI (max (b1 1) (b2 1)) - 1)), (7, .int 1), (6, .int (nI (max 0 (max (b1 0) (b2 0))) - 1)), (4, .long (lN (es (jn b1 b2) 1))), (0, .long (en b1)), (2, .long (en b2))]) hx hb d_Pt_joined_30 hl (by decide) rfl (fun ls hl => ?_)
      refine lv_lload hx hb d_Pt_joined_32 (lv_at hl 3 rfl) ?_
      refine lv_iload hx hb d_Pt_joined_34 (lv_at hl 1 rfl) ?_
      refine lv_iload hx hb d_Pt_joined_36 (lv_at hl 0 rfl) ?_
      refine ry_callS (n := 2) (As := [.int 1, .int (nI (max (b1 1) (b2 1)) - 1)]) (rest := [.long (lN (es (jn b1 b2) 1))]) ⟨hx, hb, hml, hown, htb⟩ (c_Pt_only l 1 (max (b1 1) (b2 1)) (by decide) (by omega)) (gS mw_353 mw_340 mw_12 mc_Pt_only) rfl rfl (by decide +kernel) ⟨Nat.le_of_ble_eq_true rfl, Nat.le_of_ble_eq_true rfl⟩ rfl hl.1 rfl (Nat.le_of_ble_eq_true rfl) d_Pt_joined_38 ⟨Nat.zero_le _, Nat.zero_le _⟩ (fun r_10 hr_10 => ?_)
      subst hr_10
      refine W.eq (g2 := F0 m 41 ls [.long (lN ((max (b1 1) (b2 1)) * 256 ^ 1)), .long (lN (es (jn b1 b2) 1))]) rfl ?_
      refine lv_lor hx hb d_Pt_joined_41 ?_
      refine lv_topl (fun x_11 ex_11 => ?_)
      rw [show ((lN (es (jn b1 b2) 1)) ||| (lN ((max (b1 1) (b2 1)) * 256 ^ 1)) : Int64) = lN (es (jn b1 b2) 2) from or_jn hb1 hb2 (k := 1) (by decide)] at ex_11
      subst ex_11
      refine lv_lstore (lv' := [(4, .long (lN (es (jn b1 b2) 2))), (8, .int (nI (max (b1 1) (b2 1)) - 1)), (7, .int 1), (6, .int (nI (max 0 (max (b1 0) (b2 0))) - 1)), (0, .long (en b1)), (2, .long (en b2))]) hx hb d_Pt_joined_42 hl (by decide) rfl (fun ls hl => ?_)
      refine lv_iload hx hb d_Pt_joined_44 (lv_at hl 3 rfl) ?_
      refine lv_iload hx hb d_Pt_joined_46 (lv_at hl 1 rfl) ?_
      refine va_mmax hx hb (by rw [hml]; exact hl.1.symm) hown (htb _ mw_357) (htb _ mw_145) (htb _ mw_11) (htb _ mc_max) (Nat.le_of_ble_eq_true rfl) (Nat.le_of_ble_eq_true rfl) (Nat.zero_le _) (Nat.zero_le _) d_Pt_joined_48 ?_
      refine lv_topi (fun x_12 ex_12 => ?_)
      rw [m1_max (by omega) (by omega)] at ex_12
      subst ex_12
      refine lv_istore (lv' := [(6, .int (nI (max (max 0 (max (b1 0) (b2 0))) (max (b1 1) (b2 1))) - 1)), (4, .long (lN (es (jn b1 b2) 2))), (8, .int (nI (max (b1 1) (b2 1)) - 1)), (7, .int 1), (0, .long (en b1)), (2, .long (en b2))]) hx hb d_Pt_joined_51 hl (by decide) rfl (fun ls hl => ?_)
      refine lv_iinc (v := 2) (lv' := [(7, .int 2), (6, .int (nI (max (max 0 (max (b1 0) (b2 0))) (max (b1 1) (b2 1))) - 1)), (4, .long (lN (es (jn b1 b2) 2))), (8, .int (nI (max (b1 1) (b2 1)) - 1)), (0, .long (en b1)), (2, .long (en b2))]) hx hb d_Pt_joined_53 hl (k := 3) rfl (by first | rfl | decide) (by decide) rfl (fun ls hl => ?_)
      refine lv_goto (tgt := 9) hx hb d_Pt_joined_56 (by decide) ?_
      refine lv_iload hx hb d_Pt_joined_9 (lv_at hl 0 rfl) ?_
      refine lv_iconst (v := 5) hx hb d_Pt_joined_11 (by decide) ?_
      refine lv_icmp_ge (tgt := 59) hx hb d_Pt_joined_12 (by decide) (fun c_12_2 => ?_) (fun c_12_2 => ?_)
      · exact absurd c_12_2 (by decide)
      · refine lv_lload_n hx hb d_Pt_joined_15 rfl (lv_at hl 4 rfl) ?_
        refine lv_iload hx hb d_Pt_joined_16 (lv_at hl 0 rfl) ?_
        refine ry_callS (n := 2) (As := [.long (en b1), .int 2]) (rest := []) ⟨hx, hb, hml, hown, htb⟩ (c_Pt_at l b1 hb1 2 (by decide)) (gS mw_349 mw_350 mw_12 mc_Pt_at) rfl rfl (by decide +kernel) ⟨Nat.le_of_ble_eq_true rfl, Nat.le_of_ble_eq_true rfl⟩ rfl hl.1 rfl (Nat.le_of_ble_eq_true rfl) d_Pt_joined_18 ⟨Nat.zero_le _, Nat.zero_le _⟩ (fun r_13 hr_13 => ?_)
        subst hr_13
        refine W.eq (g2 := F0 m 21 ls [.int (nI (b1 2) - 1)]) rfl ?_
        refine lv_lload_n hx hb d_Pt_joined_21 rfl (lv_at hl 5 rfl) ?_
        refine lv_iload hx hb d_Pt_joined_22 (lv_at hl 0 rfl) ?_
        refine ry_callS (n := 2) (As := [.long (en b2), .int 2]) (rest := [.int (nI (b1 2) - 1)]) ⟨hx, hb, hml, hown, htb⟩ (c_Pt_at l b2 hb2 2 (by decide)) (gS mw_349 mw_350 mw_12 mc_Pt_at) rfl rfl (by decide +kernel) ⟨Nat.le_of_ble_eq_true rfl, Nat.le_of_ble_eq_true rfl⟩ rfl hl.1 rfl (Nat.le_of_ble_eq_true rfl) d_Pt_joined_24 ⟨Nat.zero_le _, Nat.zero_le _⟩ (fun r_14 hr_14 => ?_)
        subst hr_14
        refine W.eq (g2 := F0 m 27 ls [.int (nI (b2 2) - 1), .int (nI (b1 2) - 1)]) rfl ?_
        refine va_mmax hx hb (by rw [hml]; exact hl.1.symm) hown (htb _ mw_357) (htb _ mw_145) (htb _ mw_11) (htb _ mc_max) (Nat.le_of_ble_eq_true rfl) (Nat.le_of_ble_eq_true rfl) (Nat.zero_le _) (Nat.zero_le _) d_Pt_joined_27 ?_
        refine lv_topi (fun x_15 ex_15 => ?_)
        rw [m1_max (by omega) (by omega)] at ex_15
        subst ex_15
        refine lv_istore (lv' := [(8, .int (nI (max (b1 2) (b2 2)) - 1)), (7, .int 2), (6, .int (nI (max (max 0 (max (b1 0) (b2 0))) (max (b1 1) (b2 1))) - 1)), (4, .long (lN (es (jn b1 b2) 2))), (0, .long (en b1)), (2, .long (en b2))]) hx hb d_Pt_joined_30 hl (by decide) rfl (fun ls hl => ?_)
        refine lv_lload hx hb d_Pt_joined_32 (lv_at hl 3 rfl) ?_
        refine lv_iload hx hb d_Pt_joined_34 (lv_at hl 1 rfl) ?_
        refine lv_iload hx hb d_Pt_joined_36 (lv_at hl 0 rfl) ?_
        refine ry_callS (n := 2) (As := [.int 2, .int (nI (max (b1 2) (b2 2)) - 1)]) (rest := [.long (lN (es (jn b1 b2) 2))]) ⟨hx, hb, hml, hown, htb⟩ (c_Pt_only l 2 (max (b1 2) (b2 2)) (by decide) (by omega)) (gS mw_353 mw_340 mw_12 mc_Pt_only) rfl rfl (by decide +kernel) ⟨Nat.le_of_ble_eq_true rfl, Nat.le_of_ble_eq_true rfl⟩ rfl hl.1 rfl (Nat.le_of_ble_eq_true rfl) d_Pt_joined_38 ⟨Nat.zero_le _, Nat.zero_le _⟩ (fun r_16 hr_16 => ?_)
        subst hr_16
        refine W.eq (g2 := F0 m 41 ls [.long (lN ((max (b1 2) (b2 2)) * 256 ^ 2)), .long (lN (es (jn b1 b2) 2))]) rfl ?_
        refine lv_lor hx hb d_Pt_joined_41 ?_
        refine lv_topl (fun x_17 ex_17 => ?_)
        rw [show ((lN (es (jn b1 b2) 2)) ||| (lN ((max (b1 2) (b2 2)) * 256 ^ 2)) : Int64) = lN (es (jn b1 b2) 3) from or_jn hb1 hb2 (k := 2) (by decide)] at ex_17
        subst ex_17
        refine lv_lstore (lv' := [(4, .long (lN (es (jn b1 b2) 3))), (8, .int (nI (max (b1 2) (b2 2)) - 1)), (7, .int 2), (6, .int (nI (max (max 0 (max (b1 0) (b2 0))) (max (b1 1) (b2 1))) - 1)), (0, .long (en b1)), (2, .long (en b2))]) hx hb d_Pt_joined_42 hl (by decide) rfl (fun ls hl => ?_)
        refine lv_iload hx hb d_Pt_joined_44 (lv_at hl 3 rfl) ?_
        refine lv_iload hx hb d_Pt_joined_46 (lv_at hl 1 rfl) ?_
        refine va_mmax hx hb (by rw [hml]; exact hl.1.symm) hown (htb _ mw_357) (htb _ mw_145) (htb _ mw_11) (htb _ mc_max) (Nat.le_of_ble_eq_true rfl) (Nat.le_of_ble_eq_true rfl) (Nat.zero_le _) (Nat.zero_le _) d_Pt_joined_48 ?_
        refine lv_topi (fun x_18 ex_18 => ?_)
        rw [m1_max (by omega) (by omega)] at ex_18
        subst ex_18
        refine lv_istore (lv' := [(6, .int (nI (max (max (max 0 (max (b1 0) (b2 0))) (max (b1 1) (b2 1))) (max (b1 2) (b2 2))) - 1)), (4, .long (lN (es (jn b1 b2) 3))), (8, .int (nI (max (b1 2) (b2 2)) - 1)), (7, .int 2), (0, .long (en b1)), (2, .long (en b2))]) hx hb d_Pt_joined_51 hl (by decide) rfl (fun ls hl => ?_)
        refine lv_iinc (v := 3) (lv' := [(7, .int 3), (6, .int (nI (max (max (max 0 (max (b1 0) (b2 0))) (max (b1 1) (b2 1))) (max (b1 2) (b2 2))) - 1)), (4, .long (lN (es (jn b1 b2) 3))), (8, .int (nI (max (b1 2) (b2 2)) - 1)), (0, .long (en b1)), (2, .long (en b2))]) hx hb d_Pt_joined_53 hl (k := 3) rfl (by first | rfl | decide) (by decide) rfl (fun ls hl => ?_)
        refine lv_goto (tgt := 9) hx hb d_Pt_joined_56 (by decide) ?_
        refine lv_iload hx hb d_Pt_joined_9 (lv_at hl 0 rfl) ?_
        refine lv_iconst (v := 5) hx hb d_Pt_joined_11 (by decide) ?_
        refine lv_icmp_ge (tgt := 59) hx hb d_Pt_joined_12 (by decide) (fun c_12_3 => ?_) (fun c_12_3 => ?_)
        · exact absurd c_12_3 (by decide)
        · refine lv_lload_n hx hb d_Pt_joined_15 rfl (lv_at hl 4 rfl) ?_
          refine lv_iload hx hb d_Pt_joined_16 (lv_at hl 0 rfl) ?_
          refine ry_callS (n := 2) (As := [.long (en b1), .int 3]) (rest := []) ⟨hx, hb, hml, hown, htb⟩ (c_Pt_at l b1 hb1 3 (by decide)) (gS mw_349 mw_350 mw_12 mc_Pt_at) rfl rfl (by decide +kernel) ⟨Nat.le_of_ble_eq_true rfl, Nat.le_of_ble_eq_true rfl⟩ rfl hl.1 rfl (Nat.le_of_ble_eq_true rfl) d_Pt_joined_18 ⟨Nat.zero_le _, Nat.zero_le _⟩ (fun r_19 hr_19 => ?_)
          subst hr_19
          refine W.eq (g2 := F0 m 21 ls [.int (nI (b1 3) - 1)]) rfl ?_
          refine lv_lload_n hx hb d_Pt_joined_21 rfl (lv_at hl 5 rfl) ?_
          refine lv_iload hx hb d_Pt_joined_22 (lv_at hl 0 rfl) ?_
          refine ry_callS (n := 2) (As := [.long (en b2), .int 3]) (rest := [.int (nI (b1 3) - 1)]) ⟨hx, hb, hml, hown, htb⟩ (c_Pt_at l b2 hb2 3 (by decide)) (gS mw_349 mw_350 mw_12 mc_Pt_at) rfl rfl (by decide +kernel) ⟨Nat.le_of_ble_eq_true rfl, Nat.le_of_ble_eq_true rfl⟩ rfl hl.1 rfl (Nat.le_of_ble_eq_true rfl) d_Pt_joined_24 ⟨Nat.zero_le _, Nat.zero_le _⟩ (fun r_20 hr_20 => ?_)
          subst hr_20
          refine W.eq (g2 := F0 m 27 ls [.int (nI (b2 3) - 1), .int (nI (b1 3) - 1)]) rfl ?_
          refine va_mmax hx hb (by rw [hml]; exact hl.1.symm) hown (htb _ mw_357) (htb _ mw_145) (htb _ mw_11) (htb _ mc_max) (Nat.le_of_ble_eq_true rfl) (Nat.le_of_ble_eq_true rfl) (Nat.zero_le _) (Nat.zero_le _) d_Pt_joined_27 ?_
          refine lv_topi (fun x_21 ex_21 => ?_)
          rw [m1_max (by omega) (by omega)] at ex_21
          subst ex_21
          refine lv_istore (lv' := [(8, .int (nI (max (b1 3) (b2 3)) - 1)), (7, .int 3), (6, .int (nI (max (max (max 0 (max (b1 0) (b2 0))) (max (b1 1) (b2 1))) (max (b1 2) (b2 2))) - 1)), (4, .long (lN (es (jn b1 b2) 3))), (0, .long (en b1)), (2, .long (en b2))]) hx hb d_Pt_joined_30 hl (by decide) rfl (fun ls hl => ?_)
          refine lv_lload hx hb d_Pt_joined_32 (lv_at hl 3 rfl) ?_
          refine lv_iload hx hb d_Pt_joined_34 (lv_at hl 1 rfl) ?_
          refine lv_iload hx hb d_Pt_joined_36 (lv_at hl 0 rfl) ?_
          refine ry_callS (n := 2) (As := [.int 3, .int (nI (max (b1 3) (b2 3)) - 1)]) (rest := [.long (lN (es (jn b1 b2) 3))]) ⟨hx, hb, hml, hown, htb⟩ (c_Pt_only l 3 (max (b1 3) (b2 3)) (by decide) (by omega)) (gS mw_353 mw_340 mw_12 mc_Pt_only) rfl rfl (by decide +kernel) ⟨Nat.le_of_ble_eq_true rfl, Nat.le_of_ble_eq_true rfl⟩ rfl hl.1 rfl (Nat.le_of_ble_eq_true rfl) d_Pt_joined_38 ⟨Nat.zero_le _, Nat.zero_le _⟩ (fun r_22 hr_22 => ?_)
          subst hr_22
          refine W.eq (g2 := F0 m 41 ls [.long (lN ((max (b1 3) (b2 3)) * 256 ^ 3)), .long (lN (es (jn b1 b2) 3))]) rfl ?_
          refine lv_lor hx hb d_Pt_joined_41 ?_
          refine lv_topl (fun x_23 ex_23 => ?_)
          rw [show ((lN (es (jn b1 b2) 3)) ||| (lN ((max (b1 3) (b2 3)) * 256 ^ 3)) : Int64) = lN (es (jn b1 b2) 4) from or_jn hb1 hb2 (k := 3) (by decide)] at ex_23
          subst ex_23
          refine lv_lstore (lv' := [(4, .long (lN (es (jn b1 b2) 4))), (8, .int (nI (max (b1 3) (b2 3)) - 1)), (7, .int 3), (6, .int (nI (max (max (max 0 (max (b1 0) (b2 0))) (max (b1 1) (b2 1))) (max (b1 2) (b2 2))) - 1)), (0, .long (en b1)), (2, .long (en b2))]) hx hb d_Pt_joined_42 hl (by decide) rfl (fun ls hl => ?_)
          refine lv_iload hx hb d_Pt_joined_44 (lv_at hl 3 rfl) ?_
          refine lv_iload hx hb d_Pt_joined_46 (lv_at hl 1 rfl) ?_
          refine va_mmax hx hb (by rw [hml]; exact hl.1.symm) hown (htb _ mw_357) (htb _ mw_145) (htb _ mw_11) (htb _ mc_max) (Nat.le_of_ble_eq_true rfl) (Nat.le_of_ble_eq_true rfl) (Nat.zero_le _) (Nat.zero_le _) d_Pt_joined_48 ?_
          refine lv_topi (fun x_24 ex_24 => ?_)
          rw [m1_max (by omega) (by omega)] at ex_24
          subst ex_24
          refine lv_istore (lv' := [(6, .int (nI (max (max (max (max 0 (max (b1 0) (b2 0))) (max (b1 1) (b2 1))) (max (b1 2) (b2 2))) (max (b1 3) (b2 3))) - 1)), (4, .long (lN (es (jn b1 b2) 4))), (8, .int (nI (max (b1 3) (b2 3)) - 1)), (7, .int 3), (0, .long (en b1)), (2, .long (en b2))]) hx hb d_Pt_joined_51 hl (by decide) rfl (fun ls hl => ?_)
          refine lv_iinc (v := 4) (lv' := [(7, .int 4), (6, .int (nI (max (max (max (max 0 (max (b1 0) (b2 0))) (max (b1 1) (b2 1))) (max (b1 2) (b2 2))) (max (b1 3) (b2 3))) - 1)), (4, .long (lN (es (jn b1 b2) 4))), (8, .int (nI (max (b1 3) (b2 3)) - 1)), (0, .long (en b1)), (2, .long (en b2))]) hx hb d_Pt_joined_53 hl (k := 3) rfl (by first | rfl | decide) (by decide) rfl (fun ls hl => ?_)
          refine lv_goto (tgt := 9) hx hb d_Pt_joined_56 (by decide) ?_
          refine lv_iload hx hb d_Pt_joined_9 (lv_at hl 0 rfl) ?_
          refine lv_iconst (v := 5) hx hb d_Pt_joined_11 (by decide) ?_
          refine lv_icmp_ge (tgt := 59) hx hb d_Pt_joined_12 (by decide) (fun c_12_4 => ?_) (fun c_12_4 => ?_)
          · exact absurd c_12_4 (by decide)
          · refine lv_lload_n hx hb d_Pt_joined_15 rfl (lv_at hl 4 rfl) ?_
            refine lv_iload hx hb d_Pt_joined_16 (lv_at hl 0 rfl) ?_
            refine ry_callS (n := 2) (As := [.long (en b1), .int 4]) (rest := []) ⟨hx, hb, hml, hown, htb⟩ (c_Pt_at l b1 hb1 4 (by decide)) (gS mw_349 mw_350 mw_12 mc_Pt_at) rfl rfl (by decide +kernel) ⟨Nat.le_of_ble_eq_true rfl, Nat.le_of_ble_eq_true rfl⟩ rfl hl.1 rfl (Nat.le_of_ble_eq_true rfl) d_Pt_joined_18 ⟨Nat.zero_le _, Nat.zero_le _⟩ (fun r_25 hr_25 => ?_)
            subst hr_25
            refine W.eq (g2 := F0 m 21 ls [.int (nI (b1 4) - 1)]) rfl ?_
            refine lv_lload_n hx hb d_Pt_joined_21 rfl (lv_at hl 5 rfl) ?_
            refine lv_iload hx hb d_Pt_joined_22 (lv_at hl 0 rfl) ?_
            refine ry_callS (n := 2) (As := [.long (en b2), .int 4]) (rest := [.int (nI (b1 4) - 1)]) ⟨hx, hb, hml, hown, htb⟩ (c_Pt_at l b2 hb2 4 (by decide)) (gS mw_349 mw_350 mw_12 mc_Pt_at) rfl rfl (by decide +kernel) ⟨Nat.le_of_ble_eq_true rfl, Nat.le_of_ble_eq_true rfl⟩ rfl hl.1 rfl (Nat.le_of_ble_eq_true rfl) d_Pt_joined_24 ⟨Nat.zero_le _, Nat.zero_le _⟩ (fun r_26 hr_26 => ?_)
            subst hr_26
            refine W.eq (g2 := F0 m 27 ls [.int (nI (b2 4) - 1), .int (nI (b1 4) - 1)]) rfl ?_
            refine va_mmax hx hb (by rw [hml]; exact hl.1.symm) hown (htb _ mw_357) (htb _ mw_145) (htb _ mw_11) (htb _ mc_max) (Nat.le_of_ble_eq_true rfl) (Nat.le_of_ble_eq_true rfl) (Nat.zero_le _) (Nat.zero_le _) d_Pt_joined_27 ?_
            refine lv_topi (fun x_27 ex_27 => ?_)
            rw [m1_max (by omega) (by omega)] at ex_27
            subst ex_27
            refine lv_istore (lv' := [(8, .int (nI (max (b1 4) (b2 4)) - 1)), (7, .int 4), (6, .int (nI (max (max (max (max 0 (max (b1 0) (b2 0))) (max (b1 1) (b2 1))) (max (b1 2) (b2 2))) (max (b1 3) (b2 3))) - 1)), (4, .long (lN (es (jn b1 b2) 4))), (0, .long (en b1)), (2, .long (en b2))]) hx hb d_Pt_joined_30 hl (by decide) rfl (fun ls hl => ?_)
            refine lv_lload hx hb d_Pt_joined_32 (lv_at hl 3 rfl) ?_
            refine lv_iload hx hb d_Pt_joined_34 (lv_at hl 1 rfl) ?_
            refine lv_iload hx hb d_Pt_joined_36 (lv_at hl 0 rfl) ?_
            refine ry_callS (n := 2) (As := [.int 4, .int (nI (max (b1 4) (b2 4)) - 1)]) (rest := [.long (lN (es (jn b1 b2) 4))]) ⟨hx, hb, hml, hown, htb⟩ (c_Pt_only l 4 (max (b1 4) (b2 4)) (by decide) (by omega)) (gS mw_353 mw_340 mw_12 mc_Pt_only) rfl rfl (by decide +kernel) ⟨Nat.le_of_ble_eq_true rfl, Nat.le_of_ble_eq_true rfl⟩ rfl hl.1 rfl (Nat.le_of_ble_eq_true rfl) d_Pt_joined_38 ⟨Nat.zero_le _, Nat.zero_le _⟩ (fun r_28 hr_28 => ?_)
            subst hr_28
            refine W.eq (g2 := F0 m 41 ls [.long (lN ((max (b1 4) (b2 4)) * 256 ^ 4)), .long (lN (es (jn b1 b2) 4))]) rfl ?_
            refine lv_lor hx hb d_Pt_joined_41 ?_
            refine lv_topl (fun x_29 ex_29 => ?_)
            rw [show ((lN (es (jn b1 b2) 4)) ||| (lN ((max (b1 4) (b2 4)) * 256 ^ 4)) : Int64) = lN (es (jn b1 b2) 5) from or_jn hb1 hb2 (k := 4) (by decide)] at ex_29
            subst ex_29
            refine lv_lstore (lv' := [(4, .long (lN (es (jn b1 b2) 5))), (8, .int (nI (max (b1 4) (b2 4)) - 1)), (7, .int 4), (6, .int (nI (max (max (max (max 0 (max (b1 0) (b2 0))) (max (b1 1) (b2 1))) (max (b1 2) (b2 2))) (max (b1 3) (b2 3))) - 1)), (0, .long (en b1)), (2, .long (en b2))]) hx hb d_Pt_joined_42 hl (by decide) rfl (fun ls hl => ?_)
            refine lv_iload hx hb d_Pt_joined_44 (lv_at hl 3 rfl) ?_
            refine lv_iload hx hb d_Pt_joined_46 (lv_at hl 1 rfl) ?_
            refine va_mmax hx hb (by rw [hml]; exact hl.1.symm) hown (htb _ mw_357) (htb _ mw_145) (htb _ mw_11) (htb _ mc_max) (Nat.le_of_ble_eq_true rfl) (Nat.le_of_ble_eq_true rfl) (Nat.zero_le _) (Nat.zero_le _) d_Pt_joined_48 ?_
            refine lv_topi (fun x_30 ex_30 => ?_)
            rw [m1_max (by omega) (by omega)] at ex_30
            subst ex_30
            refine lv_istore (lv' := [(6, .int (nI (max (max (max (max (max 0 (max (b1 0) (b2 0))) (max (b1 1) (b2 1))) (max (b1 2) (b2 2))) (max (b1 3) (b2 3))) (max (b1 4) (b2 4))) - 1)), (4, .long (lN (es (jn b1 b2) 5))), (8, .int (nI (max (b1 4) (b2 4)) - 1)), (7, .int 4), (0, .long (en b1)), (2, .long (en b2))]) hx hb d_Pt_joined_51 hl (by decide) rfl (fun ls hl => ?_)
            refine lv_iinc (v := 5) (lv' := [(7, .int 5), (6, .int (nI (max (max (max (max (max 0 (max (b1 0) (b2 0))) (max (b1 1) (b2 1))) (max (b1 2) (b2 2))) (max (b1 3) (b2 3))) (max (b1 4) (b2 4))) - 1)), (4, .long (lN (es (jn b1 b2) 5))), (8, .int (nI (max (b1 4) (b2 4)) - 1)), (0, .long (en b1)), (2, .long (en b2))]) hx hb d_Pt_joined_53 hl (k := 3) rfl (by first | rfl | decide) (by decide) rfl (fun ls hl => ?_)
            refine lv_goto (tgt := 9) hx hb d_Pt_joined_56 (by decide) ?_
            refine lv_iload hx hb d_Pt_joined_9 (lv_at hl 0 rfl) ?_
            refine lv_iconst (v := 5) hx hb d_Pt_joined_11 (by decide) ?_
            refine lv_icmp_ge (tgt := 59) hx hb d_Pt_joined_12 (by decide) (fun c_12_5 => ?_) (fun c_12_5 => ?_)
            · refine lv_lload_n hx hb d_Pt_joined_59 rfl (lv_at hl 4 rfl) ?_
              refine lv_iconst (v := 5) hx hb d_Pt_joined_60 (by decide) ?_
              refine ry_callS (n := 2) (As := [.long (en b1), .int 5]) (rest := []) ⟨hx, hb, hml, hown, htb⟩ (c_Pt_at l b1 hb1 5 (by decide)) (gS mw_349 mw_350 mw_12 mc_Pt_at) rfl rfl (by decide +kernel) ⟨Nat.le_of_ble_eq_true rfl, Nat.le_of_ble_eq_true rfl⟩ rfl hl.1 rfl (Nat.le_of_ble_eq_true rfl) d_Pt_joined_61 ⟨Nat.zero_le _, Nat.zero_le _⟩ (fun r_31 hr_31 => ?_)
              subst hr_31
              refine W.eq (g2 := F0 m 64 ls [.int (nI (b1 5) - 1)]) rfl ?_
              refine lv_lload_n hx hb d_Pt_joined_64 rfl (lv_at hl 5 rfl) ?_
              refine lv_iconst (v := 5) hx hb d_Pt_joined_65 (by decide) ?_
              refine ry_callS (n := 2) (As := [.long (en b2), .int 5]) (rest := [.int (nI (b1 5) - 1)]) ⟨hx, hb, hml, hown, htb⟩ (c_Pt_at l b2 hb2 5 (by decide)) (gS mw_349 mw_350 mw_12 mc_Pt_at) rfl rfl (by decide +kernel) ⟨Nat.le_of_ble_eq_true rfl, Nat.le_of_ble_eq_true rfl⟩ rfl hl.1 rfl (Nat.le_of_ble_eq_true rfl) d_Pt_joined_66 ⟨Nat.zero_le _, Nat.zero_le _⟩ (fun r_32 hr_32 => ?_)
              subst hr_32
              refine W.eq (g2 := F0 m 69 ls [.int (nI (b2 5) - 1), .int (nI (b1 5) - 1)]) rfl ?_
              refine va_mmax hx hb (by rw [hml]; exact hl.1.symm) hown (htb _ mw_357) (htb _ mw_145) (htb _ mw_11) (htb _ mc_max) (Nat.le_of_ble_eq_true rfl) (Nat.le_of_ble_eq_true rfl) (Nat.zero_le _) (Nat.zero_le _) d_Pt_joined_69 ?_
              refine lv_topi (fun x_33 ex_33 => ?_)
              rw [m1_max (by omega) (by omega)] at ex_33
              subst ex_33
              refine lv_istore (lv' := [(7, .int (nI (max (b1 5) (b2 5)) - 1)), (6, .int (nI (max (max (max (max (max 0 (max (b1 0) (b2 0))) (max (b1 1) (b2 1))) (max (b1 2) (b2 2))) (max (b1 3) (b2 3))) (max (b1 4) (b2 4))) - 1)), (4, .long (lN (es (jn b1 b2) 5))), (8, .int (nI (max (b1 4) (b2 4)) - 1)), (0, .long (en b1)), (2, .long (en b2))]) hx hb d_Pt_joined_72 hl (by decide) rfl (fun ls hl => ?_)
              refine lv_iload hx hb d_Pt_joined_74 (lv_at hl 1 rfl) ?_
              refine lv_iconst (v := (-1)) hx hb d_Pt_joined_76 (by decide) ?_
              refine lv_icmp_eq (tgt := 89) hx hb d_Pt_joined_77 (by decide) (fun c_77 => ?_) (fun c_77 => ?_)
              · refine lv_iconst (v := 1) hx hb d_Pt_joined_89 (by decide) ?_
                refine lv_goto (tgt := 94) hx hb d_Pt_joined_90 (by decide) ?_
                refine lv_istore (lv' := [(8, .int 1), (7, .int (nI (max (b1 5) (b2 5)) - 1)), (6, .int (nI (max (max (max (max (max 0 (max (b1 0) (b2 0))) (max (b1 1) (b2 1))) (max (b1 2) (b2 2))) (max (b1 3) (b2 3))) (max (b1 4) (b2 4))) - 1)), (4, .long (lN (es (jn b1 b2) 5))), (0, .long (en b1)), (2, .long (en b2))]) hx hb d_Pt_joined_94 hl (by decide) rfl (fun ls hl => ?_)
                refine lv_iload hx hb d_Pt_joined_96 (lv_at hl 0 rfl) ?_
                refine lv_if_eq (tgt := 113) hx hb d_Pt_joined_98 (by decide) (fun c_98 => ?_) (fun c_98 => ?_)
                · exact absurd c_98 (by decide)
                · refine lv_lload hx hb d_Pt_joined_101 (lv_at hl 3 rfl) ?_
                  refine lv_iconst (v := 5) hx hb d_Pt_joined_103 (by decide) ?_
                  refine lv_iload hx hb d_Pt_joined_104 (lv_at hl 1 rfl) ?_
                  refine ry_callS (n := 2) (As := [.int 5, .int (nI (max (b1 5) (b2 5)) - 1)]) (rest := [.long (lN (es (jn b1 b2) 5))]) ⟨hx, hb, hml, hown, htb⟩ (c_Pt_only l 5 (max (b1 5) (b2 5)) (by decide) (by omega)) (gS mw_353 mw_340 mw_12 mc_Pt_only) rfl rfl (by decide +kernel) ⟨Nat.le_of_ble_eq_true rfl, Nat.le_of_ble_eq_true rfl⟩ rfl hl.1 rfl (Nat.le_of_ble_eq_true rfl) d_Pt_joined_106 ⟨Nat.zero_le _, Nat.zero_le _⟩ (fun r_34 hr_34 => ?_)
                  subst hr_34
                  refine W.eq (g2 := F0 m 109 ls [.long (lN ((max (b1 5) (b2 5)) * 256 ^ 5)), .long (lN (es (jn b1 b2) 5))]) rfl ?_
                  refine lv_lor hx hb d_Pt_joined_109 ?_
                  refine lv_goto (tgt := 115) hx hb d_Pt_joined_110 (by decide) ?_
                  exact W.lret (v := ((lN (es (jn b1 b2) 5)) ||| (lN ((max (b1 5) (b2 5)) * 256 ^ 5)) : Int64)) hx hb hr (fun t ht hW => ⟨((lN (es (jn b1 b2) 5)) ||| (lN ((max (b1 5) (b2 5)) * 256 ^ 5)) : Int64), rfl, (or_jn5 hb1 hb2 (Or.inl ((m1_none (by omega)).mp c_77))), ht⟩) (fun _ h => by cases h) d_Pt_joined_115
              · refine lv_iload hx hb d_Pt_joined_80 (lv_at hl 0 rfl) ?_
                refine lv_iload hx hb d_Pt_joined_82 (lv_at hl 1 rfl) ?_
                refine lv_iconst (v := 1) hx hb d_Pt_joined_84 (by decide) ?_
                refine lv_iadd hx hb d_Pt_joined_85 ?_
                rw [m1_add]
                refine lv_icmp_le (tgt := 93) hx hb d_Pt_joined_86 (by decide) (fun c_86 => ?_) (fun c_86 => ?_)
                · refine lv_iconst (v := 0) hx hb d_Pt_joined_93 (by decide) ?_
                  refine lv_istore (lv' := [(8, .int 0), (7, .int (nI (max (b1 5) (b2 5)) - 1)), (6, .int (nI (max (max (max (max (max 0 (max (b1 0) (b2 0))) (max (b1 1) (b2 1))) (max (b1 2) (b2 2))) (max (b1 3) (b2 3))) (max (b1 4) (b2 4))) - 1)), (4, .long (lN (es (jn b1 b2) 5))), (0, .long (en b1)), (2, .long (en b2))]) hx hb d_Pt_joined_94 hl (by decide) rfl (fun ls hl => ?_)
                  refine lv_iload hx hb d_Pt_joined_96 (lv_at hl 0 rfl) ?_
                  refine lv_if_eq (tgt := 113) hx hb d_Pt_joined_98 (by decide) (fun c_98 => ?_) (fun c_98 => ?_)
                  · refine lv_lload hx hb d_Pt_joined_113 (lv_at hl 3 rfl) ?_
                    exact W.lret (v := (lN (es (jn b1 b2) 5))) hx hb hr (fun t ht hW => ⟨(lN (es (jn b1 b2) 5)), rfl, (en_jn0 (fun z => c_77 ((m1_none (by omega)).mpr z)) (Nat.not_lt.mpr ((m1_le_n (by omega) (by omega)).mp c_86))), ht⟩) (fun _ h => by cases h) d_Pt_joined_115
                  · exact absurd c_98 (by decide)
                · refine lv_iconst (v := 1) hx hb d_Pt_joined_89 (by decide) ?_
                  refine lv_goto (tgt := 94) hx hb d_Pt_joined_90 (by decide) ?_
                  refine lv_istore (lv' := [(8, .int 1), (7, .int (nI (max (b1 5) (b2 5)) - 1)), (6, .int (nI (max (max (max (max (max 0 (max (b1 0) (b2 0))) (max (b1 1) (b2 1))) (max (b1 2) (b2 2))) (max (b1 3) (b2 3))) (max (b1 4) (b2 4))) - 1)), (4, .long (lN (es (jn b1 b2) 5))), (0, .long (en b1)), (2, .long (en b2))]) hx hb d_Pt_joined_94 hl (by decide) rfl (fun ls hl => ?_)
                  refine lv_iload hx hb d_Pt_joined_96 (lv_at hl 0 rfl) ?_
                  refine lv_if_eq (tgt := 113) hx hb d_Pt_joined_98 (by decide) (fun c_98 => ?_) (fun c_98 => ?_)
                  · exact absurd c_98 (by decide)
                  · refine lv_lload hx hb d_Pt_joined_101 (lv_at hl 3 rfl) ?_
                    refine lv_iconst (v := 5) hx hb d_Pt_joined_103 (by decide) ?_
                    refine lv_iload hx hb d_Pt_joined_104 (lv_at hl 1 rfl) ?_
                    refine ry_callS (n := 2) (As := [.int 5, .int (nI (max (b1 5) (b2 5)) - 1)]) (rest := [.long (lN (es (jn b1 b2) 5))]) ⟨hx, hb, hml, hown, htb⟩ (c_Pt_only l 5 (max (b1 5) (b2 5)) (by decide) (by omega)) (gS mw_353 mw_340 mw_12 mc_Pt_only) rfl rfl (by decide +kernel) ⟨Nat.le_of_ble_eq_true rfl, Nat.le_of_ble_eq_true rfl⟩ rfl hl.1 rfl (Nat.le_of_ble_eq_true rfl) d_Pt_joined_106 ⟨Nat.zero_le _, Nat.zero_le _⟩ (fun r_35 hr_35 => ?_)
                    subst hr_35
                    refine W.eq (g2 := F0 m 109 ls [.long (lN ((max (b1 5) (b2 5)) * 256 ^ 5)), .long (lN (es (jn b1 b2) 5))]) rfl ?_
                    refine lv_lor hx hb d_Pt_joined_109 ?_
                    refine lv_goto (tgt := 115) hx hb d_Pt_joined_110 (by decide) ?_
                    exact W.lret (v := ((lN (es (jn b1 b2) 5)) ||| (lN ((max (b1 5) (b2 5)) * 256 ^ 5)) : Int64)) hx hb hr (fun t ht hW => ⟨((lN (es (jn b1 b2) 5)) ||| (lN ((max (b1 5) (b2 5)) * 256 ^ 5)) : Int64), rfl, (or_jn5 hb1 hb2 (Or.inr (Nat.lt_of_not_le fun z => c_86 ((m1_le_n (by omega) (by omega)).mpr z)))), ht⟩) (fun _ h => by cases h) d_Pt_joined_115
            · exact absurd (by decide) c_12_5

set_option maxHeartbeats 4000000 in
set_option maxRecDepth 100000 in
theorem c_Pt_lastHigher (l : Launch) (b1 b2 : Nat → Nat) (hb1 : byt b1) (hb2 : byt b2) : Met l y_Pt_lastHigher (cw_Pt_lastHigher :: tb) (rmH 2 0 0) (va_Pc [.long (en b1), .long (en b2)] (fun _ => True)) (ry_S ry_i (fun r => r = lh b1 b2)) 0 0 (fun _ => False) := by
  refine Met.ofW (cc := b_Pt_lastHigher) (maxL := 5) (ret := (some .int)) (by decide +kernel) rfl ?_
  intro p e s m args below meth c s₁ B hml0 hv
  have C0 := cx_of B hml0 rfl
  obtain ⟨hx, hb, hr, hml, hown, htb, hlocks⟩ := id C0
  obtain ⟨rfl, -⟩ := hv
  have hl := lv_entry ([.long (en b1), .long (en b2)]) (n := 5) (Nat.le_of_ble_eq_true rfl)
  rw [lg_entry_eq]
  generalize (lg_sl ([.long (en b1), .long (en b2)]) ++ List.replicate (5 - (lg_sl ([.long (en b1), .long (en b2)])).length) Slot.unset).toArray = ls at hl ⊢
  have hl : lv_has ls 5 [(0, .long (en b1)), (2, .long (en b2))] := hl
  obtain ⟨q0, q1, q2, q3, q4, q5⟩ := byt_all hb1
  obtain ⟨u0, u1, u2, u3, u4, u5⟩ := byt_all hb2
  refine lv_iconst (v := 4) hx hb d_Pt_lastHigher_0 (by decide) ?_
  refine lv_istore (lv' := [(4, .int 4), (0, .long (en b1)), (2, .long (en b2))]) hx hb d_Pt_lastHigher_1 hl (by decide) rfl (fun ls hl => ?_)
  refine lv_iload hx hb d_Pt_lastHigher_3 (lv_at hl 0 rfl) ?_
  refine lv_if_lt (tgt := 32) hx hb d_Pt_lastHigher_5 (by decide) (fun c_5 => ?_) (fun c_5 => ?_)
  · exact absurd c_5 (by decide)
  · refine lv_lload_n hx hb d_Pt_lastHigher_8 rfl (lv_at hl 1 rfl) ?_
    refine lv_iload hx hb d_Pt_lastHigher_9 (lv_at hl 0 rfl) ?_
    refine ry_callS (n := 2) (As := [.long (en b1), .int 4]) (rest := []) ⟨hx, hb, hml, hown, htb⟩ (c_Pt_at l b1 hb1 4 (by decide)) (gS mw_349 mw_350 mw_12 mc_Pt_at) rfl rfl (by decide +kernel) ⟨Nat.le_of_ble_eq_true rfl, Nat.le_of_ble_eq_true rfl⟩ rfl hl.1 rfl (Nat.le_of_ble_eq_true rfl) d_Pt_lastHigher_11 ⟨Nat.zero_le _, Nat.zero_le _⟩ (fun r_1 hr_1 => ?_)
    subst hr_1
    refine W.eq (g2 := F0 m 14 ls [.int (nI (b1 4) - 1)]) rfl ?_
    refine lv_lload_n hx hb d_Pt_lastHigher_14 rfl (lv_at hl 2 rfl) ?_
    refine lv_iload hx hb d_Pt_lastHigher_15 (lv_at hl 0 rfl) ?_
    refine ry_callS (n := 2) (As := [.long (en b2), .int 4]) (rest := [.int (nI (b1 4) - 1)]) ⟨hx, hb, hml, hown, htb⟩ (c_Pt_at l b2 hb2 4 (by decide)) (gS mw_349 mw_350 mw_12 mc_Pt_at) rfl rfl (by decide +kernel) ⟨Nat.le_of_ble_eq_true rfl, Nat.le_of_ble_eq_true rfl⟩ rfl hl.1 rfl (Nat.le_of_ble_eq_true rfl) d_Pt_lastHigher_17 ⟨Nat.zero_le _, Nat.zero_le _⟩ (fun r_2 hr_2 => ?_)
    subst hr_2
    refine W.eq (g2 := F0 m 20 ls [.int (nI (b2 4) - 1), .int (nI (b1 4) - 1)]) rfl ?_
    refine lv_icmp_le (tgt := 26) hx hb d_Pt_lastHigher_20 (by decide) (fun c_20 => ?_) (fun c_20 => ?_)
    · refine lv_iinc (v := 3) (lv' := [(4, .int 3), (0, .long (en b1)), (2, .long (en b2))]) hx hb d_Pt_lastHigher_26 hl (k := 0) rfl (by first | rfl | decide) (by decide) rfl (fun ls hl => ?_)
      refine lv_goto (tgt := 3) hx hb d_Pt_lastHigher_29 (by decide) ?_
      refine lv_iload hx hb d_Pt_lastHigher_3 (lv_at hl 0 rfl) ?_
      refine lv_if_lt (tgt := 32) hx hb d_Pt_lastHigher_5 (by decide) (fun c_5_1 => ?_) (fun c_5_1 => ?_)
      · exact absurd c_5_1 (by decide)
      · refine lv_lload_n hx hb d_Pt_lastHigher_8 rfl (lv_at hl 1 rfl) ?_
        refine lv_iload hx hb d_Pt_lastHigher_9 (lv_at hl 0 rfl) ?_
        refine ry_callS (n := 2) (As := [.long (en b1), .int 3]) (rest := []) ⟨hx, hb, hml, hown, htb⟩ (c_Pt_at l b1 hb1 3 (by decide)) (gS mw_349 mw_350 mw_12 mc_Pt_at) rfl rfl (by decide +kernel) ⟨Nat.le_of_ble_eq_true rfl, Nat.le_of_ble_eq_true rfl⟩ rfl hl.1 rfl (Nat.le_of_ble_eq_true rfl) d_Pt_lastHigher_11 ⟨Nat.zero_le _, Nat.zero_le _⟩ (fun r_3 hr_3 => ?_)
        subst hr_3
        refine W.eq (g2 := F0 m 14 ls [.int (nI (b1 3) - 1)]) rfl ?_
        refine lv_lload_n hx hb d_Pt_lastHigher_14 rfl (lv_at hl 2 rfl) ?_
        refine lv_iload hx hb d_Pt_lastHigher_15 (lv_at hl 0 rfl) ?_
        refine ry_callS (n := 2) (As := [.long (en b2), .int 3]) (rest := [.int (nI (b1 3) - 1)]) ⟨hx, hb, hml, hown, htb⟩ (c_Pt_at l b2 hb2 3 (by decide)) (gS mw_349 mw_350 mw_12 mc_Pt_at) rfl rfl (by decide +kernel) ⟨Nat.le_of_ble_eq_true rfl, Nat.le_of_ble_eq_true rfl⟩ rfl hl.1 rfl (Nat.le_of_ble_eq_true rfl) d_Pt_lastHigher_17 ⟨Nat.zero_le _, Nat.zero_le _⟩ (fun r_4 hr_4 => ?_)
        subst hr_4
        refine W.eq (g2 := F0 m 20 ls [.int (nI (b2 3) - 1), .int (nI (b1 3) - 1)]) rfl ?_
        refine lv_icmp_le (tgt := 26) hx hb d_Pt_lastHigher_20 (by decide) (fun c_20_1 => ?_) (fun c_20_1 => ?_)
        · refine lv_iinc (v := 2) (lv' := [(4, .int 2), (0, .long (en b1)), (2, .long (en b2))]) hx hb d_Pt_lastHigher_26 hl (k := 0) rfl (by first | rfl | decide) (by decide) rfl (fun ls hl => ?_)
          refine lv_goto (tgt := 3) hx hb d_Pt_lastHigher_29 (by decide) ?_
          refine lv_iload hx hb d_Pt_lastHigher_3 (lv_at hl 0 rfl) ?_
          refine lv_if_lt (tgt := 32) hx hb d_Pt_lastHigher_5 (by decide) (fun c_5_2 => ?_) (fun c_5_2 => ?_)
          · exact absurd c_5_2 (by decide)
          · refine lv_lload_n hx hb d_Pt_lastHigher_8 rfl (lv_at hl 1 rfl) ?_
            refine lv_iload hx hb d_Pt_lastHigher_9 (lv_at hl 0 rfl) ?_
            refine ry_callS (n := 2) (As := [.long (en b1), .int 2]) (rest := []) ⟨hx, hb, hml, hown, htb⟩ (c_Pt_at l b1 hb1 2 (by decide)) (gS mw_349 mw_350 mw_12 mc_Pt_at) rfl rfl (by decide +kernel) ⟨Nat.le_of_ble_eq_true rfl, Nat.le_of_ble_eq_true rfl⟩ rfl hl.1 rfl (Nat.le_of_ble_eq_true rfl) d_Pt_lastHigher_11 ⟨Nat.zero_le _, Nat.zero_le _⟩ (fun r_5 hr_5 => ?_)
            subst hr_5
            refine W.eq (g2 := F0 m 14 ls [.int (nI (b1 2) - 1)]) rfl ?_
            refine lv_lload_n hx hb d_Pt_lastHigher_14 rfl (lv_at hl 2 rfl) ?_
            refine lv_iload hx hb d_Pt_lastHigher_15 (lv_at hl 0 rfl) ?_
            refine ry_callS (n := 2) (As := [.long (en b2), .int 2]) (rest := [.int (nI (b1 2) - 1)]) ⟨hx, hb, hml, hown, htb⟩ (c_Pt_at l b2 hb2 2 (by decide)) (gS mw_349 mw_350 mw_12 mc_Pt_at) rfl rfl (by decide +kernel) ⟨Nat.le_of_ble_eq_true rfl, Nat.le_of_ble_eq_true rfl⟩ rfl hl.1 rfl (Nat.le_of_ble_eq_true rfl) d_Pt_lastHigher_17 ⟨Nat.zero_le _, Nat.zero_le _⟩ (fun r_6 hr_6 => ?_)
            subst hr_6
            refine W.eq (g2 := F0 m 20 ls [.int (nI (b2 2) - 1), .int (nI (b1 2) - 1)]) rfl ?_
            refine lv_icmp_le (tgt := 26) hx hb d_Pt_lastHigher_20 (by decide) (fun c_20_2 => ?_) (fun c_20_2 => ?_)
            · refine lv_iinc (v := 1) (lv' := [(4, .int 1), (0, .long (en b1)), (2, .long (en b2))]) hx hb d_Pt_lastHigher_26 hl (k := 0) rfl (by first | rfl | decide) (by decide) rfl (fun ls hl => ?_)
              refine lv_goto (tgt := 3) hx hb d_Pt_lastHigher_29 (by decide) ?_
              refine lv_iload hx hb d_Pt_lastHigher_3 (lv_at hl 0 rfl) ?_
              refine lv_if_lt (tgt := 32) hx hb d_Pt_lastHigher_5 (by decide) (fun c_5_3 => ?_) (fun c_5_3 => ?_)
              · exact absurd c_5_3 (by decide)
              · refine lv_lload_n hx hb d_Pt_lastHigher_8 rfl (lv_at hl 1 rfl) ?_
                refine lv_iload hx hb d_Pt_lastHigher_9 (lv_at hl 0 rfl) ?_
                refine ry_callS (n := 2) (As := [.long (en b1), .int 1]) (rest := []) ⟨hx, hb, hml, hown, htb⟩ (c_Pt_at l b1 hb1 1 (by decide)) (gS mw_349 mw_350 mw_12 mc_Pt_at) rfl rfl (by decide +kernel) ⟨Nat.le_of_ble_eq_true rfl, Nat.le_of_ble_eq_true rfl⟩ rfl hl.1 rfl (Nat.le_of_ble_eq_true rfl) d_Pt_lastHigher_11 ⟨Nat.zero_le _, Nat.zero_le _⟩ (fun r_7 hr_7 => ?_)
                subst hr_7
                refine W.eq (g2 := F0 m 14 ls [.int (nI (b1 1) - 1)]) rfl ?_
                refine lv_lload_n hx hb d_Pt_lastHigher_14 rfl (lv_at hl 2 rfl) ?_
                refine lv_iload hx hb d_Pt_lastHigher_15 (lv_at hl 0 rfl) ?_
                refine ry_callS (n := 2) (As := [.long (en b2), .int 1]) (rest := [.int (nI (b1 1) - 1)]) ⟨hx, hb, hml, hown, htb⟩ (c_Pt_at l b2 hb2 1 (by decide)) (gS mw_349 mw_350 mw_12 mc_Pt_at) rfl rfl (by decide +kernel) ⟨Nat.le_of_ble_eq_true rfl, Nat.le_of_ble_eq_true rfl⟩ rfl hl.1 rfl (Nat.le_of_ble_eq_true rfl) d_Pt_lastHigher_17 ⟨Nat.zero_le _, Nat.zero_le _⟩ (fun r_8 hr_8 => ?_)
                subst hr_8
                refine W.eq (g2 := F0 m 20 ls [.int (nI (b2 1) - 1), .int (nI (b1 1) - 1)]) rfl ?_
                refine lv_icmp_le (tgt := 26) hx hb d_Pt_lastHigher_20 (by decide) (fun c_20_3 => ?_) (fun c_20_3 => ?_)
                · refine lv_iinc (v := 0) (lv' := [(4, .int 0), (0, .long (en b1)), (2, .long (en b2))]) hx hb d_Pt_lastHigher_26 hl (k := 0) rfl (by first | rfl | decide) (by decide) rfl (fun ls hl => ?_)
                  refine lv_goto (tgt := 3) hx hb d_Pt_lastHigher_29 (by decide) ?_
                  refine lv_iload hx hb d_Pt_lastHigher_3 (lv_at hl 0 rfl) ?_
                  refine lv_if_lt (tgt := 32) hx hb d_Pt_lastHigher_5 (by decide) (fun c_5_4 => ?_) (fun c_5_4 => ?_)
                  · exact absurd c_5_4 (by decide)
                  · refine lv_lload_n hx hb d_Pt_lastHigher_8 rfl (lv_at hl 1 rfl) ?_
                    refine lv_iload hx hb d_Pt_lastHigher_9 (lv_at hl 0 rfl) ?_
                    refine ry_callS (n := 2) (As := [.long (en b1), .int 0]) (rest := []) ⟨hx, hb, hml, hown, htb⟩ (c_Pt_at l b1 hb1 0 (by decide)) (gS mw_349 mw_350 mw_12 mc_Pt_at) rfl rfl (by decide +kernel) ⟨Nat.le_of_ble_eq_true rfl, Nat.le_of_ble_eq_true rfl⟩ rfl hl.1 rfl (Nat.le_of_ble_eq_true rfl) d_Pt_lastHigher_11 ⟨Nat.zero_le _, Nat.zero_le _⟩ (fun r_9 hr_9 => ?_)
                    subst hr_9
                    refine W.eq (g2 := F0 m 14 ls [.int (nI (b1 0) - 1)]) rfl ?_
                    refine lv_lload_n hx hb d_Pt_lastHigher_14 rfl (lv_at hl 2 rfl) ?_
                    refine lv_iload hx hb d_Pt_lastHigher_15 (lv_at hl 0 rfl) ?_
                    refine ry_callS (n := 2) (As := [.long (en b2), .int 0]) (rest := [.int (nI (b1 0) - 1)]) ⟨hx, hb, hml, hown, htb⟩ (c_Pt_at l b2 hb2 0 (by decide)) (gS mw_349 mw_350 mw_12 mc_Pt_at) rfl rfl (by decide +kernel) ⟨Nat.le_of_ble_eq_true rfl, Nat.le_of_ble_eq_true rfl⟩ rfl hl.1 rfl (Nat.le_of_ble_eq_true rfl) d_Pt_lastHigher_17 ⟨Nat.zero_le _, Nat.zero_le _⟩ (fun r_10 hr_10 => ?_)
                    subst hr_10
                    refine W.eq (g2 := F0 m 20 ls [.int (nI (b2 0) - 1), .int (nI (b1 0) - 1)]) rfl ?_
                    refine lv_icmp_le (tgt := 26) hx hb d_Pt_lastHigher_20 (by decide) (fun c_20_4 => ?_) (fun c_20_4 => ?_)
                    · refine lv_iinc (v := (-1)) (lv' := [(4, .int (-1)), (0, .long (en b1)), (2, .long (en b2))]) hx hb d_Pt_lastHigher_26 hl (k := 0) rfl (by first | rfl | decide) (by decide) rfl (fun ls hl => ?_)
                      refine lv_goto (tgt := 3) hx hb d_Pt_lastHigher_29 (by decide) ?_
                      refine lv_iload hx hb d_Pt_lastHigher_3 (lv_at hl 0 rfl) ?_
                      refine lv_if_lt (tgt := 32) hx hb d_Pt_lastHigher_5 (by decide) (fun c_5_5 => ?_) (fun c_5_5 => ?_)
                      · refine lv_iconst (v := (-1)) hx hb d_Pt_lastHigher_32 (by decide) ?_
                        exact W.iret (v := (-1)) hx hb hr (fun t ht hW => ⟨(-1), rfl, (by rw [lh, if_neg (fun z => absurd c_20 (fun y => absurd ((m1_le (by omega) (by omega)).mp y) (by omega))), if_neg (fun z => absurd c_20_1 (fun y => absurd ((m1_le (by omega) (by omega)).mp y) (by omega))), if_neg (fun z => absurd c_20_2 (fun y => absurd ((m1_le (by omega) (by omega)).mp y) (by omega))), if_neg (fun z => absurd c_20_3 (fun y => absurd ((m1_le (by omega) (by omega)).mp y) (by omega))), if_neg (fun z => absurd c_20_4 (fun y => absurd ((m1_le (by omega) (by omega)).mp y) (by omega)))]), ht⟩) (fun _ h => by cases h) d_Pt_lastHigher_33
                      · exact absurd (by decide) c_5_5
                    · refine lv_iload hx hb d_Pt_lastHigher_23 (lv_at hl 0 rfl) ?_
                      exact W.iret (v := 0) hx hb hr (fun t ht hW => ⟨0, rfl, (by rw [lh, if_neg (fun z => absurd c_20 (fun y => absurd ((m1_le (by omega) (by omega)).mp y) (by omega))), if_neg (fun z => absurd c_20_1 (fun y => absurd ((m1_le (by omega) (by omega)).mp y) (by omega))), if_neg (fun z => absurd c_20_2 (fun y => absurd ((m1_le (by omega) (by omega)).mp y) (by omega))), if_neg (fun z => absurd c_20_3 (fun y => absurd ((m1_le (by omega) (by omega)).mp y) (by omega))), if_pos (Nat.lt_of_not_le fun z => c_20_4 ((m1_le (by omega) (by omega)).mpr z))]), ht⟩) (fun _ h => by cases h) d_Pt_lastHigher_25
                · refine lv_iload hx hb d_Pt_lastHigher_23 (lv_at hl 0 rfl) ?_
                  exact W.iret (v := 1) hx hb hr (fun t ht hW => ⟨1, rfl, (by rw [lh, if_neg (fun z => absurd c_20 (fun y => absurd ((m1_le (by omega) (by omega)).mp y) (by omega))), if_neg (fun z => absurd c_20_1 (fun y => absurd ((m1_le (by omega) (by omega)).mp y) (by omega))), if_neg (fun z => absurd c_20_2 (fun y => absurd ((m1_le (by omega) (by omega)).mp y) (by omega))), if_pos (Nat.lt_of_not_le fun z => c_20_3 ((m1_le (by omega) (by omega)).mpr z))]), ht⟩) (fun _ h => by cases h) d_Pt_lastHigher_25
            · refine lv_iload hx hb d_Pt_lastHigher_23 (lv_at hl 0 rfl) ?_
              exact W.iret (v := 2) hx hb hr (fun t ht hW => ⟨2, rfl, (by rw [lh, if_neg (fun z => absurd c_20 (fun y => absurd ((m1_le (by omega) (by omega)).mp y) (by omega))), if_neg (fun z => absurd c_20_1 (fun y => absurd ((m1_le (by omega) (by omega)).mp y) (by omega))), if_pos (Nat.lt_of_not_le fun z => c_20_2 ((m1_le (by omega) (by omega)).mpr z))]), ht⟩) (fun _ h => by cases h) d_Pt_lastHigher_25
        · refine lv_iload hx hb d_Pt_lastHigher_23 (lv_at hl 0 rfl) ?_
          exact W.iret (v := 3) hx hb hr (fun t ht hW => ⟨3, rfl, (by rw [lh, if_neg (fun z => absurd c_20 (fun y => absurd ((m1_le (by omega) (by omega)).mp y) (by omega))), if_pos (Nat.lt_of_not_le fun z => c_20_1 ((m1_le (by omega) (by omega)).mpr z))]), ht⟩) (fun _ h => by cases h) d_Pt_lastHigher_25
    · refine lv_iload hx hb d_Pt_lastHigher_23 (lv_at hl 0 rfl) ?_
      exact W.iret (v := 4) hx hb hr (fun t ht hW => ⟨4, rfl, (by rw [lh, if_pos (Nat.lt_of_not_le fun z => c_20 ((m1_le (by omega) (by omega)).mpr z))]), ht⟩) (fun _ h => by cases h) d_Pt_lastHigher_25

set_option maxHeartbeats 4000000 in
set_option maxRecDepth 100000 in
theorem c_Pt_areAtMost (l : Launch) (b1 b2 : Nat → Nat) (hb1 : byt b1) (hb2 : byt b2) : Met l y_Pt_areAtMost (cw_Pt_areAtMost :: tb) (rmH 3 0 0) (va_Pc [.long (en b1), .long (en b2)] (fun _ => True)) (ry_S ry_i (fun r => r = if lh b1 b2 = -1 ∧ b1 5 ≤ vo b2 + 1 then 1 else 0)) 0 0 (fun _ => False) := by
  refine Met.ofW (cc := b_Pt_areAtMost) (maxL := 4) (ret := (some .boolean)) (by decide +kernel) rfl ?_
  intro p e s m args below meth c s₁ B hml0 hv
  have C0 := cx_of B hml0 rfl
  obtain ⟨hx, hb, hr, hml, hown, htb, hlocks⟩ := id C0
  obtain ⟨rfl, -⟩ := hv
  have hl := lv_entry ([.long (en b1), .long (en b2)]) (n := 4) (Nat.le_of_ble_eq_true rfl)
  rw [lg_entry_eq]
  generalize (lg_sl ([.long (en b1), .long (en b2)]) ++ List.replicate (4 - (lg_sl ([.long (en b1), .long (en b2)])).length) Slot.unset).toArray = ls at hl ⊢
  have hl : lv_has ls 4 [(0, .long (en b1)), (2, .long (en b2))] := hl
  obtain ⟨q0, q1, q2, q3, q4, q5⟩ := byt_all hb1
  obtain ⟨u0, u1, u2, u3, u4, u5⟩ := byt_all hb2
  have hv1 := vo_lt hb1
  have hv2 := vo_lt hb2
  refine lv_lload_n hx hb d_Pt_areAtMost_0 rfl (lv_at hl 0 rfl) ?_
  refine lv_lload_n hx hb d_Pt_areAtMost_1 rfl (lv_at hl 1 rfl) ?_
  refine ry_callS (n := 2) (As := [.long (en b1), .long (en b2)]) (rest := []) ⟨hx, hb, hml, hown, htb⟩ (c_Pt_lastHigher l b1 b2 hb1 hb2) (gS mw_465 mw_466 mw_12 mc_Pt_lastHigher) rfl rfl (by decide +kernel) ⟨Nat.le_of_ble_eq_true rfl, Nat.le_of_ble_eq_true rfl⟩ rfl hl.1 rfl (Nat.le_of_ble_eq_true rfl) d_Pt_areAtMost_2 ⟨Nat.zero_le _, Nat.zero_le _⟩ (fun r_1 hr_1 => ?_)
  subst hr_1
  refine W.eq (g2 := F0 m 5 ls [.int (lh b1 b2)]) rfl ?_
  refine lv_iconst (v := (-1)) hx hb d_Pt_areAtMost_5 (by decide) ?_
  refine lv_icmp_ne (tgt := 25) hx hb d_Pt_areAtMost_6 (by decide) (fun c_6 => ?_) (fun c_6 => ?_)
  · refine lv_iconst (v := 0) hx hb d_Pt_areAtMost_25 (by decide) ?_
    exact W.zret (v := 0) hx hb hr rfl (fun t ht hW => ⟨0, rfl, (by rw [if_neg (fun z => c_6 z.1)]), ht⟩) (fun _ h => by cases h) d_Pt_areAtMost_26
  · refine lv_lload_n hx hb d_Pt_areAtMost_9 rfl (lv_at hl 0 rfl) ?_
    refine lv_iconst (v := 5) hx hb d_Pt_areAtMost_10 (by decide) ?_
    refine ry_callS (n := 2) (As := [.long (en b1), .int 5]) (rest := []) ⟨hx, hb, hml, hown, htb⟩ (c_Pt_at l b1 hb1 5 (by decide)) (gS mw_349 mw_350 mw_12 mc_Pt_at) rfl rfl (by decide +kernel) ⟨Nat.le_of_ble_eq_true rfl, Nat.le_of_ble_eq_true rfl⟩ rfl hl.1 rfl (Nat.le_of_ble_eq_true rfl) d_Pt_areAtMost_11 ⟨Nat.zero_le _, Nat.zero_le _⟩ (fun r_2 hr_2 => ?_)
    subst hr_2
    refine W.eq (g2 := F0 m 14 ls [.int (nI (b1 5) - 1)]) rfl ?_
    refine lv_lload_n hx hb d_Pt_areAtMost_14 rfl (lv_at hl 1 rfl) ?_
    refine ry_callS (n := 1) (As := [.long (en b2)]) (rest := [.int (nI (b1 5) - 1)]) ⟨hx, hb, hml, hown, htb⟩ (c_Pt_valueAtOnes l b2 hb2) (gS mw_468 mw_469 mw_12 mc_Pt_valueAtOnes) rfl rfl (by decide +kernel) ⟨Nat.le_of_ble_eq_true rfl, Nat.le_of_ble_eq_true rfl⟩ rfl hl.1 rfl (Nat.le_of_ble_eq_true rfl) d_Pt_areAtMost_15 ⟨Nat.zero_le _, Nat.zero_le _⟩ (fun r_3 hr_3 => ?_)
    subst hr_3
    refine W.eq (g2 := F0 m 18 ls [.int (nI (vo b2)), .int (nI (b1 5) - 1)]) rfl ?_
    refine lv_icmp_gt (tgt := 25) hx hb d_Pt_areAtMost_18 (by decide) (fun c_18 => ?_) (fun c_18 => ?_)
    · refine lv_iconst (v := 0) hx hb d_Pt_areAtMost_25 (by decide) ?_
      exact W.zret (v := 0) hx hb hr rfl (fun t ht hW => ⟨0, rfl, (by rw [if_neg (fun z => absurd ((n_lt_m1 (by omega) (by omega)).mp c_18) (by omega))]), ht⟩) (fun _ h => by cases h) d_Pt_areAtMost_26
    · refine lv_iconst (v := 1) hx hb d_Pt_areAtMost_21 (by decide) ?_
      refine lv_goto (tgt := 26) hx hb d_Pt_areAtMost_22 (by decide) ?_
      exact W.zret (v := 1) hx hb hr rfl (fun t ht hW => ⟨1, rfl, (by rw [if_pos ⟨c_6, Nat.le_of_not_lt fun z => c_18 ((n_lt_m1 (by omega) (by omega)).mpr z)⟩]), ht⟩) (fun _ h => by cases h) d_Pt_areAtMost_26

set_option maxHeartbeats 4000000 in
set_option maxRecDepth 100000 in
theorem c_Pt_onesOf (l : Launch) (g : Nat) (hg : g < 32) : Met l y_Pt_onesOf (cw_Pt_onesOf :: tb) (rmH 1 0 0) (va_Pc [.int (nI g)] (fun _ => True)) (ry_S ry_l (fun r => r = lN (on g))) 0 0 (fun _ => False) := by
  refine Met.ofW (cc := b_Pt_onesOf) (maxL := 4) (ret := (some .long)) (by decide +kernel) rfl ?_
  intro p e s m args below meth c s₁ B hml0 hv
  have C0 := cx_of B hml0 rfl
  obtain ⟨hx, hb, hr, hml, hown, htb, hlocks⟩ := id C0
  obtain ⟨rfl, -⟩ := hv
  have hl := lv_entry ([.int (nI g)]) (n := 4) (Nat.le_of_ble_eq_true rfl)
  rw [lg_entry_eq]
  generalize (lg_sl ([.int (nI g)]) ++ List.replicate (4 - (lg_sl ([.int (nI g)])).length) Slot.unset).toArray = ls at hl ⊢
  have hl : lv_has ls 4 [(0, .int (nI g))] := hl
  refine lv_lconst (v := 0) hx hb d_Pt_onesOf_0 (by decide) ?_
  refine lv_lstore_n (lv' := [(1, .long (0 : Int64)), (0, .int (nI g))]) hx hb d_Pt_onesOf_1 rfl hl (by decide) rfl (fun ls hl => ?_)
  refine lv_iconst (v := 0) hx hb d_Pt_onesOf_2 (by decide) ?_
  refine lv_istore_n (lv' := [(3, .int 0), (1, .long (0 : Int64)), (0, .int (nI g))]) hx hb d_Pt_onesOf_3 rfl hl (by decide) rfl (fun ls hl => ?_)
  refine lv_iload_n hx hb d_Pt_onesOf_4 rfl (lv_at hl 0 rfl) ?_
  refine lv_iconst (v := 5) hx hb d_Pt_onesOf_5 (by decide) ?_
  refine lv_icmp_ge (tgt := 29) hx hb d_Pt_onesOf_6 (by decide) (fun c_6 => ?_) (fun c_6 => ?_)
  · exact absurd c_6 (by decide)
  · refine lv_lload_n hx hb d_Pt_onesOf_9 rfl (lv_at hl 1 rfl) ?_
    refine lv_iload_n hx hb d_Pt_onesOf_10 rfl (lv_at hl 2 rfl) ?_
    refine lv_iload_n hx hb d_Pt_onesOf_11 rfl (lv_at hl 0 rfl) ?_
    refine lv_ishr hx hb d_Pt_onesOf_12 ?_
    refine lv_iconst (v := 1) hx hb d_Pt_onesOf_13 (by decide) ?_
    refine lv_iand hx hb d_Pt_onesOf_14 ?_
    refine lv_i2l hx hb d_Pt_onesOf_15 rfl ?_
    refine lv_iload_n hx hb d_Pt_onesOf_16 rfl (lv_at hl 0 rfl) ?_
    refine lv_bipush (v := 12) hx hb d_Pt_onesOf_17 (by decide) ?_
    refine lv_imul hx hb d_Pt_onesOf_19 ?_
    refine lv_lshl hx hb d_Pt_onesOf_20 rfl ?_
    refine lv_lor hx hb d_Pt_onesOf_21 ?_
    refine lv_lstore_n (lv' := [(1, .long ((0 : Int64) ||| (((((nI g) >>> (0 &&& 31)) &&& 1) : Int32).toInt64 <<< (((0 * 12) : Int32).toInt64 &&& 63)) : Int64)), (3, .int 0), (0, .int (nI g))]) hx hb d_Pt_onesOf_22 rfl hl (by decide) rfl (fun ls hl => ?_)
    refine lv_iinc (v := 1) (lv' := [(3, .int 1), (1, .long ((0 : Int64) ||| (((((nI g) >>> (0 &&& 31)) &&& 1) : Int32).toInt64 <<< (((0 * 12) : Int32).toInt64 &&& 63)) : Int64)), (0, .int (nI g))]) hx hb d_Pt_onesOf_23 hl (k := 1) rfl (by first | rfl | decide) (by decide) rfl (fun ls hl => ?_)
    refine lv_goto (tgt := 4) hx hb d_Pt_onesOf_26 (by decide) ?_
    refine lv_iload_n hx hb d_Pt_onesOf_4 rfl (lv_at hl 0 rfl) ?_
    refine lv_iconst (v := 5) hx hb d_Pt_onesOf_5 (by decide) ?_
    refine lv_icmp_ge (tgt := 29) hx hb d_Pt_onesOf_6 (by decide) (fun c_6_1 => ?_) (fun c_6_1 => ?_)
    · exact absurd c_6_1 (by decide)
    · refine lv_lload_n hx hb d_Pt_onesOf_9 rfl (lv_at hl 1 rfl) ?_
      refine lv_iload_n hx hb d_Pt_onesOf_10 rfl (lv_at hl 2 rfl) ?_
      refine lv_iload_n hx hb d_Pt_onesOf_11 rfl (lv_at hl 0 rfl) ?_
      refine lv_ishr hx hb d_Pt_onesOf_12 ?_
      refine lv_iconst (v := 1) hx hb d_Pt_onesOf_13 (by decide) ?_
      refine lv_iand hx hb d_Pt_onesOf_14 ?_
      refine lv_i2l hx hb d_Pt_onesOf_15 rfl ?_
      refine lv_iload_n hx hb d_Pt_onesOf_16 rfl (lv_at hl 0 rfl) ?_
      refine lv_bipush (v := 12) hx hb d_Pt_onesOf_17 (by decide) ?_
      refine lv_imul hx hb d_Pt_onesOf_19 ?_
      refine lv_lshl hx hb d_Pt_onesOf_20 rfl ?_
      refine lv_lor hx hb d_Pt_onesOf_21 ?_
      refine lv_lstore_n (lv' := [(1, .long (((0 : Int64) ||| (((((nI g) >>> (0 &&& 31)) &&& 1) : Int32).toInt64 <<< (((0 * 12) : Int32).toInt64 &&& 63)) : Int64) ||| (((((nI g) >>> (1 &&& 31)) &&& 1) : Int32).toInt64 <<< (((1 * 12) : Int32).toInt64 &&& 63)) : Int64)), (3, .int 1), (0, .int (nI g))]) hx hb d_Pt_onesOf_22 rfl hl (by decide) rfl (fun ls hl => ?_)
      refine lv_iinc (v := 2) (lv' := [(3, .int 2), (1, .long (((0 : Int64) ||| (((((nI g) >>> (0 &&& 31)) &&& 1) : Int32).toInt64 <<< (((0 * 12) : Int32).toInt64 &&& 63)) : Int64) ||| (((((nI g) >>> (1 &&& 31)) &&& 1) : Int32).toInt64 <<< (((1 * 12) : Int32).toInt64 &&& 63)) : Int64)), (0, .int (nI g))]) hx hb d_Pt_onesOf_23 hl (k := 1) rfl (by first | rfl | decide) (by decide) rfl (fun ls hl => ?_)
      refine lv_goto (tgt := 4) hx hb d_Pt_onesOf_26 (by decide) ?_
      refine lv_iload_n hx hb d_Pt_onesOf_4 rfl (lv_at hl 0 rfl) ?_
      refine lv_iconst (v := 5) hx hb d_Pt_onesOf_5 (by decide) ?_
      refine lv_icmp_ge (tgt := 29) hx hb d_Pt_onesOf_6 (by decide) (fun c_6_2 => ?_) (fun c_6_2 => ?_)
      · exact absurd c_6_2 (by decide)
      · refine lv_lload_n hx hb d_Pt_onesOf_9 rfl (lv_at hl 1 rfl) ?_
        refine lv_iload_n hx hb d_Pt_onesOf_10 rfl (lv_at hl 2 rfl) ?_
        refine lv_iload_n hx hb d_Pt_onesOf_11 rfl (lv_at hl 0 rfl) ?_
        refine lv_ishr hx hb d_Pt_onesOf_12 ?_
        refine lv_iconst (v := 1) hx hb d_Pt_onesOf_13 (by decide) ?_
        refine lv_iand hx hb d_Pt_onesOf_14 ?_
        refine lv_i2l hx hb d_Pt_onesOf_15 rfl ?_
        refine lv_iload_n hx hb d_Pt_onesOf_16 rfl (lv_at hl 0 rfl) ?_
        refine lv_bipush (v := 12) hx hb d_Pt_onesOf_17 (by decide) ?_
        refine lv_imul hx hb d_Pt_onesOf_19 ?_
        refine lv_lshl hx hb d_Pt_onesOf_20 rfl ?_
        refine lv_lor hx hb d_Pt_onesOf_21 ?_
        refine lv_lstore_n (lv' := [(1, .long ((((0 : Int64) ||| (((((nI g) >>> (0 &&& 31)) &&& 1) : Int32).toInt64 <<< (((0 * 12) : Int32).toInt64 &&& 63)) : Int64) ||| (((((nI g) >>> (1 &&& 31)) &&& 1) : Int32).toInt64 <<< (((1 * 12) : Int32).toInt64 &&& 63)) : Int64) ||| (((((nI g) >>> (2 &&& 31)) &&& 1) : Int32).toInt64 <<< (((2 * 12) : Int32).toInt64 &&& 63)) : Int64)), (3, .int 2), (0, .int (nI g))]) hx hb d_Pt_onesOf_22 rfl hl (by decide) rfl (fun ls hl => ?_)
        refine lv_iinc (v := 3) (lv' := [(3, .int 3), (1, .long ((((0 : Int64) ||| (((((nI g) >>> (0 &&& 31)) &&& 1) : Int32).toInt64 <<< (((0 * 12) : Int32).toInt64 &&& 63)) : Int64) ||| (((((nI g) >>> (1 &&& 31)) &&& 1) : Int32).toInt64 <<< (((1 * 12) : Int32).toInt64 &&& 63)) : Int64) ||| (((((nI g) >>> (2 &&& 31)) &&& 1) : Int32).toInt64 <<< (((2 * 12) : Int32).toInt64 &&& 63)) : Int64)), (0, .int (nI g))]) hx hb d_Pt_onesOf_23 hl (k := 1) rfl (by first | rfl | decide) (by decide) rfl (fun ls hl => ?_)
        refine lv_goto (tgt := 4) hx hb d_Pt_onesOf_26 (by decide) ?_
        refine lv_iload_n hx hb d_Pt_onesOf_4 rfl (lv_at hl 0 rfl) ?_
        refine lv_iconst (v := 5) hx hb d_Pt_onesOf_5 (by decide) ?_
        refine lv_icmp_ge (tgt := 29) hx hb d_Pt_onesOf_6 (by decide) (fun c_6_3 => ?_) (fun c_6_3 => ?_)
        · exact absurd c_6_3 (by decide)
        · refine lv_lload_n hx hb d_Pt_onesOf_9 rfl (lv_at hl 1 rfl) ?_
          refine lv_iload_n hx hb d_Pt_onesOf_10 rfl (lv_at hl 2 rfl) ?_
          refine lv_iload_n hx hb d_Pt_onesOf_11 rfl (lv_at hl 0 rfl) ?_
          refine lv_ishr hx hb d_Pt_onesOf_12 ?_
          refine lv_iconst (v := 1) hx hb d_Pt_onesOf_13 (by decide) ?_
          refine lv_iand hx hb d_Pt_onesOf_14 ?_
          refine lv_i2l hx hb d_Pt_onesOf_15 rfl ?_
          refine lv_iload_n hx hb d_Pt_onesOf_16 rfl (lv_at hl 0 rfl) ?_
          refine lv_bipush (v := 12) hx hb d_Pt_onesOf_17 (by decide) ?_
          refine lv_imul hx hb d_Pt_onesOf_19 ?_
          refine lv_lshl hx hb d_Pt_onesOf_20 rfl ?_
          refine lv_lor hx hb d_Pt_onesOf_21 ?_
          refine lv_lstore_n (lv' := [(1, .long (((((0 : Int64) ||| (((((nI g) >>> (0 &&& 31)) &&& 1) : Int32).toInt64 <<< (((0 * 12) : Int32).toInt64 &&& 63)) : Int64) ||| (((((nI g) >>> (1 &&& 31)) &&& 1) : Int32).toInt64 <<< (((1 * 12) : Int32).toInt64 &&& 63)) : Int64) ||| (((((nI g) >>> (2 &&& 31)) &&& 1) : Int32).toInt64 <<< (((2 * 12) : Int32).toInt64 &&& 63)) : Int64) ||| (((((nI g) >>> (3 &&& 31)) &&& 1) : Int32).toInt64 <<< (((3 * 12) : Int32).toInt64 &&& 63)) : Int64)), (3, .int 3), (0, .int (nI g))]) hx hb d_Pt_onesOf_22 rfl hl (by decide) rfl (fun ls hl => ?_)
          refine lv_iinc (v := 4) (lv' := [(3, .int 4), (1, .long (((((0 : Int64) ||| (((((nI g) >>> (0 &&& 31)) &&& 1) : Int32).toInt64 <<< (((0 * 12) : Int32).toInt64 &&& 63)) : Int64) ||| (((((nI g) >>> (1 &&& 31)) &&& 1) : Int32).toInt64 <<< (((1 * 12) : Int32).toInt64 &&& 63)) : Int64) ||| (((((nI g) >>> (2 &&& 31)) &&& 1) : Int32).toInt64 <<< (((2 * 12) : Int32).toInt64 &&& 63)) : Int64) ||| (((((nI g) >>> (3 &&& 31)) &&& 1) : Int32).toInt64 <<< (((3 * 12) : Int32).toInt64 &&& 63)) : Int64)), (0, .int (nI g))]) hx hb d_Pt_onesOf_23 hl (k := 1) rfl (by first | rfl | decide) (by decide) rfl (fun ls hl => ?_)
          refine lv_goto (tgt := 4) hx hb d_Pt_onesOf_26 (by decide) ?_
          refine lv_iload_n hx hb d_Pt_onesOf_4 rfl (lv_at hl 0 rfl) ?_
          refine lv_iconst (v := 5) hx hb d_Pt_onesOf_5 (by decide) ?_
          refine lv_icmp_ge (tgt := 29) hx hb d_Pt_onesOf_6 (by decide) (fun c_6_4 => ?_) (fun c_6_4 => ?_)
          · exact absurd c_6_4 (by decide)
          · refine lv_lload_n hx hb d_Pt_onesOf_9 rfl (lv_at hl 1 rfl) ?_
            refine lv_iload_n hx hb d_Pt_onesOf_10 rfl (lv_at hl 2 rfl) ?_
            refine lv_iload_n hx hb d_Pt_onesOf_11 rfl (lv_at hl 0 rfl) ?_
            refine lv_ishr hx hb d_Pt_onesOf_12 ?_
            refine lv_iconst (v := 1) hx hb d_Pt_onesOf_13 (by decide) ?_
            refine lv_iand hx hb d_Pt_onesOf_14 ?_
            refine lv_i2l hx hb d_Pt_onesOf_15 rfl ?_
            refine lv_iload_n hx hb d_Pt_onesOf_16 rfl (lv_at hl 0 rfl) ?_
            refine lv_bipush (v := 12) hx hb d_Pt_onesOf_17 (by decide) ?_
            refine lv_imul hx hb d_Pt_onesOf_19 ?_
            refine lv_lshl hx hb d_Pt_onesOf_20 rfl ?_
            refine lv_lor hx hb d_Pt_onesOf_21 ?_
            refine lv_lstore_n (lv' := [(1, .long ((((((0 : Int64) ||| (((((nI g) >>> (0 &&& 31)) &&& 1) : Int32).toInt64 <<< (((0 * 12) : Int32).toInt64 &&& 63)) : Int64) ||| (((((nI g) >>> (1 &&& 31)) &&& 1) : Int32).toInt64 <<< (((1 * 12) : Int32).toInt64 &&& 63)) : Int64) ||| (((((nI g) >>> (2 &&& 31)) &&& 1) : Int32).toInt64 <<< (((2 * 12) : Int32).toInt64 &&& 63)) : Int64) ||| (((((nI g) >>> (3 &&& 31)) &&& 1) : Int32).toInt64 <<< (((3 * 12) : Int32).toInt64 &&& 63)) : Int64) ||| (((((nI g) >>> (4 &&& 31)) &&& 1) : Int32).toInt64 <<< (((4 * 12) : Int32).toInt64 &&& 63)) : Int64)), (3, .int 4), (0, .int (nI g))]) hx hb d_Pt_onesOf_22 rfl hl (by decide) rfl (fun ls hl => ?_)
            refine lv_iinc (v := 5) (lv' := [(3, .int 5), (1, .long ((((((0 : Int64) ||| (((((nI g) >>> (0 &&& 31)) &&& 1) : Int32).toInt64 <<< (((0 * 12) : Int32).toInt64 &&& 63)) : Int64) ||| (((((nI g) >>> (1 &&& 31)) &&& 1) : Int32).toInt64 <<< (((1 * 12) : Int32).toInt64 &&& 63)) : Int64) ||| (((((nI g) >>> (2 &&& 31)) &&& 1) : Int32).toInt64 <<< (((2 * 12) : Int32).toInt64 &&& 63)) : Int64) ||| (((((nI g) >>> (3 &&& 31)) &&& 1) : Int32).toInt64 <<< (((3 * 12) : Int32).toInt64 &&& 63)) : Int64) ||| (((((nI g) >>> (4 &&& 31)) &&& 1) : Int32).toInt64 <<< (((4 * 12) : Int32).toInt64 &&& 63)) : Int64)), (0, .int (nI g))]) hx hb d_Pt_onesOf_23 hl (k := 1) rfl (by first | rfl | decide) (by decide) rfl (fun ls hl => ?_)
            refine lv_goto (tgt := 4) hx hb d_Pt_onesOf_26 (by decide) ?_
            refine lv_iload_n hx hb d_Pt_onesOf_4 rfl (lv_at hl 0 rfl) ?_
            refine lv_iconst (v := 5) hx hb d_Pt_onesOf_5 (by decide) ?_
            refine lv_icmp_ge (tgt := 29) hx hb d_Pt_onesOf_6 (by decide) (fun c_6_5 => ?_) (fun c_6_5 => ?_)
            · refine lv_lload_n hx hb d_Pt_onesOf_29 rfl (lv_at hl 1 rfl) ?_
              exact W.lret (v := ((((((0 : Int64) ||| (((((nI g) >>> (0 &&& 31)) &&& 1) : Int32).toInt64 <<< (((0 * 12) : Int32).toInt64 &&& 63)) : Int64) ||| (((((nI g) >>> (1 &&& 31)) &&& 1) : Int32).toInt64 <<< (((1 * 12) : Int32).toInt64 &&& 63)) : Int64) ||| (((((nI g) >>> (2 &&& 31)) &&& 1) : Int32).toInt64 <<< (((2 * 12) : Int32).toInt64 &&& 63)) : Int64) ||| (((((nI g) >>> (3 &&& 31)) &&& 1) : Int32).toInt64 <<< (((3 * 12) : Int32).toInt64 &&& 63)) : Int64) ||| (((((nI g) >>> (4 &&& 31)) &&& 1) : Int32).toInt64 <<< (((4 * 12) : Int32).toInt64 &&& 63)) : Int64)) hx hb hr (fun t ht hW => ⟨((((((0 : Int64) ||| (((((nI g) >>> (0 &&& 31)) &&& 1) : Int32).toInt64 <<< (((0 * 12) : Int32).toInt64 &&& 63)) : Int64) ||| (((((nI g) >>> (1 &&& 31)) &&& 1) : Int32).toInt64 <<< (((1 * 12) : Int32).toInt64 &&& 63)) : Int64) ||| (((((nI g) >>> (2 &&& 31)) &&& 1) : Int32).toInt64 <<< (((2 * 12) : Int32).toInt64 &&& 63)) : Int64) ||| (((((nI g) >>> (3 &&& 31)) &&& 1) : Int32).toInt64 <<< (((3 * 12) : Int32).toInt64 &&& 63)) : Int64) ||| (((((nI g) >>> (4 &&& 31)) &&& 1) : Int32).toInt64 <<< (((4 * 12) : Int32).toInt64 &&& 63)) : Int64), rfl, ((by decide +kernel : ∀ g : Nat, g < 32 → ((((((0 : Int64) ||| (((((nI g) >>> (0 &&& 31)) &&& 1) : Int32).toInt64 <<< (((0 * 12) : Int32).toInt64 &&& 63)) : Int64) ||| (((((nI g) >>> (1 &&& 31)) &&& 1) : Int32).toInt64 <<< (((1 * 12) : Int32).toInt64 &&& 63)) : Int64) ||| (((((nI g) >>> (2 &&& 31)) &&& 1) : Int32).toInt64 <<< (((2 * 12) : Int32).toInt64 &&& 63)) : Int64) ||| (((((nI g) >>> (3 &&& 31)) &&& 1) : Int32).toInt64 <<< (((3 * 12) : Int32).toInt64 &&& 63)) : Int64) ||| (((((nI g) >>> (4 &&& 31)) &&& 1) : Int32).toInt64 <<< (((4 * 12) : Int32).toInt64 &&& 63)) : Int64) = lN (on g)) g hg), ht⟩) (fun _ h => by cases h) d_Pt_onesOf_30
            · exact absurd (by decide) c_6_5

set_option maxHeartbeats 4000000 in
set_option maxRecDepth 100000 in
theorem c_Pt_pointAbove (l : Launch) (b1 b2 : Nat → Nat) (hb1 : byt b1) (hb2 : byt b2) (g : Nat) (hg : g < 32) : Met l y_Pt_pointAbove (cw_Pt_pointAbove :: tb) (rmH 3 0 0) (va_Pc [.long (en b1), .long (en b2), .int (nI g)] (fun _ => True)) (ry_S ry_l (fun r => r = pab b1 b2 g)) 0 0 (fun _ => False) := by
  refine Met.ofW (cc := b_Pt_pointAbove) (maxL := 9) (ret := (some .long)) (by decide +kernel) rfl ?_
  intro p e s m args below meth c s₁ B hml0 hv
  have C0 := cx_of B hml0 rfl
  obtain ⟨hx, hb, hr, hml, hown, htb, hlocks⟩ := id C0
  obtain ⟨rfl, -⟩ := hv
  have hl := lv_entry ([.long (en b1), .long (en b2), .int (nI g)]) (n := 9) (Nat.le_of_ble_eq_true rfl)
  rw [lg_entry_eq]
  generalize (lg_sl ([.long (en b1), .long (en b2), .int (nI g)]) ++ List.replicate (9 - (lg_sl ([.long (en b1), .long (en b2), .int (nI g)])).length) Slot.unset).toArray = ls at hl ⊢
  have hl : lv_has ls 9 [(0, .long (en b1)), (2, .long (en b2)), (4, .int (nI g))] := hl
  obtain ⟨q0, q1, q2, q3, q4, q5⟩ := byt_all hb1
  obtain ⟨u0, u1, u2, u3, u4, u5⟩ := byt_all hb2
  have hv1 := vo_lt hb1
  have hv2 := vo_lt hb2
  refine lv_iload hx hb d_Pt_pointAbove_0 (lv_at hl 2 rfl) ?_
  refine ry_callS (n := 1) (As := [.int (nI g)]) (rest := []) ⟨hx, hb, hml, hown, htb⟩ (c_Pt_onesOf l g hg) (gS mw_505 mw_506 mw_12 mc_Pt_onesOf) rfl rfl (by decide +kernel) ⟨Nat.le_of_ble_eq_true rfl, Nat.le_of_ble_eq_true rfl⟩ rfl hl.1 rfl (Nat.le_of_ble_eq_true rfl) d_Pt_pointAbove_2 ⟨Nat.zero_le _, Nat.zero_le _⟩ (fun r_1 hr_1 => ?_)
  subst hr_1
  refine W.eq (g2 := F0 m 5 ls [.long (lN (on g))]) rfl ?_
  refine lv_lstore (lv' := [(5, .long (lN (on g))), (0, .long (en b1)), (2, .long (en b2)), (4, .int (nI g))]) hx hb d_Pt_pointAbove_5 hl (by decide) rfl (fun ls hl => ?_)
  refine lv_lload_n hx hb d_Pt_pointAbove_7 rfl (lv_at hl 1 rfl) ?_
  refine lv_lload_n hx hb d_Pt_pointAbove_8 rfl (lv_at hl 2 rfl) ?_
  refine ry_callS (n := 2) (As := [.long (en b1), .long (en b2)]) (rest := []) ⟨hx, hb, hml, hown, htb⟩ (c_Pt_lastHigher l b1 b2 hb1 hb2) (gS mw_465 mw_466 mw_12 mc_Pt_lastHigher) rfl rfl (by decide +kernel) ⟨Nat.le_of_ble_eq_true rfl, Nat.le_of_ble_eq_true rfl⟩ rfl hl.1 rfl (Nat.le_of_ble_eq_true rfl) d_Pt_pointAbove_9 ⟨Nat.zero_le _, Nat.zero_le _⟩ (fun r_2 hr_2 => ?_)
  subst hr_2
  refine W.eq (g2 := F0 m 12 ls [.int (lh b1 b2)]) rfl ?_
  refine lv_istore (lv' := [(7, .int (lh b1 b2)), (5, .long (lN (on g))), (0, .long (en b1)), (2, .long (en b2)), (4, .int (nI g))]) hx hb d_Pt_pointAbove_12 hl (by decide) rfl (fun ls hl => ?_)
  refine lv_iload hx hb d_Pt_pointAbove_14 (lv_at hl 0 rfl) ?_
  refine lv_iconst (v := (-1)) hx hb d_Pt_pointAbove_16 (by decide) ?_
  refine lv_icmp_eq (tgt := 31) hx hb d_Pt_pointAbove_17 (by decide) (fun c_17 => ?_) (fun c_17 => ?_)
  · refine lv_lload hx hb d_Pt_pointAbove_31 (lv_at hl 1 rfl) ?_
    exact W.lret (v := (lN (on g))) hx hb hr (fun t ht hW => ⟨(lN (on g)), rfl, (by rw [pab, if_pos (Or.inl c_17)]), ht⟩) (fun _ h => by cases h) d_Pt_pointAbove_33
  · refine lv_lload_n hx hb d_Pt_pointAbove_20 rfl (lv_at hl 2 rfl) ?_
    refine ry_callS (n := 1) (As := [.long (en b1)]) (rest := []) ⟨hx, hb, hml, hown, htb⟩ (c_Pt_valueAtOnes l b1 hb1) (gS mw_468 mw_469 mw_12 mc_Pt_valueAtOnes) rfl rfl (by decide +kernel) ⟨Nat.le_of_ble_eq_true rfl, Nat.le_of_ble_eq_true rfl⟩ rfl hl.1 rfl (Nat.le_of_ble_eq_true rfl) d_Pt_pointAbove_21 ⟨Nat.zero_le _, Nat.zero_le _⟩ (fun r_3 hr_3 => ?_)
    subst hr_3
    refine W.eq (g2 := F0 m 24 ls [.int (nI (vo b1))]) rfl ?_
    refine lv_lload_n hx hb d_Pt_pointAbove_24 rfl (lv_at hl 3 rfl) ?_
    refine ry_callS (n := 1) (As := [.long (en b2)]) (rest := [.int (nI (vo b1))]) ⟨hx, hb, hml, hown, htb⟩ (c_Pt_valueAtOnes l b2 hb2) (gS mw_468 mw_469 mw_12 mc_Pt_valueAtOnes) rfl rfl (by decide +kernel) ⟨Nat.le_of_ble_eq_true rfl, Nat.le_of_ble_eq_true rfl⟩ rfl hl.1 rfl (Nat.le_of_ble_eq_true rfl) d_Pt_pointAbove_25 ⟨Nat.zero_le _, Nat.zero_le _⟩ (fun r_4 hr_4 => ?_)
    subst hr_4
    refine W.eq (g2 := F0 m 28 ls [.int (nI (vo b2)), .int (nI (vo b1))]) rfl ?_
    refine lv_icmp_le (tgt := 34) hx hb d_Pt_pointAbove_28 (by decide) (fun c_28 => ?_) (fun c_28 => ?_)
    · obtain ⟨X, hX, eX, hX1, -⟩ := (lh_cases b1 b2).resolve_left c_17
      rw [eX] at hl
      have hX5 := vo_ge b1 hX
      have hvv : vo b1 ≤ vo b2 := (nI_leI (by omega) (by omega)).mp c_28
      refine lv_lload_n hx hb d_Pt_pointAbove_34 rfl (lv_at hl 3 rfl) ?_
      refine ry_callS (n := 1) (As := [.long (en b2)]) (rest := []) ⟨hx, hb, hml, hown, htb⟩ (c_Pt_valueAtOnes l b2 hb2) (gS mw_468 mw_469 mw_12 mc_Pt_valueAtOnes) rfl rfl (by decide +kernel) ⟨Nat.le_of_ble_eq_true rfl, Nat.le_of_ble_eq_true rfl⟩ rfl hl.1 rfl (Nat.le_of_ble_eq_true rfl) d_Pt_pointAbove_35 ⟨Nat.zero_le _, Nat.zero_le _⟩ (fun r_5 hr_5 => ?_)
      subst hr_5
      refine W.eq (g2 := F0 m 38 ls [.int (nI (vo b2))]) rfl ?_
      refine lv_lload_n hx hb d_Pt_pointAbove_38 rfl (lv_at hl 2 rfl) ?_
      refine lv_iload hx hb d_Pt_pointAbove_39 (lv_at hl 0 rfl) ?_
      refine ry_callS (n := 2) (As := [.long (en b1), .int (nI X)]) (rest := [.int (nI (vo b2))]) ⟨hx, hb, hml, hown, htb⟩ (c_Pt_at l b1 hb1 X (by omega)) (gS mw_349 mw_350 mw_12 mc_Pt_at) rfl rfl (by decide +kernel) ⟨Nat.le_of_ble_eq_true rfl, Nat.le_of_ble_eq_true rfl⟩ rfl hl.1 rfl (Nat.le_of_ble_eq_true rfl) d_Pt_pointAbove_41 ⟨Nat.zero_le _, Nat.zero_le _⟩ (fun r_6 hr_6 => ?_)
      subst hr_6
      refine W.eq (g2 := F0 m 44 ls [.int (nI (b1 X) - 1), .int (nI (vo b2))]) rfl ?_
      refine lv_isub hx hb d_Pt_pointAbove_44 ?_
      refine lv_iconst (v := 1) hx hb d_Pt_pointAbove_45 (by decide) ?_
      refine lv_iadd hx hb d_Pt_pointAbove_46 ?_
      refine lv_istore (lv' := [(8, .int (((nI (vo b2)) - (nI (b1 X) - 1)) + 1)), (7, .int (nI X)), (5, .long (lN (on g))), (0, .long (en b1)), (2, .long (en b2)), (4, .int (nI g))]) hx hb d_Pt_pointAbove_47 hl (by decide) rfl (fun ls hl => ?_)
      refine lv_lload hx hb d_Pt_pointAbove_49 (lv_at hl 2 rfl) ?_
      refine lv_iload hx hb d_Pt_pointAbove_51 (lv_at hl 0 rfl) ?_
      refine lv_iconst (v := 1) hx hb d_Pt_pointAbove_53 (by decide) ?_
      refine lv_isub hx hb d_Pt_pointAbove_54 ?_
      refine lv_i2l hx hb d_Pt_pointAbove_55 rfl ?_
      refine lv_iload hx hb d_Pt_pointAbove_56 (lv_at hl 1 rfl) ?_
      refine lv_bipush (v := 12) hx hb d_Pt_pointAbove_58 (by decide) ?_
      refine lv_imul hx hb d_Pt_pointAbove_60 ?_
      refine lv_lshl hx hb d_Pt_pointAbove_61 rfl ?_
      refine lv_ladd hx hb d_Pt_pointAbove_62 ?_
      exact W.lret (v := ((lN (on g)) + ((((((nI (vo b2)) - (nI (b1 X) - 1)) + 1) - 1) : Int32).toInt64 <<< ((((nI X) * 12) : Int32).toInt64 &&& 63)) : Int64)) hx hb hr (fun t ht hW => ⟨((lN (on g)) + ((((((nI (vo b2)) - (nI (b1 X) - 1)) + 1) - 1) : Int32).toInt64 <<< ((((nI X) * 12) : Int32).toInt64 &&& 63)) : Int64), rfl, (pab_else hg hb1 hb2 hX eX hX1 c_17 hvv hX5), ht⟩) (fun _ h => by cases h) d_Pt_pointAbove_63
    · refine lv_lload hx hb d_Pt_pointAbove_31 (lv_at hl 1 rfl) ?_
      exact W.lret (v := (lN (on g))) hx hb hr (fun t ht hW => ⟨(lN (on g)), rfl, (by rw [pab, if_pos (Or.inr (Nat.lt_of_not_le fun z => c_28 ((nI_leI (by omega) (by omega)).mpr z)))]), ht⟩) (fun _ h => by cases h) d_Pt_pointAbove_33
