set_option maxHeartbeats 4000000 in
set_option maxRecDepth 100000 in
theorem c_Lv_size (l : Launch) (dC : Nat → ClassId) (dI : Nat → Nat → Nat) (cI cL cZ : ClassId) (ad : Nat → Nat) (K F S D U V : Nat → Int32) (PT : Nat → Int64) (n : Nat) (hn : n ≤ 120)  : Met l y_Lv_size (cw_Lv_size :: tb) (rmH 1 0 0) (va_Pc [.ref (ad 1)] (ry_P (dC, dI) classes (wLv cI cL ad K F S D U V PT n) (tyI cI cL cZ))) (ry_S ry_i (fun r => r = nI n)) 0 0 (fun _ => False) := by
  refine Met.ofW (cc := b_Lv_size) (maxL := 1) (ret := (some .int)) (by decide +kernel) rfl ?_
  intro p e s m args below meth c s₁ B hml0 hv
  have C0 := cx_of B hml0 rfl
  obtain ⟨hx, hb, hr, hml, hown, htb, hlocks⟩ := id C0
  obtain ⟨rfl, hP, hK⟩ := hv
  have hl := lv_entry ([.ref (ad 1)]) (n := 1) (Nat.le_of_ble_eq_true rfl)
  rw [lg_entry_eq]
  generalize (lg_sl ([.ref (ad 1)]) ++ List.replicate (1 - (lg_sl ([.ref (ad 1)])).length) Slot.unset).toArray = ls at hl ⊢
  have hl : lv_has ls 1 [(0, .ref (ad 1))] := hl
  have hP : va_P (dC, dI) classes [((ad 1), .inr (1, [.ref (ad 2), .ref (ad 3), .ref (ad 4), .ref (ad 5), .ref (ad 6), .ref (ad 7), .ref (ad 8), .int (nI n)])), ((ad 2), .inl (cI, 120, .inl K)), ((ad 3), .inl (cI, 120, .inl F)), ((ad 4), .inl (cI, 120, .inl S)), ((ad 5), .inl (cI, 120, .inl D)), ((ad 6), .inl (cI, 120, .inl U)), ((ad 7), .inl (cI, 120, .inl V)), ((ad 8), .inl (cL, 3840, .inr (.inl PT)))] s.heap := hP
  refine lv_aload_n hx hb d_Lv_size_0 rfl (lv_at hl 0 rfl) ?_
  refine va_get (D := (dC, dI)) (ci := 1) (v := .int (nI n)) (C := R_Lv) (T := F_Lv) (N := 8) hx hb htb ul_Lv hown hK hP 0 rfl rfl 7 (by decide) (htb _ mw_36) (fun _ h9 => h9) rfl d_Lv_size_1 ?_
  exact W.iret (v := (nI n)) hx hb hr (fun t ht hW => ⟨(nI n), rfl, rfl, ht⟩) (fun _ h => by cases h) d_Lv_size_4

set_option maxHeartbeats 4000000 in
set_option maxRecDepth 100000 in
theorem c_Lv_has (l : Launch) (dC : Nat → ClassId) (dI : Nat → Nat → Nat) (cI cL cZ : ClassId) (ad : Nat → Nat) (K F S D U V : Nat → Int32) (PT : Nat → Int64) (n : Nat) (hn : n ≤ 120) (x : Int32) : Met l y_Lv_has (cw_Lv_has :: tb) (rmH 1 0 0) (va_Pc [.ref (ad 1), .int x] (ry_P (dC, dI) classes (wLv cI cL ad K F S D U V PT n) (tyI cI cL cZ))) (ry_S ry_i (fun r => r = hs x n)) 0 0 (fun _ => False) := by
  refine Met.ofW (cc := b_Lv_has) (maxL := 2) (ret := (some .boolean)) (by decide +kernel) rfl ?_
  intro p e s m args below meth c s₁ B hml0 hv
  have C0 := cx_of B hml0 rfl
  obtain ⟨hx, hb, hr, hml, hown, htb, hlocks⟩ := id C0
  obtain ⟨rfl, hP, hK⟩ := hv
  have hl := lv_entry ([.ref (ad 1), .int x]) (n := 2) (Nat.le_of_ble_eq_true rfl)
  rw [lg_entry_eq]
  generalize (lg_sl ([.ref (ad 1), .int x]) ++ List.replicate (2 - (lg_sl ([.ref (ad 1), .int x])).length) Slot.unset).toArray = ls at hl ⊢
  have hl : lv_has ls 2 [(0, .ref (ad 1)), (1, .int x)] := hl
  have hP : va_P (dC, dI) classes [((ad 1), .inr (1, [.ref (ad 2), .ref (ad 3), .ref (ad 4), .ref (ad 5), .ref (ad 6), .ref (ad 7), .ref (ad 8), .int (nI n)])), ((ad 2), .inl (cI, 120, .inl K)), ((ad 3), .inl (cI, 120, .inl F)), ((ad 4), .inl (cI, 120, .inl S)), ((ad 5), .inl (cI, 120, .inl D)), ((ad 6), .inl (cI, 120, .inl U)), ((ad 7), .inl (cI, 120, .inl V)), ((ad 8), .inl (cL, 3840, .inr (.inl PT)))] s.heap := hP
  refine lv_iload_n hx hb d_Lv_has_0 rfl (lv_at hl 1 rfl) ?_
  refine lv_if_lt (tgt := 16) hx hb d_Lv_has_1 (by decide) (fun c_1 => ?_) (fun c_1 => ?_)
  · refine lv_iconst (v := 0) hx hb d_Lv_has_16 (by decide) ?_
    exact W.zret (v := 0) hx hb hr rfl (fun t ht hW => ⟨0, rfl, (by rw [hs, if_pos c_1]), ht⟩) (fun _ h => by cases h) d_Lv_has_17
  · refine lv_iload_n hx hb d_Lv_has_4 rfl (lv_at hl 1 rfl) ?_
    refine lv_aload_n hx hb d_Lv_has_5 rfl (lv_at hl 0 rfl) ?_
    refine va_get (D := (dC, dI)) (ci := 1) (v := .int (nI n)) (C := R_Lv) (T := F_Lv) (N := 8) hx hb htb ul_Lv hown hK hP 0 rfl rfl 7 (by decide) (htb _ mw_36) (fun _ h9 => h9) rfl d_Lv_has_6 ?_
    refine lv_icmp_ge (tgt := 16) hx hb d_Lv_has_9 (by decide) (fun c_9 => ?_) (fun c_9 => ?_)
    · refine lv_iconst (v := 0) hx hb d_Lv_has_16 (by decide) ?_
      exact W.zret (v := 0) hx hb hr rfl (fun t ht hW => ⟨0, rfl, (by rw [hs, if_neg c_1, if_pos c_9]), ht⟩) (fun _ h => by cases h) d_Lv_has_17
    · refine lv_iconst (v := 1) hx hb d_Lv_has_12 (by decide) ?_
      refine lv_goto (tgt := 17) hx hb d_Lv_has_13 (by decide) ?_
      exact W.zret (v := 1) hx hb hr rfl (fun t ht hW => ⟨1, rfl, (by rw [hs, if_neg c_1, if_neg c_9]), ht⟩) (fun _ h => by cases h) d_Lv_has_17

set_option maxHeartbeats 4000000 in
set_option maxRecDepth 100000 in
theorem c_Lv_detail (l : Launch) (dC : Nat → ClassId) (dI : Nat → Nat → Nat) (cI cL cZ : ClassId) (ad : Nat → Nat) (K F S D U V : Nat → Int32) (PT : Nat → Int64) (n : Nat) (hn : n ≤ 120) (j : Nat) (hj : j < 120) (w : Int32) : Met l y_Lv_detail (cw_Lv_detail :: tb) (rmH 1 0 0) (va_Pc [.ref (ad 1), .int (nI j), .int w] (ry_P (dC, dI) classes (wLv cI cL ad K F S D U V PT n) (tyI cI cL cZ))) (ry_S ry_i (fun r => r = det K F S j w)) 0 0 (fun _ => False) := by
  refine Met.ofW (cc := b_Lv_detail) (maxL := 3) (ret := (some .int)) (by decide +kernel) rfl ?_
  intro p e s m args below meth c s₁ B hml0 hv
  have C0 := cx_of B hml0 rfl
  obtain ⟨hx, hb, hr, hml, hown, htb, hlocks⟩ := id C0
  obtain ⟨rfl, hP, hK⟩ := hv
  have hl := lv_entry ([.ref (ad 1), .int (nI j), .int w]) (n := 3) (Nat.le_of_ble_eq_true rfl)
  rw [lg_entry_eq]
  generalize (lg_sl ([.ref (ad 1), .int (nI j), .int w]) ++ List.replicate (3 - (lg_sl ([.ref (ad 1), .int (nI j), .int w])).length) Slot.unset).toArray = ls at hl ⊢
  have hl : lv_has ls 3 [(0, .ref (ad 1)), (1, .int (nI j)), (2, .int w)] := hl
  have hP : va_P (dC, dI) classes [((ad 1), .inr (1, [.ref (ad 2), .ref (ad 3), .ref (ad 4), .ref (ad 5), .ref (ad 6), .ref (ad 7), .ref (ad 8), .int (nI n)])), ((ad 2), .inl (cI, 120, .inl K)), ((ad 3), .inl (cI, 120, .inl F)), ((ad 4), .inl (cI, 120, .inl S)), ((ad 5), .inl (cI, 120, .inl D)), ((ad 6), .inl (cI, 120, .inl U)), ((ad 7), .inl (cI, 120, .inl V)), ((ad 8), .inl (cL, 3840, .inr (.inl PT)))] s.heap := hP
  refine lv_iload_n hx hb d_Lv_detail_0 rfl (lv_at hl 2 rfl) ?_
  rcases sw3 w with h9 | h9 | h9 | h9
  · refine lv_tableIn (off := 27) (tgt := 28) hx hb d_Lv_detail_1 (by rw [h9]; decide) (by rw [h9]; decide) (by rw [h9]; decide) (by decide) ?_
    refine lv_aload_n hx hb d_Lv_detail_28 rfl (lv_at hl 0 rfl) ?_
    refine va_get (D := (dC, dI)) (ci := 1) (v := .ref (ad 2)) (C := R_Lv) (T := F_Lv) (N := 8) hx hb htb ul_Lv hown hK hP 0 rfl rfl 0 (by decide) (htb _ mw_29) (fun _ h9 => h9) rfl d_Lv_detail_29 ?_
    refine lv_iload_n hx hb d_Lv_detail_32 rfl (lv_at hl 1 rfl) ?_
    refine ry_iald (D := (dC, dI)) (j := j) hx hb hK hP 1 0 rfl rfl (by omega) (by decide) d_Lv_detail_33 ?_
    exact W.iret (v := (K j)) hx hb hr (fun t ht hW => ⟨(K j), rfl, (by rw [det, if_pos h9]), ht⟩) (fun _ h => by cases h) d_Lv_detail_34
  · refine lv_tableIn (off := 34) (tgt := 35) hx hb d_Lv_detail_1 (by rw [h9]; decide) (by rw [h9]; decide) (by rw [h9]; decide) (by decide) ?_
    refine lv_aload_n hx hb d_Lv_detail_35 rfl (lv_at hl 0 rfl) ?_
    refine va_get (D := (dC, dI)) (ci := 1) (v := .ref (ad 3)) (C := R_Lv) (T := F_Lv) (N := 8) hx hb htb ul_Lv hown hK hP 0 rfl rfl 1 (by decide) (htb _ mw_30) (fun _ h9 => h9) rfl d_Lv_detail_36 ?_
    refine lv_iload_n hx hb d_Lv_detail_39 rfl (lv_at hl 1 rfl) ?_
    refine ry_iald (D := (dC, dI)) (j := j) hx hb hK hP 2 0 rfl rfl (by omega) (by decide) d_Lv_detail_40 ?_
    exact W.iret (v := (F j)) hx hb hr (fun t ht hW => ⟨(F j), rfl, (by rw [det, if_neg (by rw [h9]; decide), if_pos h9]), ht⟩) (fun _ h => by cases h) d_Lv_detail_41
  · refine lv_tableIn (off := 41) (tgt := 42) hx hb d_Lv_detail_1 (by rw [h9]; decide) (by rw [h9]; decide) (by rw [h9]; decide) (by decide) ?_
    refine lv_aload_n hx hb d_Lv_detail_42 rfl (lv_at hl 0 rfl) ?_
    refine va_get (D := (dC, dI)) (ci := 1) (v := .ref (ad 4)) (C := R_Lv) (T := F_Lv) (N := 8) hx hb htb ul_Lv hown hK hP 0 rfl rfl 2 (by decide) (htb _ mw_31) (fun _ h9 => h9) rfl d_Lv_detail_43 ?_
    refine lv_iload_n hx hb d_Lv_detail_46 rfl (lv_at hl 1 rfl) ?_
    refine ry_iald (D := (dC, dI)) (j := j) hx hb hK hP 3 0 rfl rfl (by omega) (by decide) d_Lv_detail_47 ?_
    exact W.iret (v := (S j)) hx hb hr (fun t ht hW => ⟨(S j), rfl, (by rw [det, if_neg (by rw [h9]; decide), if_neg (by rw [h9]; decide), if_pos h9]), ht⟩) (fun _ h => by cases h) d_Lv_detail_48
  · refine lv_tableOut (tgt := 49) hx hb d_Lv_detail_1 h9 (by decide) ?_
    refine lv_iconst (v := (-1)) hx hb d_Lv_detail_49 (by decide) ?_
    exact W.iret (v := (-1)) hx hb hr (fun t ht hW => ⟨(-1), rfl, (by rw [det, if_neg (by rintro rfl; revert h9; decide), if_neg (by rintro rfl; revert h9; decide), if_neg (by rintro rfl; revert h9; decide)]), ht⟩) (fun _ h => by cases h) d_Lv_detail_50

set_option maxHeartbeats 4000000 in
set_option maxRecDepth 100000 in
theorem c_Lv_isParameter (l : Launch) (dC : Nat → ClassId) (dI : Nat → Nat → Nat) (cI cL cZ : ClassId) (ad : Nat → Nat) (K F S D U V : Nat → Int32) (PT : Nat → Int64) (n : Nat) (hn : n ≤ 120) (j : Nat) (hj : j < 120) (x : Int32) : Met l y_Lv_isParameter (cw_Lv_isParameter :: tb) (rmH 1 0 0) (va_Pc [.ref (ad 1), .int (nI j), .int x] (ry_P (dC, dI) classes (wLv cI cL ad K F S D U V PT n) (tyI cI cL cZ))) (ry_S ry_i (fun r => r = if K j = 1 ∧ F j = x then 1 else 0)) 0 0 (fun _ => False) := by
  refine Met.ofW (cc := b_Lv_isParameter) (maxL := 3) (ret := (some .boolean)) (by decide +kernel) rfl ?_
  intro p e s m args below meth c s₁ B hml0 hv
  have C0 := cx_of B hml0 rfl
  obtain ⟨hx, hb, hr, hml, hown, htb, hlocks⟩ := id C0
  obtain ⟨rfl, hP, hK⟩ := hv
  have hl := lv_entry ([.ref (ad 1), .int (nI j), .int x]) (n := 3) (Nat.le_of_ble_eq_true rfl)
  rw [lg_entry_eq]
  generalize (lg_sl ([.ref (ad 1), .int (nI j), .int x]) ++ List.replicate (3 - (lg_sl ([.ref (ad 1), .int (nI j), .int x])).length) Slot.unset).toArray = ls at hl ⊢
  have hl : lv_has ls 3 [(0, .ref (ad 1)), (1, .int (nI j)), (2, .int x)] := hl
  have hP : va_P (dC, dI) classes [((ad 1), .inr (1, [.ref (ad 2), .ref (ad 3), .ref (ad 4), .ref (ad 5), .ref (ad 6), .ref (ad 7), .ref (ad 8), .int (nI n)])), ((ad 2), .inl (cI, 120, .inl K)), ((ad 3), .inl (cI, 120, .inl F)), ((ad 4), .inl (cI, 120, .inl S)), ((ad 5), .inl (cI, 120, .inl D)), ((ad 6), .inl (cI, 120, .inl U)), ((ad 7), .inl (cI, 120, .inl V)), ((ad 8), .inl (cL, 3840, .inr (.inl PT)))] s.heap := hP
  refine lv_aload_n hx hb d_Lv_isParameter_0 rfl (lv_at hl 0 rfl) ?_
  refine va_get (D := (dC, dI)) (ci := 1) (v := .ref (ad 2)) (C := R_Lv) (T := F_Lv) (N := 8) hx hb htb ul_Lv hown hK hP 0 rfl rfl 0 (by decide) (htb _ mw_29) (fun _ h9 => h9) rfl d_Lv_isParameter_1 ?_
  refine lv_iload_n hx hb d_Lv_isParameter_4 rfl (lv_at hl 1 rfl) ?_
  refine ry_iald (D := (dC, dI)) (j := j) hx hb hK hP 1 0 rfl rfl (by omega) (by decide) d_Lv_isParameter_5 ?_
  refine lv_iconst (v := 1) hx hb d_Lv_isParameter_6 (by decide) ?_
  refine lv_icmp_ne (tgt := 24) hx hb d_Lv_isParameter_7 (by decide) (fun c_7 => ?_) (fun c_7 => ?_)
  · refine lv_iconst (v := 0) hx hb d_Lv_isParameter_24 (by decide) ?_
    exact W.zret (v := 0) hx hb hr rfl (fun t ht hW => ⟨0, rfl, (by rw [if_neg (fun z => c_7 z.1)]), ht⟩) (fun _ h => by cases h) d_Lv_isParameter_25
  · refine lv_aload_n hx hb d_Lv_isParameter_10 rfl (lv_at hl 0 rfl) ?_
    refine va_get (D := (dC, dI)) (ci := 1) (v := .ref (ad 3)) (C := R_Lv) (T := F_Lv) (N := 8) hx hb htb ul_Lv hown hK hP 0 rfl rfl 1 (by decide) (htb _ mw_30) (fun _ h9 => h9) rfl d_Lv_isParameter_11 ?_
    refine lv_iload_n hx hb d_Lv_isParameter_14 rfl (lv_at hl 1 rfl) ?_
    refine ry_iald (D := (dC, dI)) (j := j) hx hb hK hP 2 0 rfl rfl (by omega) (by decide) d_Lv_isParameter_15 ?_
    refine lv_iload_n hx hb d_Lv_isParameter_16 rfl (lv_at hl 2 rfl) ?_
    refine lv_icmp_ne (tgt := 24) hx hb d_Lv_isParameter_17 (by decide) (fun c_17 => ?_) (fun c_17 => ?_)
    · refine lv_iconst (v := 0) hx hb d_Lv_isParameter_24 (by decide) ?_
      exact W.zret (v := 0) hx hb hr rfl (fun t ht hW => ⟨0, rfl, (by rw [if_neg (fun z => c_17 z.2)]), ht⟩) (fun _ h => by cases h) d_Lv_isParameter_25
    · refine lv_iconst (v := 1) hx hb d_Lv_isParameter_20 (by decide) ?_
      refine lv_goto (tgt := 25) hx hb d_Lv_isParameter_21 (by decide) ?_
      exact W.zret (v := 1) hx hb hr rfl (fun t ht hW => ⟨1, rfl, (by rw [if_pos ⟨c_7, c_17⟩]), ht⟩) (fun _ h => by cases h) d_Lv_isParameter_25

set_option maxHeartbeats 4000000 in
set_option maxRecDepth 100000 in
theorem c_Lv_usesParameter (l : Launch) (dC : Nat → ClassId) (dI : Nat → Nat → Nat) (cI cL cZ : ClassId) (ad : Nat → Nat) (K F S D U V : Nat → Int32) (PT : Nat → Int64) (n : Nat) (hn : n ≤ 120) (j : Nat) (hj : j < 120) (x : Int32) : Met l y_Lv_usesParameter (cw_Lv_usesParameter :: tb) (rmH 1 0 0) (va_Pc [.ref (ad 1), .int (nI j), .int x] (ry_P (dC, dI) classes (wLv cI cL ad K F S D U V PT n) (tyI cI cL cZ))) (ry_S ry_i (fun r => r = if (U j >>> (x &&& 31)) &&& 1 = 0 then 0 else 1)) 0 0 (fun _ => False) := by
  refine Met.ofW (cc := b_Lv_usesParameter) (maxL := 3) (ret := (some .boolean)) (by decide +kernel) rfl ?_
  intro p e s m args below meth c s₁ B hml0 hv
  have C0 := cx_of B hml0 rfl
  obtain ⟨hx, hb, hr, hml, hown, htb, hlocks⟩ := id C0
  obtain ⟨rfl, hP, hK⟩ := hv
  have hl := lv_entry ([.ref (ad 1), .int (nI j), .int x]) (n := 3) (Nat.le_of_ble_eq_true rfl)
  rw [lg_entry_eq]
  generalize (lg_sl ([.ref (ad 1), .int (nI j), .int x]) ++ List.replicate (3 - (lg_sl ([.ref (ad 1), .int (nI j), .int x])).length) Slot.unset).toArray = ls at hl ⊢
  have hl : lv_has ls 3 [(0, .ref (ad 1)), (1, .int (nI j)), (2, .int x)] := hl
  have hP : va_P (dC, dI) classes [((ad 1), .inr (1, [.ref (ad 2), .ref (ad 3), .ref (ad 4), .ref (ad 5), .ref (ad 6), .ref (ad 7), .ref (ad 8), .int (nI n)])), ((ad 2), .inl (cI, 120, .inl K)), ((ad 3), .inl (cI, 120, .inl F)), ((ad 4), .inl (cI, 120, .inl S)), ((ad 5), .inl (cI, 120, .inl D)), ((ad 6), .inl (cI, 120, .inl U)), ((ad 7), .inl (cI, 120, .inl V)), ((ad 8), .inl (cL, 3840, .inr (.inl PT)))] s.heap := hP
  refine lv_aload_n hx hb d_Lv_usesParameter_0 rfl (lv_at hl 0 rfl) ?_
  refine va_get (D := (dC, dI)) (ci := 1) (v := .ref (ad 6)) (C := R_Lv) (T := F_Lv) (N := 8) hx hb htb ul_Lv hown hK hP 0 rfl rfl 4 (by decide) (htb _ mw_33) (fun _ h9 => h9) rfl d_Lv_usesParameter_1 ?_
  refine lv_iload_n hx hb d_Lv_usesParameter_4 rfl (lv_at hl 1 rfl) ?_
  refine ry_iald (D := (dC, dI)) (j := j) hx hb hK hP 5 0 rfl rfl (by omega) (by decide) d_Lv_usesParameter_5 ?_
  refine lv_iload_n hx hb d_Lv_usesParameter_6 rfl (lv_at hl 2 rfl) ?_
  refine lv_ishr hx hb d_Lv_usesParameter_7 ?_
  refine lv_iconst (v := 1) hx hb d_Lv_usesParameter_8 (by decide) ?_
  refine lv_iand hx hb d_Lv_usesParameter_9 ?_
  refine lv_if_eq (tgt := 17) hx hb d_Lv_usesParameter_10 (by decide) (fun c_10 => ?_) (fun c_10 => ?_)
  · refine lv_iconst (v := 0) hx hb d_Lv_usesParameter_17 (by decide) ?_
    exact W.zret (v := 0) hx hb hr rfl (fun t ht hW => ⟨0, rfl, (by rw [if_pos c_10]), ht⟩) (fun _ h => by cases h) d_Lv_usesParameter_18
  · refine lv_iconst (v := 1) hx hb d_Lv_usesParameter_13 (by decide) ?_
    refine lv_goto (tgt := 18) hx hb d_Lv_usesParameter_14 (by decide) ?_
    exact W.zret (v := 1) hx hb hr rfl (fun t ht hW => ⟨1, rfl, (by rw [if_neg c_10]), ht⟩) (fun _ h => by cases h) d_Lv_usesParameter_18

set_option maxHeartbeats 4000000 in
set_option maxRecDepth 100000 in
theorem c_Lv_partsIn (l : Launch) (dC : Nat → ClassId) (dI : Nat → Nat → Nat) (cI cL cZ : ClassId) (ad : Nat → Nat) (K F S D U V : Nat → Int32) (PT : Nat → Int64) (n : Nat) (hn : n ≤ 120) (j g : Nat) (hj : j < 120) (hg : g < 32) : Met l y_Lv_partsIn (cw_Lv_partsIn :: tb) (rmH 1 0 0) (va_Pc [.ref (ad 1), .int (nI j), .int (nI g)] (ry_P (dC, dI) classes (wLv cI cL ad K F S D U V PT n) (tyI cI cL cZ))) (ry_S ry_l (fun r => r = PT (j * 32 + g))) 0 0 (fun _ => False) := by
  refine Met.ofW (cc := b_Lv_partsIn) (maxL := 3) (ret := (some .long)) (by decide +kernel) rfl ?_
  intro p e s m args below meth c s₁ B hml0 hv
  have C0 := cx_of B hml0 rfl
  obtain ⟨hx, hb, hr, hml, hown, htb, hlocks⟩ := id C0
  obtain ⟨rfl, hP, hK⟩ := hv
  have hl := lv_entry ([.ref (ad 1), .int (nI j), .int (nI g)]) (n := 3) (Nat.le_of_ble_eq_true rfl)
  rw [lg_entry_eq]
  generalize (lg_sl ([.ref (ad 1), .int (nI j), .int (nI g)]) ++ List.replicate (3 - (lg_sl ([.ref (ad 1), .int (nI j), .int (nI g)])).length) Slot.unset).toArray = ls at hl ⊢
  have hl : lv_has ls 3 [(0, .ref (ad 1)), (1, .int (nI j)), (2, .int (nI g))] := hl
  have hP : va_P (dC, dI) classes [((ad 1), .inr (1, [.ref (ad 2), .ref (ad 3), .ref (ad 4), .ref (ad 5), .ref (ad 6), .ref (ad 7), .ref (ad 8), .int (nI n)])), ((ad 2), .inl (cI, 120, .inl K)), ((ad 3), .inl (cI, 120, .inl F)), ((ad 4), .inl (cI, 120, .inl S)), ((ad 5), .inl (cI, 120, .inl D)), ((ad 6), .inl (cI, 120, .inl U)), ((ad 7), .inl (cI, 120, .inl V)), ((ad 8), .inl (cL, 3840, .inr (.inl PT)))] s.heap := hP
  refine lv_aload_n hx hb d_Lv_partsIn_0 rfl (lv_at hl 0 rfl) ?_
  refine va_get (D := (dC, dI)) (ci := 1) (v := .ref (ad 8)) (C := R_Lv) (T := F_Lv) (N := 8) hx hb htb ul_Lv hown hK hP 0 rfl rfl 6 (by decide) (htb _ mw_35) (fun _ h9 => h9) rfl d_Lv_partsIn_1 ?_
  refine lv_iload_n hx hb d_Lv_partsIn_4 rfl (lv_at hl 1 rfl) ?_
  refine lv_bipush (v := 32) hx hb d_Lv_partsIn_5 (by decide) ?_
  refine lv_imul hx hb d_Lv_partsIn_7 ?_
  refine lv_iload_n hx hb d_Lv_partsIn_8 rfl (lv_at hl 2 rfl) ?_
  refine lv_iadd hx hb d_Lv_partsIn_9 ?_
  rw [show ((nI j * 32 + nI g : Int32)) = nI (j * 32 + g) from by rw [show (32 : Int32) = nI 32 from rfl, pk_mul, nI_add]]
  refine ry_lald (D := (dC, dI)) (j := j * 32 + g) hx hb hK hP 7 1 rfl rfl (by omega) (by decide) d_Lv_partsIn_10 ?_
  exact W.lret (v := (PT (j * 32 + g))) hx hb hr (fun t ht hW => ⟨(PT (j * 32 + g)), rfl, rfl, ht⟩) (fun _ h => by cases h) d_Lv_partsIn_11

set_option maxHeartbeats 4000000 in
set_option maxRecDepth 100000 in
theorem lp_Lv_find {p : Program} (l : Launch) {e : Env} {s : State} {m : MethodId} {args : Array Value} {below : List Frame} {meth : Method} {c : Code} {H : Heap} {locs : List Loc} {Q : State → Prop} (C0 : cx p s m args meth c b_Lv_find 5 (some .int) R_Lv) (dC : Nat → ClassId) (dI : Nat → Nat → Nat) (cI cL cZ : ClassId) (ad : Nat → Nat) (K F S D U V : Nat → Int32) (PT : Nat → Int64) (n : Nat) (hn : n ≤ 120) (k f s1 : Int32) (hK : va_K (dC, dI) classes (tyI cI cL cZ) s) (hP : va_P (dC, dI) classes [((ad 1), .inr (1, [.ref (ad 2), .ref (ad 3), .ref (ad 4), .ref (ad 5), .ref (ad 6), .ref (ad 7), .ref (ad 8), .int (nI n)])), ((ad 2), .inl (cI, 120, .inl K)), ((ad 3), .inl (cI, 120, .inl F)), ((ad 4), .inl (cI, 120, .inl S)), ((ad 5), .inl (cI, 120, .inl D)), ((ad 6), .inl (cI, 120, .inl U)), ((ad 7), .inl (cI, 120, .inl V)), ((ad 8), .inl (cL, 3840, .inr (.inl PT)))] H) (R : Int32)
    (KA : ∀ (i : Nat) (ls : Array Slot), i < n → R = nI i → lv_has ls 5 [(0, .ref (ad 1)), (1, .int k), (2, .int f), (3, .int s1), (4, .int (nI i))] → W p l e (rmH 1 0 0) s m args below meth c H locs 0 0 Q (F0 m 45 ls [])) (KB : ∀ (i : Nat) (ls : Array Slot), R = -1 → lv_has ls 5 [(0, .ref (ad 1)), (1, .int k), (2, .int f), (3, .int s1), (4, .int (nI i))] → W p l e (rmH 1 0 0) s m args below meth c H locs 0 0 Q (F0 m 54 ls [])) :
    ∀ (q i : Nat), i + q = n → R = ff (fun j => decide (K j = k) && decide (F j = f) && decide (S j = s1)) i q → ∀ (ls : Array Slot), lv_has ls 5 [(0, .ref (ad 1)), (1, .int k), (2, .int f), (3, .int s1), (4, .int (nI i))] → W p l e (rmH 1 0 0) s m args below meth c H locs 0 0 Q (F0 m 3 ls []) := by
  obtain ⟨hx, hb, hr, hml, hown, htb, hlocks⟩ := id C0
  intro q
  induction q with
  | zero =>
    intro i hi hR ls hl
    refine lv_iload hx hb d_Lv_find_3 (lv_at hl 4 rfl) ?_
    refine lv_aload_n hx hb d_Lv_find_5 rfl (lv_at hl 0 rfl) ?_
    refine va_get (D := (dC, dI)) (ci := 1) (v := .int (nI n)) (C := R_Lv) (T := F_Lv) (N := 8) hx hb htb ul_Lv hown hK hP 0 rfl rfl 7 (by decide) (htb _ mw_36) (fun _ h9 => h9) rfl d_Lv_find_6 ?_
    refine lv_icmp_ge (tgt := 54) hx hb d_Lv_find_9 (by decide) (fun c_9 => ?_) (fun c_9 => ?_)
    · exact KB i ls hR (lv_sub hl [0, 1, 2, 3, 4] rfl)
    · exact absurd ((nI_leI (a := n) (b := i) (by omega) (by omega)).mpr (by omega)) c_9
  | succ q ih =>
    intro i hi hR ls hl
    refine lv_iload hx hb d_Lv_find_3 (lv_at hl 4 rfl) ?_
    refine lv_aload_n hx hb d_Lv_find_5 rfl (lv_at hl 0 rfl) ?_
    refine va_get (D := (dC, dI)) (ci := 1) (v := .int (nI n)) (C := R_Lv) (T := F_Lv) (N := 8) hx hb htb ul_Lv hown hK hP 0 rfl rfl 7 (by decide) (htb _ mw_36) (fun _ h9 => h9) rfl d_Lv_find_6 ?_
    refine lv_icmp_ge (tgt := 54) hx hb d_Lv_find_9 (by decide) (fun c_9 => ?_) (fun c_9 => ?_)
    · exact absurd ((nI_leI (a := n) (b := i) (by omega) (by omega)).mp c_9) (by omega)
    · refine lv_aload_n hx hb d_Lv_find_12 rfl (lv_at hl 0 rfl) ?_
      refine va_get (D := (dC, dI)) (ci := 1) (v := .ref (ad 2)) (C := R_Lv) (T := F_Lv) (N := 8) hx hb htb ul_Lv hown hK hP 0 rfl rfl 0 (by decide) (htb _ mw_29) (fun _ h9 => h9) rfl d_Lv_find_13 ?_
      refine lv_iload hx hb d_Lv_find_16 (lv_at hl 4 rfl) ?_
      refine ry_iald (D := (dC, dI)) (j := i) hx hb hK hP 1 0 rfl rfl (by omega) (by decide) d_Lv_find_18 ?_
      refine lv_iload_n hx hb d_Lv_find_19 rfl (lv_at hl 1 rfl) ?_
      refine lv_icmp_ne (tgt := 48) hx hb d_Lv_find_20 (by decide) (fun c_20 => ?_) (fun c_20 => ?_)
      · refine lv_iinc (v := (nI (i + 1))) (lv' := [(4, .int (nI (i + 1))), (0, .ref (ad 1)), (1, .int k), (2, .int f), (3, .int s1)]) hx hb d_Lv_find_48 hl (k := 4) rfl (nI_1 _) (by decide) rfl (fun ls hl => ?_)
        refine lv_goto (tgt := 3) hx hb d_Lv_find_51 (by decide) ?_
        exact ih (i + 1) (by omega) (by rw [hR, ff_f (by simp [c_20])]) ls (lv_sub hl [1, 2, 3, 4, 0] rfl)
      · refine lv_aload_n hx hb d_Lv_find_23 rfl (lv_at hl 0 rfl) ?_
        refine va_get (D := (dC, dI)) (ci := 1) (v := .ref (ad 3)) (C := R_Lv) (T := F_Lv) (N := 8) hx hb htb ul_Lv hown hK hP 0 rfl rfl 1 (by decide) (htb _ mw_30) (fun _ h9 => h9) rfl d_Lv_find_24 ?_
        refine lv_iload hx hb d_Lv_find_27 (lv_at hl 4 rfl) ?_
        refine ry_iald (D := (dC, dI)) (j := i) hx hb hK hP 2 0 rfl rfl (by omega) (by decide) d_Lv_find_29 ?_
        refine lv_iload_n hx hb d_Lv_find_30 rfl (lv_at hl 2 rfl) ?_
        refine lv_icmp_ne (tgt := 48) hx hb d_Lv_find_31 (by decide) (fun c_31 => ?_) (fun c_31 => ?_)
        · refine lv_iinc (v := (nI (i + 1))) (lv' := [(4, .int (nI (i + 1))), (0, .ref (ad 1)), (1, .int k), (2, .int f), (3, .int s1)]) hx hb d_Lv_find_48 hl (k := 4) rfl (nI_1 _) (by decide) rfl (fun ls hl => ?_)
          refine lv_goto (tgt := 3) hx hb d_Lv_find_51 (by decide) ?_
          exact ih (i + 1) (by omega) (by rw [hR, ff_f (by simp [c_31])]) ls (lv_sub hl [1, 2, 3, 4, 0] rfl)
        · refine lv_aload_n hx hb d_Lv_find_34 rfl (lv_at hl 0 rfl) ?_
          refine va_get (D := (dC, dI)) (ci := 1) (v := .ref (ad 4)) (C := R_Lv) (T := F_Lv) (N := 8) hx hb htb ul_Lv hown hK hP 0 rfl rfl 2 (by decide) (htb _ mw_31) (fun _ h9 => h9) rfl d_Lv_find_35 ?_
          refine lv_iload hx hb d_Lv_find_38 (lv_at hl 4 rfl) ?_
          refine ry_iald (D := (dC, dI)) (j := i) hx hb hK hP 3 0 rfl rfl (by omega) (by decide) d_Lv_find_40 ?_
          refine lv_iload_n hx hb d_Lv_find_41 rfl (lv_at hl 3 rfl) ?_
          refine lv_icmp_ne (tgt := 48) hx hb d_Lv_find_42 (by decide) (fun c_42 => ?_) (fun c_42 => ?_)
          · refine lv_iinc (v := (nI (i + 1))) (lv' := [(4, .int (nI (i + 1))), (0, .ref (ad 1)), (1, .int k), (2, .int f), (3, .int s1)]) hx hb d_Lv_find_48 hl (k := 4) rfl (nI_1 _) (by decide) rfl (fun ls hl => ?_)
            refine lv_goto (tgt := 3) hx hb d_Lv_find_51 (by decide) ?_
            exact ih (i + 1) (by omega) (by rw [hR, ff_f (by simp [c_42])]) ls (lv_sub hl [1, 2, 3, 4, 0] rfl)
          · exact KA i ls (by omega) (by rw [hR, ff_t (by simp only [c_20, c_31, c_42, decide_true, Bool.and_self])]) (lv_sub hl [0, 1, 2, 3, 4] rfl)

set_option maxHeartbeats 4000000 in
set_option maxRecDepth 100000 in
theorem c_Lv_find (l : Launch) (dC : Nat → ClassId) (dI : Nat → Nat → Nat) (cI cL cZ : ClassId) (ad : Nat → Nat) (K F S D U V : Nat → Int32) (PT : Nat → Int64) (n : Nat) (hn : n ≤ 120) (k f s1 : Int32) : Met l y_Lv_find (cw_Lv_find :: tb) (rmH 1 0 0) (va_Pc [.ref (ad 1), .int k, .int f, .int s1] (ry_P (dC, dI) classes (wLv cI cL ad K F S D U V PT n) (tyI cI cL cZ))) (ry_S ry_i (fun r => r = ff (fun j => decide (K j = k) && decide (F j = f) && decide (S j = s1)) 0 n)) 0 0 (fun _ => False) := by
  refine Met.ofW (cc := b_Lv_find) (maxL := 5) (ret := (some .int)) (by decide +kernel) rfl ?_
  intro p e s m args below meth c s₁ B hml0 hv
  have C0 := cx_of B hml0 rfl
  obtain ⟨hx, hb, hr, hml, hown, htb, hlocks⟩ := id C0
  obtain ⟨rfl, hP, hK⟩ := hv
  have hl := lv_entry ([.ref (ad 1), .int k, .int f, .int s1]) (n := 5) (Nat.le_of_ble_eq_true rfl)
  rw [lg_entry_eq]
  generalize (lg_sl ([.ref (ad 1), .int k, .int f, .int s1]) ++ List.replicate (5 - (lg_sl ([.ref (ad 1), .int k, .int f, .int s1])).length) Slot.unset).toArray = ls at hl ⊢
  have hl : lv_has ls 5 [(0, .ref (ad 1)), (1, .int k), (2, .int f), (3, .int s1)] := hl
  have hP : va_P (dC, dI) classes [((ad 1), .inr (1, [.ref (ad 2), .ref (ad 3), .ref (ad 4), .ref (ad 5), .ref (ad 6), .ref (ad 7), .ref (ad 8), .int (nI n)])), ((ad 2), .inl (cI, 120, .inl K)), ((ad 3), .inl (cI, 120, .inl F)), ((ad 4), .inl (cI, 120, .inl S)), ((ad 5), .inl (cI, 120, .inl D)), ((ad 6), .inl (cI, 120, .inl U)), ((ad 7), .inl (cI, 120, .inl V)), ((ad 8), .inl (cL, 3840, .inr (.inl PT)))] s.heap := hP
  refine lv_iconst (v := 0) hx hb d_Lv_find_0 (by decide) ?_
  refine lv_istore (lv' := [(4, .int 0), (0, .ref (ad 1)), (1, .int k), (2, .int f), (3, .int s1)]) hx hb d_Lv_find_1 hl (by decide) rfl (fun ls hl => ?_)
  refine lp_Lv_find l C0 dC dI cI cL cZ ad K F S D U V PT n hn k f s1 hK hP (ff (fun j => decide (K j = k) && decide (F j = f) && decide (S j = s1)) 0 n) (fun i ls hi hR hl => ?_) (fun i ls hR hl => ?_) n 0 (by omega) rfl ls (lv_sub hl [1, 2, 3, 4, 0] rfl)
  · refine lv_iload hx hb d_Lv_find_45 (lv_at hl 4 rfl) ?_
    exact W.iret (v := (nI i)) hx hb hr (fun t ht hW => ⟨(nI i), rfl, hR.symm, ht⟩) (fun _ h => by cases h) d_Lv_find_47
  · refine lv_iconst (v := (-1)) hx hb d_Lv_find_54 (by decide) ?_
    exact W.iret (v := (-1)) hx hb hr (fun t ht hW => ⟨(-1), rfl, hR.symm, ht⟩) (fun _ h => by cases h) d_Lv_find_55

set_option maxHeartbeats 4000000 in
set_option maxRecDepth 100000 in
theorem lp_Lv_firstRegionAbove {p : Program} (l : Launch) {e : Env} {s : State} {m : MethodId} {args : Array Value} {below : List Frame} {meth : Method} {c : Code} {H : Heap} {locs : List Loc} {Q : State → Prop} (C0 : cx p s m args meth c b_Lv_firstRegionAbove 4 (some .int) R_Lv) (dC : Nat → ClassId) (dI : Nat → Nat → Nat) (cI cL cZ : ClassId) (ad : Nat → Nat) (K F S D U V : Nat → Int32) (PT : Nat → Int64) (n : Nat) (hn : n ≤ 120) (x y : Nat) (hx1 : x < 120) (hy1 : y < 120) (b1 b2 : Nat → Nat → Nat) (hb1 : ∀ g, byt (b1 g)) (hb2 : ∀ g, byt (b2 g)) (e1 : ∀ g, g < 32 → PT (x * 32 + g) = en (b1 g)) (e2 : ∀ g, g < 32 → PT (y * 32 + g) = en (b2 g)) (hK : va_K (dC, dI) classes (tyI cI cL cZ) s) (hP : va_P (dC, dI) classes [((ad 1), .inr (1, [.ref (ad 2), .ref (ad 3), .ref (ad 4), .ref (ad 5), .ref (ad 6), .ref (ad 7), .ref (ad 8), .int (nI n)])), ((ad 2), .inl (cI, 120, .inl K)), ((ad 3), .inl (cI, 120, .inl F)), ((ad 4), .inl (cI, 120, .inl S)), ((ad 5), .inl (cI, 120, .inl D)), ((ad 6), .inl (cI, 120, .inl U)), ((ad 7), .inl (cI, 120, .inl V)), ((ad 8), .inl (cL, 3840, .inr (.inl PT)))] H) (R : Int32)
    (KA : ∀ (i : Nat) (ls : Array Slot), i < 32 → R = nI i → lv_has ls 4 [(0, .ref (ad 1)), (1, .int (nI x)), (2, .int (nI y)), (3, .int (nI i))] → W p l e (rmH 4 0 0) s m args below meth c H locs 0 0 Q (F0 m 26 ls [])) (KB : ∀ (i : Nat) (ls : Array Slot), R = -1 → lv_has ls 4 [(0, .ref (ad 1)), (1, .int (nI x)), (2, .int (nI y)), (3, .int (nI i))] → W p l e (rmH 4 0 0) s m args below meth c H locs 0 0 Q (F0 m 34 ls [])) :
    ∀ (q i : Nat), i + q = 32 → R = ff (fun g => !decide (lh (b1 g) (b2 g) = -1 ∧ b1 g 5 ≤ vo (b2 g) + 1)) i q → ∀ (ls : Array Slot), lv_has ls 4 [(0, .ref (ad 1)), (1, .int (nI x)), (2, .int (nI y)), (3, .int (nI i))] → W p l e (rmH 4 0 0) s m args below meth c H locs 0 0 Q (F0 m 2 ls []) := by
  obtain ⟨hx, hb, hr, hml, hown, htb, hlocks⟩ := id C0
  intro q
  induction q with
  | zero =>
    intro i hi hR ls hl
    refine lv_iload_n hx hb d_Lv_firstRegionAbove_2 rfl (lv_at hl 3 rfl) ?_
    refine lv_bipush (v := 32) hx hb d_Lv_firstRegionAbove_3 (by decide) ?_
    refine lv_icmp_ge (tgt := 34) hx hb d_Lv_firstRegionAbove_5 (by decide) (fun c_5 => ?_) (fun c_5 => ?_)
    · exact KB i ls hR (lv_sub hl [0, 1, 2, 3] rfl)
    · exact absurd ((nI_leI (a := 32) (b := i) (by decide) (by omega)).mpr (by omega)) c_5
  | succ q ih =>
    intro i hi hR ls hl
    refine lv_iload_n hx hb d_Lv_firstRegionAbove_2 rfl (lv_at hl 3 rfl) ?_
    refine lv_bipush (v := 32) hx hb d_Lv_firstRegionAbove_3 (by decide) ?_
    refine lv_icmp_ge (tgt := 34) hx hb d_Lv_firstRegionAbove_5 (by decide) (fun c_5 => ?_) (fun c_5 => ?_)
    · exact absurd ((nI_leI (a := 32) (b := i) (by decide) (by omega)).mp c_5) (by omega)
    · refine lv_aload_n hx hb d_Lv_firstRegionAbove_8 rfl (lv_at hl 0 rfl) ?_
      refine lv_iload_n hx hb d_Lv_firstRegionAbove_9 rfl (lv_at hl 1 rfl) ?_
      refine lv_iload_n hx hb d_Lv_firstRegionAbove_10 rfl (lv_at hl 3 rfl) ?_
      refine ry_callV (n := 2) (As := [.int (nI x), .int (nI i)]) (rest := []) ⟨hx, hb, hml, hown, htb⟩ (c_Lv_partsIn l dC dI cI cL cZ ad K F S D U V PT n hn x i (by omega) (by omega)) (gV mw_342 mw_343 mw_344 mw_2 mc_Lv_partsIn) rfl rfl (by decide +kernel) ⟨Nat.le_of_ble_eq_true rfl, Nat.le_of_ble_eq_true rfl⟩ hP hK (ci := 1) (q0 := 0) rfl rfl rfl rfl hl.1 rfl (Nat.le_of_ble_eq_true rfl) d_Lv_firstRegionAbove_11 ⟨Nat.zero_le _, Nat.zero_le _⟩ (fun r_1 hr_1 => ?_)
      subst hr_1
      refine W.eq (g2 := F0 m 14 ls [.long (PT (x * 32 + i))]) rfl ?_
      refine lv_aload_n hx hb d_Lv_firstRegionAbove_14 rfl (lv_at hl 0 rfl) ?_
      refine lv_iload_n hx hb d_Lv_firstRegionAbove_15 rfl (lv_at hl 2 rfl) ?_
      refine lv_iload_n hx hb d_Lv_firstRegionAbove_16 rfl (lv_at hl 3 rfl) ?_
      refine ry_callV (n := 2) (As := [.int (nI y), .int (nI i)]) (rest := [.long (PT (x * 32 + i))]) ⟨hx, hb, hml, hown, htb⟩ (c_Lv_partsIn l dC dI cI cL cZ ad K F S D U V PT n hn y i (by omega) (by omega)) (gV mw_342 mw_343 mw_344 mw_2 mc_Lv_partsIn) rfl rfl (by decide +kernel) ⟨Nat.le_of_ble_eq_true rfl, Nat.le_of_ble_eq_true rfl⟩ hP hK (ci := 1) (q0 := 0) rfl rfl rfl rfl hl.1 rfl (Nat.le_of_ble_eq_true rfl) d_Lv_firstRegionAbove_17 ⟨Nat.zero_le _, Nat.zero_le _⟩ (fun r_2 hr_2 => ?_)
      subst hr_2
      refine W.eq (g2 := F0 m 20 ls [.long (PT (y * 32 + i)), .long (PT (x * 32 + i))]) rfl ?_
      rw [e1 i (by omega), e2 i (by omega)]
      refine ry_callS (n := 2) (As := [.long (en (b1 i)), .long (en (b2 i))]) (rest := []) ⟨hx, hb, hml, hown, htb⟩ (c_Pt_areAtMost l (b1 i) (b2 i) (hb1 i) (hb2 i)) (gS mw_462 mw_463 mw_12 mc_Pt_areAtMost) rfl rfl (by decide +kernel) ⟨Nat.le_of_ble_eq_true rfl, Nat.le_of_ble_eq_true rfl⟩ rfl hl.1 rfl (Nat.le_of_ble_eq_true rfl) d_Lv_firstRegionAbove_20 ⟨Nat.zero_le _, Nat.zero_le _⟩ (fun r_3 hr_3 => ?_)
      subst hr_3
      refine W.eq (g2 := F0 m 23 ls [.int (if lh (b1 i) (b2 i) = -1 ∧ b1 i 5 ≤ vo (b2 i) + 1 then 1 else 0)]) rfl ?_
      refine lv_if_ne (tgt := 28) hx hb d_Lv_firstRegionAbove_23 (by decide) (fun c_23 => ?_) (fun c_23 => ?_)
      · refine lv_iinc (v := (nI (i + 1))) (lv' := [(3, .int (nI (i + 1))), (0, .ref (ad 1)), (1, .int (nI x)), (2, .int (nI y))]) hx hb d_Lv_firstRegionAbove_28 hl (k := 3) rfl (nI_1 _) (by decide) rfl (fun ls hl => ?_)
        refine lv_goto (tgt := 2) hx hb d_Lv_firstRegionAbove_31 (by decide) ?_
        exact ih (i + 1) (by omega) (by rw [hR, ff_f (by rw [Bool.not_eq_true', decide_eq_false_iff_not, Decidable.not_not]; exact Decidable.byContradiction fun z => by rw [if_neg z] at c_23; exact absurd rfl c_23)]) ls (lv_sub hl [1, 2, 3, 0] rfl)
      · exact KA i ls (by omega) (by rw [hR, ff_t (by rw [Bool.not_eq_true', decide_eq_false_iff_not]; intro z; rw [if_pos z] at c_23; exact absurd c_23 (by decide))]) (lv_sub hl [0, 1, 2, 3] rfl)

set_option maxHeartbeats 4000000 in
set_option maxRecDepth 100000 in
theorem c_Lv_firstRegionAbove (l : Launch) (dC : Nat → ClassId) (dI : Nat → Nat → Nat) (cI cL cZ : ClassId) (ad : Nat → Nat) (K F S D U V : Nat → Int32) (PT : Nat → Int64) (n : Nat) (hn : n ≤ 120) (x y : Nat) (hx1 : x < 120) (hy1 : y < 120) (b1 b2 : Nat → Nat → Nat) (hb1 : ∀ g, byt (b1 g)) (hb2 : ∀ g, byt (b2 g)) (e1 : ∀ g, g < 32 → PT (x * 32 + g) = en (b1 g)) (e2 : ∀ g, g < 32 → PT (y * 32 + g) = en (b2 g)) : Met l y_Lv_firstRegionAbove (cw_Lv_firstRegionAbove :: tb) (rmH 4 0 0) (va_Pc [.ref (ad 1), .int (nI x), .int (nI y)] (ry_P (dC, dI) classes (wLv cI cL ad K F S D U V PT n) (tyI cI cL cZ))) (ry_S ry_i (fun r => r = ff (fun g => !decide (lh (b1 g) (b2 g) = -1 ∧ b1 g 5 ≤ vo (b2 g) + 1)) 0 32)) 0 0 (fun _ => False) := by
  refine Met.ofW (cc := b_Lv_firstRegionAbove) (maxL := 4) (ret := (some .int)) (by decide +kernel) rfl ?_
  intro p e s m args below meth c s₁ B hml0 hv
  have C0 := cx_of B hml0 rfl
  obtain ⟨hx, hb, hr, hml, hown, htb, hlocks⟩ := id C0
  obtain ⟨rfl, hP, hK⟩ := hv
  have hl := lv_entry ([.ref (ad 1), .int (nI x), .int (nI y)]) (n := 4) (Nat.le_of_ble_eq_true rfl)
  rw [lg_entry_eq]
  generalize (lg_sl ([.ref (ad 1), .int (nI x), .int (nI y)]) ++ List.replicate (4 - (lg_sl ([.ref (ad 1), .int (nI x), .int (nI y)])).length) Slot.unset).toArray = ls at hl ⊢
  have hl : lv_has ls 4 [(0, .ref (ad 1)), (1, .int (nI x)), (2, .int (nI y))] := hl
  have hP : va_P (dC, dI) classes [((ad 1), .inr (1, [.ref (ad 2), .ref (ad 3), .ref (ad 4), .ref (ad 5), .ref (ad 6), .ref (ad 7), .ref (ad 8), .int (nI n)])), ((ad 2), .inl (cI, 120, .inl K)), ((ad 3), .inl (cI, 120, .inl F)), ((ad 4), .inl (cI, 120, .inl S)), ((ad 5), .inl (cI, 120, .inl D)), ((ad 6), .inl (cI, 120, .inl U)), ((ad 7), .inl (cI, 120, .inl V)), ((ad 8), .inl (cL, 3840, .inr (.inl PT)))] s.heap := hP
  refine lv_iconst (v := 0) hx hb d_Lv_firstRegionAbove_0 (by decide) ?_
  refine lv_istore_n (lv' := [(3, .int 0), (0, .ref (ad 1)), (1, .int (nI x)), (2, .int (nI y))]) hx hb d_Lv_firstRegionAbove_1 rfl hl (by decide) rfl (fun ls hl => ?_)
  refine lp_Lv_firstRegionAbove l C0 dC dI cI cL cZ ad K F S D U V PT n hn x y hx1 hy1 b1 b2 hb1 hb2 e1 e2 hK hP (ff (fun g => !decide (lh (b1 g) (b2 g) = -1 ∧ b1 g 5 ≤ vo (b2 g) + 1)) 0 32) (fun i ls hi hR hl => ?_) (fun i ls hR hl => ?_) 32 0 (by omega) rfl ls (lv_sub hl [1, 2, 3, 0] rfl)
  · refine lv_iload_n hx hb d_Lv_firstRegionAbove_26 rfl (lv_at hl 3 rfl) ?_
    exact W.iret (v := (nI i)) hx hb hr (fun t ht hW => ⟨(nI i), rfl, hR.symm, ht⟩) (fun _ h => by cases h) d_Lv_firstRegionAbove_27
  · refine lv_iconst (v := (-1)) hx hb d_Lv_firstRegionAbove_34 (by decide) ?_
    exact W.iret (v := (-1)) hx hb hr (fun t ht hW => ⟨(-1), rfl, hR.symm, ht⟩) (fun _ h => by cases h) d_Lv_firstRegionAbove_35

set_option maxHeartbeats 4000000 in
set_option maxRecDepth 100000 in
theorem lp_Lv_haveSameParts {p : Program} (l : Launch) {e : Env} {s : State} {m : MethodId} {args : Array Value} {below : List Frame} {meth : Method} {c : Code} {H : Heap} {locs : List Loc} {Q : State → Prop} (C0 : cx p s m args meth c b_Lv_haveSameParts 4 (some .boolean) R_Lv) (dC : Nat → ClassId) (dI : Nat → Nat → Nat) (cI cL cZ : ClassId) (ad : Nat → Nat) (K F S D U V : Nat → Int32) (PT : Nat → Int64) (n : Nat) (hn : n ≤ 120) (x y : Nat) (hx1 : x < 120) (hy1 : y < 120) (hK : va_K (dC, dI) classes (tyI cI cL cZ) s) (hP : va_P (dC, dI) classes [((ad 1), .inr (1, [.ref (ad 2), .ref (ad 3), .ref (ad 4), .ref (ad 5), .ref (ad 6), .ref (ad 7), .ref (ad 8), .int (nI n)])), ((ad 2), .inl (cI, 120, .inl K)), ((ad 3), .inl (cI, 120, .inl F)), ((ad 4), .inl (cI, 120, .inl S)), ((ad 5), .inl (cI, 120, .inl D)), ((ad 6), .inl (cI, 120, .inl U)), ((ad 7), .inl (cI, 120, .inl V)), ((ad 8), .inl (cL, 3840, .inr (.inl PT)))] H) (R : Int32)
    (KA : ∀ (i : Nat) (ls : Array Slot), i < 32 → R = nI i → lv_has ls 4 [(0, .ref (ad 1)), (1, .int (nI x)), (2, .int (nI y)), (3, .int (nI i))] → W p l e (rmH 2 0 0) s m args below meth c H locs 0 0 Q (F0 m 24 ls [])) (KB : ∀ (i : Nat) (ls : Array Slot), R = -1 → lv_has ls 4 [(0, .ref (ad 1)), (1, .int (nI x)), (2, .int (nI y)), (3, .int (nI i))] → W p l e (rmH 2 0 0) s m args below meth c H locs 0 0 Q (F0 m 32 ls [])) :
    ∀ (q i : Nat), i + q = 32 → R = ff (fun g => !decide (PT (x * 32 + g) = PT (y * 32 + g))) i q → ∀ (ls : Array Slot), lv_has ls 4 [(0, .ref (ad 1)), (1, .int (nI x)), (2, .int (nI y)), (3, .int (nI i))] → W p l e (rmH 2 0 0) s m args below meth c H locs 0 0 Q (F0 m 2 ls []) := by
  obtain ⟨hx, hb, hr, hml, hown, htb, hlocks⟩ := id C0
  intro q
  induction q with
  | zero =>
    intro i hi hR ls hl
    refine lv_iload_n hx hb d_Lv_haveSameParts_2 rfl (lv_at hl 3 rfl) ?_
    refine lv_bipush (v := 32) hx hb d_Lv_haveSameParts_3 (by decide) ?_
    refine lv_icmp_ge (tgt := 32) hx hb d_Lv_haveSameParts_5 (by decide) (fun c_5 => ?_) (fun c_5 => ?_)
    · exact KB i ls hR (lv_sub hl [0, 1, 2, 3] rfl)
    · exact absurd ((nI_leI (a := 32) (b := i) (by decide) (by omega)).mpr (by omega)) c_5
  | succ q ih =>
    intro i hi hR ls hl
    refine lv_iload_n hx hb d_Lv_haveSameParts_2 rfl (lv_at hl 3 rfl) ?_
    refine lv_bipush (v := 32) hx hb d_Lv_haveSameParts_3 (by decide) ?_
    refine lv_icmp_ge (tgt := 32) hx hb d_Lv_haveSameParts_5 (by decide) (fun c_5 => ?_) (fun c_5 => ?_)
    · exact absurd ((nI_leI (a := 32) (b := i) (by decide) (by omega)).mp c_5) (by omega)
    · refine lv_aload_n hx hb d_Lv_haveSameParts_8 rfl (lv_at hl 0 rfl) ?_
      refine lv_iload_n hx hb d_Lv_haveSameParts_9 rfl (lv_at hl 1 rfl) ?_
      refine lv_iload_n hx hb d_Lv_haveSameParts_10 rfl (lv_at hl 3 rfl) ?_
      refine ry_callV (n := 2) (As := [.int (nI x), .int (nI i)]) (rest := []) ⟨hx, hb, hml, hown, htb⟩ (c_Lv_partsIn l dC dI cI cL cZ ad K F S D U V PT n hn x i (by omega) (by omega)) (gV mw_342 mw_343 mw_344 mw_2 mc_Lv_partsIn) rfl rfl (by decide +kernel) ⟨Nat.le_of_ble_eq_true rfl, Nat.le_of_ble_eq_true rfl⟩ hP hK (ci := 1) (q0 := 0) rfl rfl rfl rfl hl.1 rfl (Nat.le_of_ble_eq_true rfl) d_Lv_haveSameParts_11 ⟨Nat.zero_le _, Nat.zero_le _⟩ (fun r_1 hr_1 => ?_)
      subst hr_1
      refine W.eq (g2 := F0 m 14 ls [.long (PT (x * 32 + i))]) rfl ?_
      refine lv_aload_n hx hb d_Lv_haveSameParts_14 rfl (lv_at hl 0 rfl) ?_
      refine lv_iload_n hx hb d_Lv_haveSameParts_15 rfl (lv_at hl 2 rfl) ?_
      refine lv_iload_n hx hb d_Lv_haveSameParts_16 rfl (lv_at hl 3 rfl) ?_
      refine ry_callV (n := 2) (As := [.int (nI y), .int (nI i)]) (rest := [.long (PT (x * 32 + i))]) ⟨hx, hb, hml, hown, htb⟩ (c_Lv_partsIn l dC dI cI cL cZ ad K F S D U V PT n hn y i (by omega) (by omega)) (gV mw_342 mw_343 mw_344 mw_2 mc_Lv_partsIn) rfl rfl (by decide +kernel) ⟨Nat.le_of_ble_eq_true rfl, Nat.le_of_ble_eq_true rfl⟩ hP hK (ci := 1) (q0 := 0) rfl rfl rfl rfl hl.1 rfl (Nat.le_of_ble_eq_true rfl) d_Lv_haveSameParts_17 ⟨Nat.zero_le _, Nat.zero_le _⟩ (fun r_2 hr_2 => ?_)
      subst hr_2
      refine W.eq (g2 := F0 m 20 ls [.long (PT (y * 32 + i)), .long (PT (x * 32 + i))]) rfl ?_
      refine W.lcmp hx hb d_Lv_haveSameParts_20 ?_
      refine lv_if_eq (tgt := 26) hx hb d_Lv_haveSameParts_21 (by decide) (fun c_21 => ?_) (fun c_21 => ?_)
      · refine lv_iinc (v := (nI (i + 1))) (lv' := [(3, .int (nI (i + 1))), (0, .ref (ad 1)), (1, .int (nI x)), (2, .int (nI y))]) hx hb d_Lv_haveSameParts_26 hl (k := 3) rfl (nI_1 _) (by decide) rfl (fun ls hl => ?_)
        refine lv_goto (tgt := 2) hx hb d_Lv_haveSameParts_29 (by decide) ?_
        exact ih (i + 1) (by omega) (by rw [hR, ff_f (by rw [Bool.not_eq_true', decide_eq_false_iff_not, Decidable.not_not]; exact lg_cmp0.mp c_21)]) ls (lv_sub hl [1, 2, 3, 0] rfl)
      · exact KA i ls (by omega) (by rw [hR, ff_t (by rw [Bool.not_eq_true', decide_eq_false_iff_not]; exact fun z => c_21 (lg_cmp0.mpr z))]) (lv_sub hl [0, 1, 2, 3] rfl)

set_option maxHeartbeats 4000000 in
set_option maxRecDepth 100000 in
theorem c_Lv_haveSameParts (l : Launch) (dC : Nat → ClassId) (dI : Nat → Nat → Nat) (cI cL cZ : ClassId) (ad : Nat → Nat) (K F S D U V : Nat → Int32) (PT : Nat → Int64) (n : Nat) (hn : n ≤ 120) (x y : Nat) (hx1 : x < 120) (hy1 : y < 120) : Met l y_Lv_haveSameParts (cw_Lv_haveSameParts :: tb) (rmH 2 0 0) (va_Pc [.ref (ad 1), .int (nI x), .int (nI y)] (ry_P (dC, dI) classes (wLv cI cL ad K F S D U V PT n) (tyI cI cL cZ))) (ry_S ry_i (fun r => r = if ff (fun g => !decide (PT (x * 32 + g) = PT (y * 32 + g))) 0 32 = -1 then 1 else 0)) 0 0 (fun _ => False) := by
  refine Met.ofW (cc := b_Lv_haveSameParts) (maxL := 4) (ret := (some .boolean)) (by decide +kernel) rfl ?_
  intro p e s m args below meth c s₁ B hml0 hv
  have C0 := cx_of B hml0 rfl
  obtain ⟨hx, hb, hr, hml, hown, htb, hlocks⟩ := id C0
  obtain ⟨rfl, hP, hK⟩ := hv
  have hl := lv_entry ([.ref (ad 1), .int (nI x), .int (nI y)]) (n := 4) (Nat.le_of_ble_eq_true rfl)
  rw [lg_entry_eq]
  generalize (lg_sl ([.ref (ad 1), .int (nI x), .int (nI y)]) ++ List.replicate (4 - (lg_sl ([.ref (ad 1), .int (nI x), .int (nI y)])).length) Slot.unset).toArray = ls at hl ⊢
  have hl : lv_has ls 4 [(0, .ref (ad 1)), (1, .int (nI x)), (2, .int (nI y))] := hl
  have hP : va_P (dC, dI) classes [((ad 1), .inr (1, [.ref (ad 2), .ref (ad 3), .ref (ad 4), .ref (ad 5), .ref (ad 6), .ref (ad 7), .ref (ad 8), .int (nI n)])), ((ad 2), .inl (cI, 120, .inl K)), ((ad 3), .inl (cI, 120, .inl F)), ((ad 4), .inl (cI, 120, .inl S)), ((ad 5), .inl (cI, 120, .inl D)), ((ad 6), .inl (cI, 120, .inl U)), ((ad 7), .inl (cI, 120, .inl V)), ((ad 8), .inl (cL, 3840, .inr (.inl PT)))] s.heap := hP
  refine lv_iconst (v := 0) hx hb d_Lv_haveSameParts_0 (by decide) ?_
  refine lv_istore_n (lv' := [(3, .int 0), (0, .ref (ad 1)), (1, .int (nI x)), (2, .int (nI y))]) hx hb d_Lv_haveSameParts_1 rfl hl (by decide) rfl (fun ls hl => ?_)
  refine lp_Lv_haveSameParts l C0 dC dI cI cL cZ ad K F S D U V PT n hn x y hx1 hy1 hK hP (ff (fun g => !decide (PT (x * 32 + g) = PT (y * 32 + g))) 0 32) (fun i ls hi hR hl => ?_) (fun i ls hR hl => ?_) 32 0 (by omega) rfl ls (lv_sub hl [1, 2, 3, 0] rfl)
  · refine lv_iconst (v := 0) hx hb d_Lv_haveSameParts_24 (by decide) ?_
    exact W.zret (v := 0) hx hb hr rfl (fun t ht hW => ⟨0, rfl, (by rw [if_neg (by rw [hR]; exact nI_m1 (by omega))]), ht⟩) (fun _ h => by cases h) d_Lv_haveSameParts_25
  · refine lv_iconst (v := 1) hx hb d_Lv_haveSameParts_32 (by decide) ?_
    exact W.zret (v := 1) hx hb hr rfl (fun t ht hW => ⟨1, rfl, (by rw [if_pos hR]), ht⟩) (fun _ h => by cases h) d_Lv_haveSameParts_33

set_option maxHeartbeats 4000000 in
set_option maxRecDepth 100000 in
theorem lp_Lv_leastLike {p : Program} (l : Launch) {e : Env} {s : State} {m : MethodId} {args : Array Value} {below : List Frame} {meth : Method} {c : Code} {H : Heap} {locs : List Loc} {Q : State → Prop} (C0 : cx p s m args meth c b_Lv_leastLike 3 (some .int) R_Lv) (dC : Nat → ClassId) (dI : Nat → Nat → Nat) (cI cL cZ : ClassId) (ad : Nat → Nat) (K F S D U V : Nat → Int32) (PT : Nat → Int64) (n : Nat) (hn : n ≤ 120) (x : Nat) (hx1 : x < 120) (hK : va_K (dC, dI) classes (tyI cI cL cZ) s) (hP : va_P (dC, dI) classes [((ad 1), .inr (1, [.ref (ad 2), .ref (ad 3), .ref (ad 4), .ref (ad 5), .ref (ad 6), .ref (ad 7), .ref (ad 8), .int (nI n)])), ((ad 2), .inl (cI, 120, .inl K)), ((ad 3), .inl (cI, 120, .inl F)), ((ad 4), .inl (cI, 120, .inl S)), ((ad 5), .inl (cI, 120, .inl D)), ((ad 6), .inl (cI, 120, .inl U)), ((ad 7), .inl (cI, 120, .inl V)), ((ad 8), .inl (cL, 3840, .inr (.inl PT)))] H) (R : Int32)
    (KA : ∀ (i : Nat) (ls : Array Slot), i < x → R = nI i → lv_has ls 3 [(0, .ref (ad 1)), (1, .int (nI x)), (2, .int (nI i))] → W p l e (rmH 3 0 0) s m args below meth c H locs 0 0 Q (F0 m 16 ls [])) (KB : ∀ (i : Nat) (ls : Array Slot), R = -1 → lv_has ls 3 [(0, .ref (ad 1)), (1, .int (nI x)), (2, .int (nI i))] → W p l e (rmH 3 0 0) s m args below meth c H locs 0 0 Q (F0 m 24 ls [])) :
    ∀ (q i : Nat), i + q = x → R = ff (fun q => decide (ff (fun g => !decide (PT (q * 32 + g) = PT (x * 32 + g))) 0 32 = -1)) i q → ∀ (ls : Array Slot), lv_has ls 3 [(0, .ref (ad 1)), (1, .int (nI x)), (2, .int (nI i))] → W p l e (rmH 3 0 0) s m args below meth c H locs 0 0 Q (F0 m 2 ls []) := by
  obtain ⟨hx, hb, hr, hml, hown, htb, hlocks⟩ := id C0
  intro q
  induction q with
  | zero =>
    intro i hi hR ls hl
    refine lv_iload_n hx hb d_Lv_leastLike_2 rfl (lv_at hl 2 rfl) ?_
    refine lv_iload_n hx hb d_Lv_leastLike_3 rfl (lv_at hl 1 rfl) ?_
    refine lv_icmp_ge (tgt := 24) hx hb d_Lv_leastLike_4 (by decide) (fun c_4 => ?_) (fun c_4 => ?_)
    · exact KB i ls hR (lv_sub hl [0, 1, 2] rfl)
    · exact absurd ((nI_leI (a := x) (b := i) (by omega) (by omega)).mpr (by omega)) c_4
  | succ q ih =>
    intro i hi hR ls hl
    refine lv_iload_n hx hb d_Lv_leastLike_2 rfl (lv_at hl 2 rfl) ?_
    refine lv_iload_n hx hb d_Lv_leastLike_3 rfl (lv_at hl 1 rfl) ?_
    refine lv_icmp_ge (tgt := 24) hx hb d_Lv_leastLike_4 (by decide) (fun c_4 => ?_) (fun c_4 => ?_)
    · exact absurd ((nI_leI (a := x) (b := i) (by omega) (by omega)).mp c_4) (by omega)
    · refine lv_aload_n hx hb d_Lv_leastLike_7 rfl (lv_at hl 0 rfl) ?_
      refine lv_iload_n hx hb d_Lv_leastLike_8 rfl (lv_at hl 2 rfl) ?_
      refine lv_iload_n hx hb d_Lv_leastLike_9 rfl (lv_at hl 1 rfl) ?_
      refine ry_callV (n := 2) (As := [.int (nI i), .int (nI x)]) (rest := []) ⟨hx, hb, hml, hown, htb⟩ (c_Lv_haveSameParts l dC dI cI cL cZ ad K F S D U V PT n hn i x (by omega) (by omega)) (gV mw_493 mw_479 mw_480 mw_2 mc_Lv_haveSameParts) rfl rfl (by decide +kernel) ⟨Nat.le_of_ble_eq_true rfl, Nat.le_of_ble_eq_true rfl⟩ hP hK (ci := 1) (q0 := 0) rfl rfl rfl rfl hl.1 rfl (Nat.le_of_ble_eq_true rfl) d_Lv_leastLike_10 ⟨Nat.zero_le _, Nat.zero_le _⟩ (fun r_1 hr_1 => ?_)
      subst hr_1
      refine W.eq (g2 := F0 m 13 ls [.int (if ff (fun g => !decide (PT (i * 32 + g) = PT (x * 32 + g))) 0 32 = -1 then 1 else 0)]) rfl ?_
      refine lv_if_eq (tgt := 18) hx hb d_Lv_leastLike_13 (by decide) (fun c_13 => ?_) (fun c_13 => ?_)
      · refine lv_iinc (v := (nI (i + 1))) (lv' := [(2, .int (nI (i + 1))), (0, .ref (ad 1)), (1, .int (nI x))]) hx hb d_Lv_leastLike_18 hl (k := 2) rfl (nI_1 _) (by decide) rfl (fun ls hl => ?_)
        refine lv_goto (tgt := 2) hx hb d_Lv_leastLike_21 (by decide) ?_
        exact ih (i + 1) (by omega) (by rw [hR, ff_f (by rw [decide_eq_true_iff]; intro z; rw [if_pos z] at c_13; exact absurd c_13 (by decide))]) ls (lv_sub hl [1, 2, 0] rfl)
      · exact KA i ls (by omega) (by rw [hR, ff_t (by rw [decide_eq_true_iff]; exact Decidable.byContradiction fun z => by rw [if_neg z] at c_13; exact absurd rfl c_13)]) (lv_sub hl [0, 1, 2] rfl)

set_option maxHeartbeats 4000000 in
set_option maxRecDepth 100000 in
theorem c_Lv_leastLike (l : Launch) (dC : Nat → ClassId) (dI : Nat → Nat → Nat) (cI cL cZ : ClassId) (ad : Nat → Nat) (K F S D U V : Nat → Int32) (PT : Nat → Int64) (n : Nat) (hn : n ≤ 120) (x : Nat) (hx1 : x < 120) : Met l y_Lv_leastLike (cw_Lv_leastLike :: tb) (rmH 3 0 0) (va_Pc [.ref (ad 1), .int (nI x)] (ry_P (dC, dI) classes (wLv cI cL ad K F S D U V PT n) (tyI cI cL cZ))) (ry_S ry_i (fun r => r = if ff (fun q => decide (ff (fun g => !decide (PT (q * 32 + g) = PT (x * 32 + g))) 0 32 = -1)) 0 x = -1 then nI x else ff (fun q => decide (ff (fun g => !decide (PT (q * 32 + g) = PT (x * 32 + g))) 0 32 = -1)) 0 x)) 0 0 (fun _ => False) := by
  refine Met.ofW (cc := b_Lv_leastLike) (maxL := 3) (ret := (some .int)) (by decide +kernel) rfl ?_
  intro p e s m args below meth c s₁ B hml0 hv
  have C0 := cx_of B hml0 rfl
  obtain ⟨hx, hb, hr, hml, hown, htb, hlocks⟩ := id C0
  obtain ⟨rfl, hP, hK⟩ := hv
  have hl := lv_entry ([.ref (ad 1), .int (nI x)]) (n := 3) (Nat.le_of_ble_eq_true rfl)
  rw [lg_entry_eq]
  generalize (lg_sl ([.ref (ad 1), .int (nI x)]) ++ List.replicate (3 - (lg_sl ([.ref (ad 1), .int (nI x)])).length) Slot.unset).toArray = ls at hl ⊢
  have hl : lv_has ls 3 [(0, .ref (ad 1)), (1, .int (nI x))] := hl
  have hP : va_P (dC, dI) classes [((ad 1), .inr (1, [.ref (ad 2), .ref (ad 3), .ref (ad 4), .ref (ad 5), .ref (ad 6), .ref (ad 7), .ref (ad 8), .int (nI n)])), ((ad 2), .inl (cI, 120, .inl K)), ((ad 3), .inl (cI, 120, .inl F)), ((ad 4), .inl (cI, 120, .inl S)), ((ad 5), .inl (cI, 120, .inl D)), ((ad 6), .inl (cI, 120, .inl U)), ((ad 7), .inl (cI, 120, .inl V)), ((ad 8), .inl (cL, 3840, .inr (.inl PT)))] s.heap := hP
  refine lv_iconst (v := 0) hx hb d_Lv_leastLike_0 (by decide) ?_
  refine lv_istore_n (lv' := [(2, .int 0), (0, .ref (ad 1)), (1, .int (nI x))]) hx hb d_Lv_leastLike_1 rfl hl (by decide) rfl (fun ls hl => ?_)
  refine lp_Lv_leastLike l C0 dC dI cI cL cZ ad K F S D U V PT n hn x hx1 hK hP (ff (fun q => decide (ff (fun g => !decide (PT (q * 32 + g) = PT (x * 32 + g))) 0 32 = -1)) 0 x) (fun i ls hi hR hl => ?_) (fun i ls hR hl => ?_) x 0 (by omega) rfl ls (lv_sub hl [1, 2, 0] rfl)
  · refine lv_iload_n hx hb d_Lv_leastLike_16 rfl (lv_at hl 2 rfl) ?_
    exact W.iret (v := (nI i)) hx hb hr (fun t ht hW => ⟨(nI i), rfl, (by rw [if_neg (by rw [hR]; exact nI_m1 (by omega)), hR]), ht⟩) (fun _ h => by cases h) d_Lv_leastLike_17
  · refine lv_iload_n hx hb d_Lv_leastLike_24 rfl (lv_at hl 1 rfl) ?_
    exact W.iret (v := (nI x)) hx hb hr (fun t ht hW => ⟨(nI x), rfl, (by rw [if_pos hR]), ht⟩) (fun _ h => by cases h) d_Lv_leastLike_25
