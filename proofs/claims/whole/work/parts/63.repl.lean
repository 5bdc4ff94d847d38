set_option maxHeartbeats 4000000 in
set_option maxRecDepth 100000 in
theorem c_Rp_resultAhead (l : Launch) (dC : Nat → ClassId) (dI : Nat → Nat → Nat) (cI cL cZ : ClassId) (ad : Nat → Nat) (RS OP K F S D U V : Nat → Int32) (PT : Nat → Int64) (n : Nat) (hn : n ≤ 120) (nd : Nat → Nat × Nat × Nat) (hok : LvOk nd n K F S D U PT) (j p9 y9 : Nat) (hj : j < n) (hp9 : p9 < 5) : Met l y_Rp_resultAhead (cw_Rp_resultAhead :: tb) (rmH 2 0 0) (va_Pc [.ref (ad 9), .int (nI j), .int (nI p9), .int (nI y9)] (ry_P (dC, dI) classes (wRL cI cL ad RS OP K F S D U V PT n) (tyI cI cL cZ))) (ry_S ry_i (fun r => r = rah nd p9 y9 j)) 0 0 (fun _ => False) := by
  refine Met.ofW (cc := b_Rp_resultAhead) (maxL := 4) (ret := (some .int)) (by decide +kernel) rfl ?_
  intro p e s m args below meth c s₁ B hml0 hv
  have C0 := cx_of B hml0 rfl
  obtain ⟨hx, hb, hr, hml, hown, htb, hlocks⟩ := id C0
  obtain ⟨rfl, hP, hK⟩ := hv
  have hl := lv_entry ([.ref (ad 9), .int (nI j), .int (nI p9), .int (nI y9)]) (n := 4) (Nat.le_of_ble_eq_true rfl)
  rw [lg_entry_eq]
  generalize (lg_sl ([.ref (ad 9), .int (nI j), .int (nI p9), .int (nI y9)]) ++ List.replicate (4 - (lg_sl ([.ref (ad 9), .int (nI j), .int (nI p9), .int (nI y9)])).length) Slot.unset).toArray = ls at hl ⊢
  have hl : lv_has ls 4 [(0, .ref (ad 9)), (1, .int (nI j)), (2, .int (nI p9)), (3, .int (nI y9))] := hl
  have hP : va_P (dC, dI) classes [((ad 9), .inr (2, [.ref (ad 1), .ref (ad 10), .ref (ad 11)])), ((ad 10), .inl (cI, 120, .inl RS)), ((ad 11), .inl (cI, 120, .inl OP)), ((ad 1), .inr (1, [.ref (ad 2), .ref (ad 3), .ref (ad 4), .ref (ad 5), .ref (ad 6), .ref (ad 7), .ref (ad 8), .int (nI n)])), ((ad 2), .inl (cI, 120, .inl K)), ((ad 3), .inl (cI, 120, .inl F)), ((ad 4), .inl (cI, 120, .inl S)), ((ad 5), .inl (cI, 120, .inl D)), ((ad 6), .inl (cI, 120, .inl U)), ((ad 7), .inl (cI, 120, .inl V)), ((ad 8), .inl (cL, 3840, .inr (.inl PT)))] s.heap := hP
  refine lv_aload_n hx hb d_Rp_resultAhead_0 rfl (lv_at hl 0 rfl) ?_
  refine va_get (D := (dC, dI)) (ci := 2) (v := .ref (ad 1)) (C := R_Rp) (T := F_Rp) (N := 3) hx hb htb ul_Rp hown hK hP 0 rfl rfl 0 (by decide) (htb _ mw_62) (fun _ h9 => h9) rfl d_Rp_resultAhead_1 ?_
  refine lv_iload_n hx hb d_Rp_resultAhead_4 rfl (lv_at hl 1 rfl) ?_
  refine lv_iload_n hx hb d_Rp_resultAhead_5 rfl (lv_at hl 2 rfl) ?_
  refine ry_callV (n := 2) (As := [.int (nI j), .int (nI p9)]) (rest := []) ⟨hx, hb, hml, hown, htb⟩ (c_Lv_usesParameter l dC dI cI cL cZ ad K F S D U V PT n hn j (by omega) (nI p9)) (gV mw_423 mw_424 mw_425 mw_2 mc_Lv_usesParameter) rfl rfl (by decide +kernel) ⟨Nat.le_of_ble_eq_true rfl, Nat.le_of_ble_eq_true rfl⟩ (hP.sub [3, 4, 5, 6, 7, 8, 9, 10] rfl) hK (ci := 1) (q0 := 0) rfl rfl rfl rfl hl.1 rfl (Nat.le_of_ble_eq_true rfl) d_Rp_resultAhead_6 ⟨Nat.zero_le _, Nat.zero_le _⟩ (fun r_1 hr_1 => ?_)
  subst hr_1
  refine W.eq (g2 := F0 m 9 ls [.int (if (U j >>> (nI p9 &&& 31)) &&& 1 = 0 then 0 else 1)]) rfl ?_
  refine lv_if_ne (tgt := 14) hx hb d_Rp_resultAhead_9 (by decide) (fun c_9 => ?_) (fun c_9 => ?_)
  · refine lv_aload_n hx hb d_Rp_resultAhead_14 rfl (lv_at hl 0 rfl) ?_
    refine va_get (D := (dC, dI)) (ci := 2) (v := .ref (ad 1)) (C := R_Rp) (T := F_Rp) (N := 3) hx hb htb ul_Rp hown hK hP 0 rfl rfl 0 (by decide) (htb _ mw_62) (fun _ h9 => h9) rfl d_Rp_resultAhead_15 ?_
    refine lv_iload_n hx hb d_Rp_resultAhead_18 rfl (lv_at hl 1 rfl) ?_
    refine lv_iload_n hx hb d_Rp_resultAhead_19 rfl (lv_at hl 2 rfl) ?_
    refine ry_callV (n := 2) (As := [.int (nI j), .int (nI p9)]) (rest := []) ⟨hx, hb, hml, hown, htb⟩ (c_Lv_isParameter l dC dI cI cL cZ ad K F S D U V PT n hn j (by omega) (nI p9)) (gV mw_427 mw_428 mw_429 mw_2 mc_Lv_isParameter) rfl rfl (by decide +kernel) ⟨Nat.le_of_ble_eq_true rfl, Nat.le_of_ble_eq_true rfl⟩ (hP.sub [3, 4, 5, 6, 7, 8, 9, 10] rfl) hK (ci := 1) (q0 := 0) rfl rfl rfl rfl hl.1 rfl (Nat.le_of_ble_eq_true rfl) d_Rp_resultAhead_20 ⟨Nat.zero_le _, Nat.zero_le _⟩ (fun r_2 hr_2 => ?_)
    subst hr_2
    refine W.eq (g2 := F0 m 23 ls [.int (if K j = 1 ∧ F j = nI p9 then 1 else 0)]) rfl ?_
    refine lv_if_eq (tgt := 30) hx hb d_Rp_resultAhead_23 (by decide) (fun c_23 => ?_) (fun c_23 => ?_)
    · refine lv_iconst (v := (-1)) hx hb d_Rp_resultAhead_30 (by decide) ?_
      exact W.iret (v := (-1)) hx hb hr (fun t ht hW => ⟨(-1), rfl, (rah_z hok hp9 hj c_9 c_23), ht⟩) (fun _ h => by cases h) d_Rp_resultAhead_31
    · refine lv_iload_n hx hb d_Rp_resultAhead_26 rfl (lv_at hl 3 rfl) ?_
      refine lv_goto (tgt := 31) hx hb d_Rp_resultAhead_27 (by decide) ?_
      exact W.iret (v := (nI y9)) hx hb hr (fun t ht hW => ⟨(nI y9), rfl, (rah_y hok hp9 hj c_9 c_23), ht⟩) (fun _ h => by cases h) d_Rp_resultAhead_31
  · refine lv_iload_n hx hb d_Rp_resultAhead_12 rfl (lv_at hl 1 rfl) ?_
    exact W.iret (v := (nI j)) hx hb hr (fun t ht hW => ⟨(nI j), rfl, (rah_n hok hp9 hj c_9), ht⟩) (fun _ h => by cases h) d_Rp_resultAhead_13

set_option maxHeartbeats 4000000 in
set_option maxRecDepth 100000 in
theorem c2_Rp_missingPart (l : Launch) (dC : Nat → ClassId) (dI : Nat → Nat → Nat) (cI cL cZ : ClassId) (ad : Nat → Nat) (RS OP K F S D U V : Nat → Int32) (PT : Nat → Int64) (n : Nat) (hn : n ≤ 120) (nd : Nat → Nat × Nat × Nat) (hok : LvOk nd n K F S D U PT) (x : Nat) (hx1 : x < n) (k2 : (nd x).1 = 2) : Met l y_Rp_missingPart (cw_Rp_missingPart :: tb) (rmH 2 0 0) (va_Pc [.ref (ad 9), .int (nI x)] (ry_P (dC, dI) classes (wRL cI cL ad RS OP K F S D U V PT n) (tyI cI cL cZ))) (ry_S ry_i (fun r => r = if RS (nd x).2.1 = -1 then nI (nd x).2.1 else -1)) 0 0 (fun _ => False) := by
  refine Met.ofW (cc := b_Rp_missingPart) (maxL := 4) (ret := (some .int)) (by decide +kernel) rfl ?_
  intro p e s m args below meth c s₁ B hml0 hv
  have C0 := cx_of B hml0 rfl
  obtain ⟨hx, hb, hr, hml, hown, htb, hlocks⟩ := id C0
  obtain ⟨rfl, hP, hK⟩ := hv
  have hl := lv_entry ([.ref (ad 9), .int (nI x)]) (n := 4) (Nat.le_of_ble_eq_true rfl)
  rw [lg_entry_eq]
  generalize (lg_sl ([.ref (ad 9), .int (nI x)]) ++ List.replicate (4 - (lg_sl ([.ref (ad 9), .int (nI x)])).length) Slot.unset).toArray = ls at hl ⊢
  have hl : lv_has ls 4 [(0, .ref (ad 9)), (1, .int (nI x))] := hl
  have hP : va_P (dC, dI) classes [((ad 9), .inr (2, [.ref (ad 1), .ref (ad 10), .ref (ad 11)])), ((ad 10), .inl (cI, 120, .inl RS)), ((ad 11), .inl (cI, 120, .inl OP)), ((ad 1), .inr (1, [.ref (ad 2), .ref (ad 3), .ref (ad 4), .ref (ad 5), .ref (ad 6), .ref (ad 7), .ref (ad 8), .int (nI n)])), ((ad 2), .inl (cI, 120, .inl K)), ((ad 3), .inl (cI, 120, .inl F)), ((ad 4), .inl (cI, 120, .inl S)), ((ad 5), .inl (cI, 120, .inl D)), ((ad 6), .inl (cI, 120, .inl U)), ((ad 7), .inl (cI, 120, .inl V)), ((ad 8), .inl (cL, 3840, .inr (.inl PT)))] s.heap := hP
  have hrx := hok.1.2.1 x hx1
  have hkb := hrx.1
  have ha1 := hrx.2.2.1 (by omega)
  have hfx : F x = nI (nd x).2.1 := by rw [(hok.2.1 x hx1).2.1, fF_n (by omega)]
  have hkx := (hok.2.1 x hx1).1
  have hsx : S x = -1 := by rw [(hok.2.1 x hx1).2.2, fS, if_pos (by omega)]
  refine lv_aload_n hx hb d_Rp_missingPart_0 rfl (lv_at hl 0 rfl) ?_
  refine va_get (D := (dC, dI)) (ci := 2) (v := .ref (ad 1)) (C := R_Rp) (T := F_Rp) (N := 3) hx hb htb ul_Rp hown hK hP 0 rfl rfl 0 (by decide) (htb _ mw_62) (fun _ h9 => h9) rfl d_Rp_missingPart_1 ?_
  refine lv_iload_n hx hb d_Rp_missingPart_4 rfl (lv_at hl 1 rfl) ?_
  refine lv_iconst (v := 1) hx hb d_Rp_missingPart_5 (by decide) ?_
  refine ry_callV (n := 2) (As := [.int (nI x), .int 1]) (rest := []) ⟨hx, hb, hml, hown, htb⟩ (c_Lv_detail l dC dI cI cL cZ ad K F S D U V PT n hn x (by omega) 1) (gV mw_435 mw_129 mw_130 mw_2 mc_Lv_detail) rfl rfl (by decide +kernel) ⟨Nat.le_of_ble_eq_true rfl, Nat.le_of_ble_eq_true rfl⟩ (hP.sub [3, 4, 5, 6, 7, 8, 9, 10] rfl) hK (ci := 1) (q0 := 0) rfl rfl rfl rfl hl.1 rfl (Nat.le_of_ble_eq_true rfl) d_Rp_missingPart_6 ⟨Nat.zero_le _, Nat.zero_le _⟩ (fun r_1 hr_1 => ?_)
  refine W.eq (g2 := F0 m 9 ls [.int r_1]) rfl ?_
  rw [det1, hfx] at hr_1
  subst hr_1
  refine lv_istore_n (lv' := [(2, .int (nI (nd x).2.1)), (0, .ref (ad 9)), (1, .int (nI x))]) hx hb d_Rp_missingPart_9 rfl hl (by decide) rfl (fun ls hl => ?_)
  refine lv_aload_n hx hb d_Rp_missingPart_10 rfl (lv_at hl 1 rfl) ?_
  refine va_get (D := (dC, dI)) (ci := 2) (v := .ref (ad 10)) (C := R_Rp) (T := F_Rp) (N := 3) hx hb htb ul_Rp hown hK hP 0 rfl rfl 1 (by decide) (htb _ mw_63) (fun _ h9 => h9) rfl d_Rp_missingPart_11 ?_
  refine lv_iload_n hx hb d_Rp_missingPart_14 rfl (lv_at hl 0 rfl) ?_
  refine ry_iald (D := (dC, dI)) (j := (nd x).2.1) hx hb hK hP 1 0 rfl rfl (by omega) (by decide) d_Rp_missingPart_15 ?_
  refine lv_iconst (v := (-1)) hx hb d_Rp_missingPart_16 (by decide) ?_
  refine lv_icmp_ne (tgt := 22) hx hb d_Rp_missingPart_17 (by decide) (fun c_17 => ?_) (fun c_17 => ?_)
  · refine lv_aload_n hx hb d_Rp_missingPart_22 rfl (lv_at hl 1 rfl) ?_
    refine va_get (D := (dC, dI)) (ci := 2) (v := .ref (ad 1)) (C := R_Rp) (T := F_Rp) (N := 3) hx hb htb ul_Rp hown hK hP 0 rfl rfl 0 (by decide) (htb _ mw_62) (fun _ h9 => h9) rfl d_Rp_missingPart_23 ?_
    refine lv_iload_n hx hb d_Rp_missingPart_26 rfl (lv_at hl 2 rfl) ?_
    refine lv_iconst (v := 2) hx hb d_Rp_missingPart_27 (by decide) ?_
    refine ry_callV (n := 2) (As := [.int (nI x), .int 2]) (rest := []) ⟨hx, hb, hml, hown, htb⟩ (c_Lv_detail l dC dI cI cL cZ ad K F S D U V PT n hn x (by omega) 2) (gV mw_435 mw_129 mw_130 mw_2 mc_Lv_detail) rfl rfl (by decide +kernel) ⟨Nat.le_of_ble_eq_true rfl, Nat.le_of_ble_eq_true rfl⟩ (hP.sub [3, 4, 5, 6, 7, 8, 9, 10] rfl) hK (ci := 1) (q0 := 0) rfl rfl rfl rfl hl.1 rfl (Nat.le_of_ble_eq_true rfl) d_Rp_missingPart_28 ⟨Nat.zero_le _, Nat.zero_le _⟩ (fun r_2 hr_2 => ?_)
    refine W.eq (g2 := F0 m 31 ls [.int r_2]) rfl ?_
    rw [det2, hsx] at hr_2
    subst hr_2
    refine lv_istore_n (lv' := [(3, .int (-1)), (2, .int (nI (nd x).2.1)), (0, .ref (ad 9)), (1, .int (nI x))]) hx hb d_Rp_missingPart_31 rfl hl (by decide) rfl (fun ls hl => ?_)
    refine lv_iload_n hx hb d_Rp_missingPart_32 rfl (lv_at hl 0 rfl) ?_
    refine lv_iconst (v := (-1)) hx hb d_Rp_missingPart_33 (by decide) ?_
    refine lv_icmp_eq (tgt := 51) hx hb d_Rp_missingPart_34 (by decide) (fun c_34 => ?_) (fun c_34 => ?_)
    · refine lv_iconst (v := (-1)) hx hb d_Rp_missingPart_51 (by decide) ?_
      exact W.iret (v := (-1)) hx hb hr (fun t ht hW => ⟨(-1), rfl, (by rw [if_neg c_17]), ht⟩) (fun _ h => by cases h) d_Rp_missingPart_52
    · exact absurd rfl c_34
  · refine lv_iload_n hx hb d_Rp_missingPart_20 rfl (lv_at hl 0 rfl) ?_
    exact W.iret (v := (nI (nd x).2.1)) hx hb hr (fun t ht hW => ⟨(nI (nd x).2.1), rfl, (by rw [if_pos c_17]), ht⟩) (fun _ h => by cases h) d_Rp_missingPart_21

set_option maxHeartbeats 4000000 in
set_option maxRecDepth 100000 in
theorem c3_Rp_missingPart (l : Launch) (dC : Nat → ClassId) (dI : Nat → Nat → Nat) (cI cL cZ : ClassId) (ad : Nat → Nat) (RS OP K F S D U V : Nat → Int32) (PT : Nat → Int64) (n : Nat) (hn : n ≤ 120) (nd : Nat → Nat × Nat × Nat) (hok : LvOk nd n K F S D U PT) (x : Nat) (hx1 : x < n) (k3 : 3 ≤ (nd x).1) : Met l y_Rp_missingPart (cw_Rp_missingPart :: tb) (rmH 2 0 0) (va_Pc [.ref (ad 9), .int (nI x)] (ry_P (dC, dI) classes (wRL cI cL ad RS OP K F S D U V PT n) (tyI cI cL cZ))) (ry_S ry_i (fun r => r = if RS (nd x).2.1 = -1 then nI (nd x).2.1 else if RS (nd x).2.2 = -1 then nI (nd x).2.2 else -1)) 0 0 (fun _ => False) := by
  refine Met.ofW (cc := b_Rp_missingPart) (maxL := 4) (ret := (some .int)) (by decide +kernel) rfl ?_
  intro p e s m args below meth c s₁ B hml0 hv
  have C0 := cx_of B hml0 rfl
  obtain ⟨hx, hb, hr, hml, hown, htb, hlocks⟩ := id C0
  obtain ⟨rfl, hP, hK⟩ := hv
  have hl := lv_entry ([.ref (ad 9), .int (nI x)]) (n := 4) (Nat.le_of_ble_eq_true rfl)
  rw [lg_entry_eq]
  generalize (lg_sl ([.ref (ad 9), .int (nI x)]) ++ List.replicate (4 - (lg_sl ([.ref (ad 9), .int (nI x)])).length) Slot.unset).toArray = ls at hl ⊢
  have hl : lv_has ls 4 [(0, .ref (ad 9)), (1, .int (nI x))] := hl
  have hP : va_P (dC, dI) classes [((ad 9), .inr (2, [.ref (ad 1), .ref (ad 10), .ref (ad 11)])), ((ad 10), .inl (cI, 120, .inl RS)), ((ad 11), .inl (cI, 120, .inl OP)), ((ad 1), .inr (1, [.ref (ad 2), .ref (ad 3), .ref (ad 4), .ref (ad 5), .ref (ad 6), .ref (ad 7), .ref (ad 8), .int (nI n)])), ((ad 2), .inl (cI, 120, .inl K)), ((ad 3), .inl (cI, 120, .inl F)), ((ad 4), .inl (cI, 120, .inl S)), ((ad 5), .inl (cI, 120, .inl D)), ((ad 6), .inl (cI, 120, .inl U)), ((ad 7), .inl (cI, 120, .inl V)), ((ad 8), .inl (cL, 3840, .inr (.inl PT)))] s.heap := hP
  have hrx := hok.1.2.1 x hx1
  have hkb := hrx.1
  have ha1 := hrx.2.2.1 (by omega)
  have hfx : F x = nI (nd x).2.1 := by rw [(hok.2.1 x hx1).2.1, fF_n (by omega)]
  have hkx := (hok.2.1 x hx1).1
  have ha2 := hrx.2.2.2.1 k3
  have hsx : S x = nI (nd x).2.2 := by rw [(hok.2.1 x hx1).2.2, fS_n k3]
  refine lv_aload_n hx hb d_Rp_missingPart_0 rfl (lv_at hl 0 rfl) ?_
  refine va_get (D := (dC, dI)) (ci := 2) (v := .ref (ad 1)) (C := R_Rp) (T := F_Rp) (N := 3) hx hb htb ul_Rp hown hK hP 0 rfl rfl 0 (by decide) (htb _ mw_62) (fun _ h9 => h9) rfl d_Rp_missingPart_1 ?_
  refine lv_iload_n hx hb d_Rp_missingPart_4 rfl (lv_at hl 1 rfl) ?_
  refine lv_iconst (v := 1) hx hb d_Rp_missingPart_5 (by decide) ?_
  refine ry_callV (n := 2) (As := [.int (nI x), .int 1]) (rest := []) ⟨hx, hb, hml, hown, htb⟩ (c_Lv_detail l dC dI cI cL cZ ad K F S D U V PT n hn x (by omega) 1) (gV mw_435 mw_129 mw_130 mw_2 mc_Lv_detail) rfl rfl (by decide +kernel) ⟨Nat.le_of_ble_eq_true rfl, Nat.le_of_ble_eq_true rfl⟩ (hP.sub [3, 4, 5, 6, 7, 8, 9, 10] rfl) hK (ci := 1) (q0 := 0) rfl rfl rfl rfl hl.1 rfl (Nat.le_of_ble_eq_true rfl) d_Rp_missingPart_6 ⟨Nat.zero_le _, Nat.zero_le _⟩ (fun r_1 hr_1 => ?_)
  refine W.eq (g2 := F0 m 9 ls [.int r_1]) rfl ?_
  rw [det1, hfx] at hr_1
  subst hr_1
  refine lv_istore_n (lv' := [(2, .int (nI (nd x).2.1)), (0, .ref (ad 9)), (1, .int (nI x))]) hx hb d_Rp_missingPart_9 rfl hl (by decide) rfl (fun ls hl => ?_)
  refine lv_aload_n hx hb d_Rp_missingPart_10 rfl (lv_at hl 1 rfl) ?_
  refine va_get (D := (dC, dI)) (ci := 2) (v := .ref (ad 10)) (C := R_Rp) (T := F_Rp) (N := 3) hx hb htb ul_Rp hown hK hP 0 rfl rfl 1 (by decide) (htb _ mw_63) (fun _ h9 => h9) rfl d_Rp_missingPart_11 ?_
  refine lv_iload_n hx hb d_Rp_missingPart_14 rfl (lv_at hl 0 rfl) ?_
  refine ry_iald (D := (dC, dI)) (j := (nd x).2.1) hx hb hK hP 1 0 rfl rfl (by omega) (by decide) d_Rp_missingPart_15 ?_
  refine lv_iconst (v := (-1)) hx hb d_Rp_missingPart_16 (by decide) ?_
  refine lv_icmp_ne (tgt := 22) hx hb d_Rp_missingPart_17 (by decide) (fun c_17 => ?_) (fun c_17 => ?_)
  · refine lv_aload_n hx hb d_Rp_missingPart_22 rfl (lv_at hl 1 rfl) ?_
    refine va_get (D := (dC, dI)) (ci := 2) (v := .ref (ad 1)) (C := R_Rp) (T := F_Rp) (N := 3) hx hb htb ul_Rp hown hK hP 0 rfl rfl 0 (by decide) (htb _ mw_62) (fun _ h9 => h9) rfl d_Rp_missingPart_23 ?_
    refine lv_iload_n hx hb d_Rp_missingPart_26 rfl (lv_at hl 2 rfl) ?_
    refine lv_iconst (v := 2) hx hb d_Rp_missingPart_27 (by decide) ?_
    refine ry_callV (n := 2) (As := [.int (nI x), .int 2]) (rest := []) ⟨hx, hb, hml, hown, htb⟩ (c_Lv_detail l dC dI cI cL cZ ad K F S D U V PT n hn x (by omega) 2) (gV mw_435 mw_129 mw_130 mw_2 mc_Lv_detail) rfl rfl (by decide +kernel) ⟨Nat.le_of_ble_eq_true rfl, Nat.le_of_ble_eq_true rfl⟩ (hP.sub [3, 4, 5, 6, 7, 8, 9, 10] rfl) hK (ci := 1) (q0 := 0) rfl rfl rfl rfl hl.1 rfl (Nat.le_of_ble_eq_true rfl) d_Rp_missingPart_28 ⟨Nat.zero_le _, Nat.zero_le _⟩ (fun r_2 hr_2 => ?_)
    refine W.eq (g2 := F0 m 31 ls [.int r_2]) rfl ?_
    rw [det2, hsx] at hr_2
    subst hr_2
    refine lv_istore_n (lv' := [(3, .int (nI (nd x).2.2)), (2, .int (nI (nd x).2.1)), (0, .ref (ad 9)), (1, .int (nI x))]) hx hb d_Rp_missingPart_31 rfl hl (by decide) rfl (fun ls hl => ?_)
    refine lv_iload_n hx hb d_Rp_missingPart_32 rfl (lv_at hl 0 rfl) ?_
    refine lv_iconst (v := (-1)) hx hb d_Rp_missingPart_33 (by decide) ?_
    refine lv_icmp_eq (tgt := 51) hx hb d_Rp_missingPart_34 (by decide) (fun c_34 => ?_) (fun c_34 => ?_)
    · exact absurd c_34 (nI_m1 (by omega))
    · refine lv_aload_n hx hb d_Rp_missingPart_37 rfl (lv_at hl 2 rfl) ?_
      refine va_get (D := (dC, dI)) (ci := 2) (v := .ref (ad 10)) (C := R_Rp) (T := F_Rp) (N := 3) hx hb htb ul_Rp hown hK hP 0 rfl rfl 1 (by decide) (htb _ mw_63) (fun _ h9 => h9) rfl d_Rp_missingPart_38 ?_
      refine lv_iload_n hx hb d_Rp_missingPart_41 rfl (lv_at hl 0 rfl) ?_
      refine ry_iald (D := (dC, dI)) (j := (nd x).2.2) hx hb hK hP 1 0 rfl rfl (by omega) (by decide) d_Rp_missingPart_42 ?_
      refine lv_iconst (v := (-1)) hx hb d_Rp_missingPart_43 (by decide) ?_
      refine lv_icmp_ne (tgt := 51) hx hb d_Rp_missingPart_44 (by decide) (fun c_44 => ?_) (fun c_44 => ?_)
      · refine lv_iconst (v := (-1)) hx hb d_Rp_missingPart_51 (by decide) ?_
        exact W.iret (v := (-1)) hx hb hr (fun t ht hW => ⟨(-1), rfl, (by rw [if_neg c_17, if_neg c_44]), ht⟩) (fun _ h => by cases h) d_Rp_missingPart_52
      · refine lv_iload_n hx hb d_Rp_missingPart_47 rfl (lv_at hl 0 rfl) ?_
        refine lv_goto (tgt := 52) hx hb d_Rp_missingPart_48 (by decide) ?_
        exact W.iret (v := (nI (nd x).2.2)) hx hb hr (fun t ht hW => ⟨(nI (nd x).2.2), rfl, (by rw [if_neg c_17, if_pos c_44]), ht⟩) (fun _ h => by cases h) d_Rp_missingPart_52
  · refine lv_iload_n hx hb d_Rp_missingPart_20 rfl (lv_at hl 0 rfl) ?_
    exact W.iret (v := (nI (nd x).2.1)) hx hb hr (fun t ht hW => ⟨(nI (nd x).2.1), rfl, (by rw [if_pos c_17]), ht⟩) (fun _ h => by cases h) d_Rp_missingPart_21

set_option maxHeartbeats 4000000 in
set_option maxRecDepth 100000 in
theorem c2_Rp_remade (l : Launch) (htr : ∀ e, l.admits e → e.platform.stackTraces = false) (dC : Nat → ClassId) (dI : Nat → Nat → Nat) (cI cL cZ : ClassId) (ad : Nat → Nat) (RS OP K F S D U V : Nat → Int32) (PT : Nat → Int64) (n : Nat) (hn : n ≤ 120) (nd : Nat → Nat × Nat × Nat) (hok : LvOk nd n K F S D U PT) (x : Nat) (hx1 : x < n) (k2 : (nd x).1 = 2) (r1 : Nat) (hr1 : r1 < n) (hb1 : RS (nd x).2.1 = nI r1) (sz : Nat) : wx_Met l y_Rp_remade (cw_Rp_remade :: tb) (rmH 8 1 6) (va_Pc [.ref (ad 9), .int (nI x)] (wz_P (dC, dI) classes (wRL cI cL ad RS OP K F S D U V PT n) (tyI cI cL cZ) sz)) (wx_Q ry_i (fun r (u : LvS) => ∃ nd', mkd nd n (2, r1, 0) r nd' u.2.2.2.2.2.2 ∧ LvU nd' u) (fun X (u : LvS) => LvU nd u ∧ u.2.2.2.2.2.2 = n ∧ mkx nd n (2, r1, 0) X) (wy_B (dC, dI) classes (tyI cI cL cZ) (va_A (wRL cI cL ad RS OP K F S D U V PT n) sz) (fun u : LvS => wRL cI cL ad RS OP u.1 u.2.1 u.2.2.1 u.2.2.2.1 u.2.2.2.2.1 V u.2.2.2.2.2.1 u.2.2.2.2.2.2)) (va_A (wRL cI cL ad RS OP K F S D U V PT n) sz)) (va_A (wRL cI cL ad RS OP K F S D U V PT n) sz) := by
  refine wx_ofW (cc := b_Rp_remade) (maxL := 4) (ret := (some .int)) (by decide +kernel) rfl ?_
  intro p e s m args below meth c s₁ B hml0 ht0 hv
  have C0 := cx_of B hml0 rfl
  obtain ⟨hx, hb, hr, hml, hown, htb, hlocks⟩ := id C0
  obtain ⟨rfl, ⟨hsz, hP, hK, hD0⟩, hth, hst⟩ := hv
  subst hsz
  have hD := hD0.self (sz := s.heap.size)
  generalize hAe : va_A (wRL cI cL ad RS OP K F S D U V PT n) s.heap.size = A at hD hth ⊢
  have hA : ∀ q : Nat, s.heap.size ≤ q → A q := fun q h => by rw [← hAe]; exact Or.inr h
  have hS : va_S A s.heap s.heap [] := va_S.rf
  have hl := lv_entry ([.ref (ad 9), .int (nI x)]) (n := 4) (Nat.le_of_ble_eq_true rfl)
  rw [lg_entry_eq]
  generalize (lg_sl ([.ref (ad 9), .int (nI x)]) ++ List.replicate (4 - (lg_sl ([.ref (ad 9), .int (nI x)])).length) Slot.unset).toArray = ls at hl ⊢
  have hl : lv_has ls 4 [(0, .ref (ad 9)), (1, .int (nI x))] := hl
  have hP : va_P (dC, dI) classes [((ad 9), .inr (2, [.ref (ad 1), .ref (ad 10), .ref (ad 11)])), ((ad 10), .inl (cI, 120, .inl RS)), ((ad 11), .inl (cI, 120, .inl OP)), ((ad 1), .inr (1, [.ref (ad 2), .ref (ad 3), .ref (ad 4), .ref (ad 5), .ref (ad 6), .ref (ad 7), .ref (ad 8), .int (nI n)])), ((ad 2), .inl (cI, 120, .inl K)), ((ad 3), .inl (cI, 120, .inl F)), ((ad 4), .inl (cI, 120, .inl S)), ((ad 5), .inl (cI, 120, .inl D)), ((ad 6), .inl (cI, 120, .inl U)), ((ad 7), .inl (cI, 120, .inl V)), ((ad 8), .inl (cL, 3840, .inr (.inl PT)))] s.heap := hP
  have hD : va_D A [((ad 9), .inr (2, [.ref (ad 1), .ref (ad 10), .ref (ad 11)])), ((ad 10), .inl (cI, 120, .inl RS)), ((ad 11), .inl (cI, 120, .inl OP)), ((ad 1), .inr (1, [.ref (ad 2), .ref (ad 3), .ref (ad 4), .ref (ad 5), .ref (ad 6), .ref (ad 7), .ref (ad 8), .int (nI n)])), ((ad 2), .inl (cI, 120, .inl K)), ((ad 3), .inl (cI, 120, .inl F)), ((ad 4), .inl (cI, 120, .inl S)), ((ad 5), .inl (cI, 120, .inl D)), ((ad 6), .inl (cI, 120, .inl U)), ((ad 7), .inl (cI, 120, .inl V)), ((ad 8), .inl (cL, 3840, .inr (.inl PT)))] := hD
  have hrx := hok.1.2.1 x hx1
  have hkb := hrx.1
  have ha1 := hrx.2.2.1 (by omega)
  have hfx : F x = nI (nd x).2.1 := by rw [(hok.2.1 x hx1).2.1, fF_n (by omega)]
  have hkx := (hok.2.1 x hx1).1
  have hsx : S x = -1 := by rw [(hok.2.1 x hx1).2.2, fS, if_pos (by omega)]
  refine lv_aload_n hx hb d_Rp_remade_0 rfl (lv_at hl 0 rfl) ?_
  refine va_get (D := (dC, dI)) (ci := 2) (v := .ref (ad 1)) (C := R_Rp) (T := F_Rp) (N := 3) hx hb htb ul_Rp hown hK hP 0 rfl rfl 0 (by decide) (htb _ mw_62) (fun _ h9 => h9) rfl d_Rp_remade_1 ?_
  refine lv_iload_n hx hb d_Rp_remade_4 rfl (lv_at hl 1 rfl) ?_
  refine lv_iconst (v := 1) hx hb d_Rp_remade_5 (by decide) ?_
  refine ry_callV (n := 2) (As := [.int (nI x), .int 1]) (rest := []) ⟨hx, hb, hml, hown, htb⟩ (c_Lv_detail l dC dI cI cL cZ ad K F S D U V PT n hn x (by omega) 1) (gV mw_435 mw_129 mw_130 mw_2 mc_Lv_detail) rfl rfl (by decide +kernel) ⟨Nat.le_of_ble_eq_true rfl, Nat.le_of_ble_eq_true rfl⟩ (hP.sub [3, 4, 5, 6, 7, 8, 9, 10] rfl) hK (ci := 1) (q0 := 0) rfl rfl rfl rfl hl.1 rfl (Nat.le_of_ble_eq_true rfl) d_Rp_remade_6 ⟨Nat.zero_le _, Nat.zero_le _⟩ (fun r_1 hr_1 => ?_)
  refine W.eq (g2 := F0 m 9 ls [.int r_1]) rfl ?_
  rw [det1, hfx] at hr_1
  subst hr_1
  refine lv_istore_n (lv' := [(2, .int (nI (nd x).2.1)), (0, .ref (ad 9)), (1, .int (nI x))]) hx hb d_Rp_remade_9 rfl hl (by decide) rfl (fun ls hl => ?_)
  refine lv_aload_n hx hb d_Rp_remade_10 rfl (lv_at hl 1 rfl) ?_
  refine va_get (D := (dC, dI)) (ci := 2) (v := .ref (ad 1)) (C := R_Rp) (T := F_Rp) (N := 3) hx hb htb ul_Rp hown hK hP 0 rfl rfl 0 (by decide) (htb _ mw_62) (fun _ h9 => h9) rfl d_Rp_remade_11 ?_
  refine lv_iload_n hx hb d_Rp_remade_14 rfl (lv_at hl 2 rfl) ?_
  refine lv_iconst (v := 2) hx hb d_Rp_remade_15 (by decide) ?_
  refine ry_callV (n := 2) (As := [.int (nI x), .int 2]) (rest := []) ⟨hx, hb, hml, hown, htb⟩ (c_Lv_detail l dC dI cI cL cZ ad K F S D U V PT n hn x (by omega) 2) (gV mw_435 mw_129 mw_130 mw_2 mc_Lv_detail) rfl rfl (by decide +kernel) ⟨Nat.le_of_ble_eq_true rfl, Nat.le_of_ble_eq_true rfl⟩ (hP.sub [3, 4, 5, 6, 7, 8, 9, 10] rfl) hK (ci := 1) (q0 := 0) rfl rfl rfl rfl hl.1 rfl (Nat.le_of_ble_eq_true rfl) d_Rp_remade_16 ⟨Nat.zero_le _, Nat.zero_le _⟩ (fun r_2 hr_2 => ?_)
  refine W.eq (g2 := F0 m 19 ls [.int r_2]) rfl ?_
  rw [det2, hsx] at hr_2
  subst hr_2
  refine lv_istore_n (lv' := [(3, .int (-1)), (2, .int (nI (nd x).2.1)), (0, .ref (ad 9)), (1, .int (nI x))]) hx hb d_Rp_remade_19 rfl hl (by decide) rfl (fun ls hl => ?_)
  refine lv_aload_n hx hb d_Rp_remade_20 rfl (lv_at hl 2 rfl) ?_
  refine va_get (D := (dC, dI)) (ci := 2) (v := .ref (ad 1)) (C := R_Rp) (T := F_Rp) (N := 3) hx hb htb ul_Rp hown hK hP 0 rfl rfl 0 (by decide) (htb _ mw_62) (fun _ h9 => h9) rfl d_Rp_remade_21 ?_
  refine lv_aload_n hx hb d_Rp_remade_24 rfl (lv_at hl 2 rfl) ?_
  refine va_get (D := (dC, dI)) (ci := 2) (v := .ref (ad 1)) (C := R_Rp) (T := F_Rp) (N := 3) hx hb htb ul_Rp hown hK hP 0 rfl rfl 0 (by decide) (htb _ mw_62) (fun _ h9 => h9) rfl d_Rp_remade_25 ?_
  refine lv_iload_n hx hb d_Rp_remade_28 rfl (lv_at hl 3 rfl) ?_
  refine lv_iconst (v := 0) hx hb d_Rp_remade_29 (by decide) ?_
  refine ry_callV (n := 2) (As := [.int (nI x), .int 0]) (rest := [.ref (ad 1)]) ⟨hx, hb, hml, hown, htb⟩ (c_Lv_detail l dC dI cI cL cZ ad K F S D U V PT n hn x (by omega) 0) (gV mw_435 mw_129 mw_130 mw_2 mc_Lv_detail) rfl rfl (by decide +kernel) ⟨Nat.le_of_ble_eq_true rfl, Nat.le_of_ble_eq_true rfl⟩ (hP.sub [3, 4, 5, 6, 7, 8, 9, 10] rfl) hK (ci := 1) (q0 := 0) rfl rfl rfl rfl hl.1 rfl (Nat.le_of_ble_eq_true rfl) d_Rp_remade_30 ⟨Nat.zero_le _, Nat.zero_le _⟩ (fun r_3 hr_3 => ?_)
  refine W.eq (g2 := F0 m 33 ls [.int r_3, .ref (ad 1)]) rfl ?_
  rw [det0, hkx] at hr_3
  subst hr_3
  refine lv_aload_n hx hb d_Rp_remade_33 rfl (lv_at hl 2 rfl) ?_
  refine va_get (D := (dC, dI)) (ci := 2) (v := .ref (ad 10)) (C := R_Rp) (T := F_Rp) (N := 3) hx hb htb ul_Rp hown hK hP 0 rfl rfl 1 (by decide) (htb _ mw_63) (fun _ h9 => h9) rfl d_Rp_remade_34 ?_
  refine lv_iload_n hx hb d_Rp_remade_37 rfl (lv_at hl 1 rfl) ?_
  refine ry_iald (D := (dC, dI)) (j := (nd x).2.1) hx hb hK hP 1 0 rfl rfl (by omega) (by decide) d_Rp_remade_38 ?_
  rw [hb1]
  refine lv_iload_n hx hb d_Rp_remade_39 rfl (lv_at hl 0 rfl) ?_
  refine lv_iconst (v := (-1)) hx hb d_Rp_remade_40 (by decide) ?_
  refine lv_icmp_ne (tgt := 48) hx hb d_Rp_remade_41 (by decide) (fun c_41 => ?_) (fun c_41 => ?_)
  · exact absurd rfl c_41
  · refine lv_iconst (v := (-1)) hx hb d_Rp_remade_44 (by decide) ?_
    refine lv_goto (tgt := 54) hx hb d_Rp_remade_45 (by decide) ?_
    rw [k2]
    refine wz_callV (n := 3) (wr := [((ad 9), .inr (2, [.ref (ad 1), .ref (ad 10), .ref (ad 11)])), ((ad 10), .inl (cI, 120, .inl RS)), ((ad 11), .inl (cI, 120, .inl OP))]) (As := [.int (nI 2), .int (nI r1), .int (-1)]) (rest := []) ⟨hx, hb, hml, hown, htb⟩ (c_Lv_made l htr dC dI cI cL cZ ad K F S D U V PT n hn nd hok (2, r1, 0) (row2 n hr1) s.heap.size) (gV mw_440 mw_232 mw_233 mw_2 mc_Lv_made) rfl rfl (by decide +kernel) ⟨Nat.le_of_ble_eq_true rfl, Nat.le_of_ble_eq_true rfl⟩ hth hst hP hD hS hA hK [3, 4, 5, 6, 7, 8, 9, 10] [0, 1, 2] rfl rfl (by decide) (by decide) (hP.sub [3, 4, 5, 6, 7, 8, 9, 10] rfl) ((hD.sub [3, 4, 5, 6, 7, 8, 9, 10] (by decide) rfl).weaken (fun _ _ _ _ => trivial)) (ci := 1) (q0 := 0) rfl rfl rfl rfl hl.1 rfl (Nat.le_of_ble_eq_true rfl) d_Rp_remade_54 ⟨Nat.le_of_ble_eq_true rfl, Nat.le_of_ble_eq_true rfl⟩ (fun r u H locs hpost hP hD hS => ?_) (fun x X u H locs hpt hex hP hD hS => ?_)
    · have hP : va_P (dC, dI) classes [((ad 9), .inr (2, [.ref (ad 1), .ref (ad 10), .ref (ad 11)])), ((ad 10), .inl (cI, 120, .inl RS)), ((ad 11), .inl (cI, 120, .inl OP)), ((ad 1), .inr (1, [.ref (ad 2), .ref (ad 3), .ref (ad 4), .ref (ad 5), .ref (ad 6), .ref (ad 7), .ref (ad 8), .int (nI u.2.2.2.2.2.2)])), ((ad 2), .inl (cI, 120, .inl u.1)), ((ad 3), .inl (cI, 120, .inl u.2.1)), ((ad 4), .inl (cI, 120, .inl u.2.2.1)), ((ad 5), .inl (cI, 120, .inl u.2.2.2.1)), ((ad 6), .inl (cI, 120, .inl u.2.2.2.2.1)), ((ad 7), .inl (cI, 120, .inl V)), ((ad 8), .inl (cL, 3840, .inr (.inl u.2.2.2.2.2.1)))] H := hP
      have hD : va_D A [((ad 9), .inr (2, [.ref (ad 1), .ref (ad 10), .ref (ad 11)])), ((ad 10), .inl (cI, 120, .inl RS)), ((ad 11), .inl (cI, 120, .inl OP)), ((ad 1), .inr (1, [.ref (ad 2), .ref (ad 3), .ref (ad 4), .ref (ad 5), .ref (ad 6), .ref (ad 7), .ref (ad 8), .int (nI u.2.2.2.2.2.2)])), ((ad 2), .inl (cI, 120, .inl u.1)), ((ad 3), .inl (cI, 120, .inl u.2.1)), ((ad 4), .inl (cI, 120, .inl u.2.2.1)), ((ad 5), .inl (cI, 120, .inl u.2.2.2.1)), ((ad 6), .inl (cI, 120, .inl u.2.2.2.2.1)), ((ad 7), .inl (cI, 120, .inl V)), ((ad 8), .inl (cL, 3840, .inr (.inl u.2.2.2.2.2.1)))] := hD
      refine W.eq (g2 := F0 m 57 ls [.int r]) rfl ?_
      exact wx_ret (W.iret (v := r) hx hb hr (fun t ht hW => ⟨Or.inl ⟨r, u, rfl, hpost, by rw [ht]; exact hP, va_K.moved hW.alike hK, hD⟩, hS.F ht⟩) hS.2.2 d_Rp_remade_57)
    · exact wx_out ht0 hlocks (fun t ht hW => ⟨Or.inr ⟨x, X, u, rfl, hpt, ⟨by rw [ht]; exact hP, va_K.moved hW.alike hK, hD⟩, by obtain ⟨cell, g1, g2, g3⟩ := hex; exact ⟨cell, by rw [ht]; exact g1, g2, by rw [hW.alike.findClass]; exact g3⟩⟩, hS.F ht⟩) hS.2.2

set_option maxHeartbeats 4000000 in
set_option maxRecDepth 100000 in
theorem c3_Rp_remade (l : Launch) (htr : ∀ e, l.admits e → e.platform.stackTraces = false) (dC : Nat → ClassId) (dI : Nat → Nat → Nat) (cI cL cZ : ClassId) (ad : Nat → Nat) (RS OP K F S D U V : Nat → Int32) (PT : Nat → Int64) (n : Nat) (hn : n ≤ 120) (nd : Nat → Nat × Nat × Nat) (hok : LvOk nd n K F S D U PT) (x : Nat) (hx1 : x < n) (k3 : 3 ≤ (nd x).1) (r1 : Nat) (hr1 : r1 < n) (hb1 : RS (nd x).2.1 = nI r1) (r2 : Nat) (hr2 : r2 < n) (hb2 : RS (nd x).2.2 = nI r2) (sz : Nat) : wx_Met l y_Rp_remade (cw_Rp_remade :: tb) (rmH 8 1 6) (va_Pc [.ref (ad 9), .int (nI x)] (wz_P (dC, dI) classes (wRL cI cL ad RS OP K F S D U V PT n) (tyI cI cL cZ) sz)) (wx_Q ry_i (fun r (u : LvS) => ∃ nd', mkd nd n ((nd x).1, r1, r2) r nd' u.2.2.2.2.2.2 ∧ LvU nd' u) (fun X (u : LvS) => LvU nd u ∧ u.2.2.2.2.2.2 = n ∧ mkx nd n ((nd x).1, r1, r2) X) (wy_B (dC, dI) classes (tyI cI cL cZ) (va_A (wRL cI cL ad RS OP K F S D U V PT n) sz) (fun u : LvS => wRL cI cL ad RS OP u.1 u.2.1 u.2.2.1 u.2.2.2.1 u.2.2.2.2.1 V u.2.2.2.2.2.1 u.2.2.2.2.2.2)) (va_A (wRL cI cL ad RS OP K F S D U V PT n) sz)) (va_A (wRL cI cL ad RS OP K F S D U V PT n) sz) := by
  refine wx_ofW (cc := b_Rp_remade) (maxL := 4) (ret := (some .int)) (by decide +kernel) rfl ?_
  intro p e s m args below meth c s₁ B hml0 ht0 hv
  have C0 := cx_of B hml0 rfl
  obtain ⟨hx, hb, hr, hml, hown, htb, hlocks⟩ := id C0
  obtain ⟨rfl, ⟨hsz, hP, hK, hD0⟩, hth, hst⟩ := hv
  subst hsz
  have hD := hD0.self (sz := s.heap.size)
  generalize hAe : va_A (wRL cI cL ad RS OP K F S D U V PT n) s.heap.size = A at hD hth ⊢
  have hA : ∀ q : Nat, s.heap.size ≤ q → A q := fun q h => by rw [← hAe]; exact Or.inr h
  have hS : va_S A s.heap s.heap [] := va_S.rf
  have hl := lv_entry ([.ref (ad 9), .int (nI x)]) (n := 4) (Nat.le_of_ble_eq_true rfl)
  rw [lg_entry_eq]
  generalize (lg_sl ([.ref (ad 9), .int (nI x)]) ++ List.replicate (4 - (lg_sl ([.ref (ad 9), .int (nI x)])).length) Slot.unset).toArray = ls at hl ⊢
  have hl : lv_has ls 4 [(0, .ref (ad 9)), (1, .int (nI x))] := hl
  have hP : va_P (dC, dI) classes [((ad 9), .inr (2, [.ref (ad 1), .ref (ad 10), .ref (ad 11)])), ((ad 10), .inl (cI, 120, .inl RS)), ((ad 11), .inl (cI, 120, .inl OP)), ((ad 1), .inr (1, [.ref (ad 2), .ref (ad 3), .ref (ad 4), .ref (ad 5), .ref (ad 6), .ref (ad 7), .ref (ad 8), .int (nI n)])), ((ad 2), .inl (cI, 120, .inl K)), ((ad 3), .inl (cI, 120, .inl F)), ((ad 4), .inl (cI, 120, .inl S)), ((ad 5), .inl (cI, 120, .inl D)), ((ad 6), .inl (cI, 120, .inl U)), ((ad 7), .inl (cI, 120, .inl V)), ((ad 8), .inl (cL, 3840, .inr (.inl PT)))] s.heap := hP
  have hD : va_D A [((ad 9), .inr (2, [.ref (ad 1), .ref (ad 10), .ref (ad 11)])), ((ad 10), .inl (cI, 120, .inl RS)), ((ad 11), .inl (cI, 120, .inl OP)), ((ad 1), .inr (1, [.ref (ad 2), .ref (ad 3), .ref (ad 4), .ref (ad 5), .ref (ad 6), .ref (ad 7), .ref (ad 8), .int (nI n)])), ((ad 2), .inl (cI, 120, .inl K)), ((ad 3), .inl (cI, 120, .inl F)), ((ad 4), .inl (cI, 120, .inl S)), ((ad 5), .inl (cI, 120, .inl D)), ((ad 6), .inl (cI, 120, .inl U)), ((ad 7), .inl (cI, 120, .inl V)), ((ad 8), .inl (cL, 3840, .inr (.inl PT)))] := hD
  have hrx := hok.1.2.1 x hx1
  have hkb := hrx.1
  have ha1 := hrx.2.2.1 (by omega)
  have hfx : F x = nI (nd x).2.1 := by rw [(hok.2.1 x hx1).2.1, fF_n (by omega)]
  have hkx := (hok.2.1 x hx1).1
  have ha2 := hrx.2.2.2.1 k3
  have hsx : S x = nI (nd x).2.2 := by rw [(hok.2.1 x hx1).2.2, fS_n k3]
  refine lv_aload_n hx hb d_Rp_remade_0 rfl (lv_at hl 0 rfl) ?_
  refine va_get (D := (dC, dI)) (ci := 2) (v := .ref (ad 1)) (C := R_Rp) (T := F_Rp) (N := 3) hx hb htb ul_Rp hown hK hP 0 rfl rfl 0 (by decide) (htb _ mw_62) (fun _ h9 => h9) rfl d_Rp_remade_1 ?_
  refine lv_iload_n hx hb d_Rp_remade_4 rfl (lv_at hl 1 rfl) ?_
  refine lv_iconst (v := 1) hx hb d_Rp_remade_5 (by decide) ?_
  refine ry_callV (n := 2) (As := [.int (nI x), .int 1]) (rest := []) ⟨hx, hb, hml, hown, htb⟩ (c_Lv_detail l dC dI cI cL cZ ad K F S D U V PT n hn x (by omega) 1) (gV mw_435 mw_129 mw_130 mw_2 mc_Lv_detail) rfl rfl (by decide +kernel) ⟨Nat.le_of_ble_eq_true rfl, Nat.le_of_ble_eq_true rfl⟩ (hP.sub [3, 4, 5, 6, 7, 8, 9, 10] rfl) hK (ci := 1) (q0 := 0) rfl rfl rfl rfl hl.1 rfl (Nat.le_of_ble_eq_true rfl) d_Rp_remade_6 ⟨Nat.zero_le _, Nat.zero_le _⟩ (fun r_1 hr_1 => ?_)
  refine W.eq (g2 := F0 m 9 ls [.int r_1]) rfl ?_
  rw [det1, hfx] at hr_1
  subst hr_1
  refine lv_istore_n (lv' := [(2, .int (nI (nd x).2.1)), (0, .ref (ad 9)), (1, .int (nI x))]) hx hb d_Rp_remade_9 rfl hl (by decide) rfl (fun ls hl => ?_)
  refine lv_aload_n hx hb d_Rp_remade_10 rfl (lv_at hl 1 rfl) ?_
  refine va_get (D := (dC, dI)) (ci := 2) (v := .ref (ad 1)) (C := R_Rp) (T := F_Rp) (N := 3) hx hb htb ul_Rp hown hK hP 0 rfl rfl 0 (by decide) (htb _ mw_62) (fun _ h9 => h9) rfl d_Rp_remade_11 ?_
  refine lv_iload_n hx hb d_Rp_remade_14 rfl (lv_at hl 2 rfl) ?_
  refine lv_iconst (v := 2) hx hb d_Rp_remade_15 (by decide) ?_
  refine ry_callV (n := 2) (As := [.int (nI x), .int 2]) (rest := []) ⟨hx, hb, hml, hown, htb⟩ (c_Lv_detail l dC dI cI cL cZ ad K F S D U V PT n hn x (by omega) 2) (gV mw_435 mw_129 mw_130 mw_2 mc_Lv_detail) rfl rfl (by decide +kernel) ⟨Nat.le_of_ble_eq_true rfl, Nat.le_of_ble_eq_true rfl⟩ (hP.sub [3, 4, 5, 6, 7, 8, 9, 10] rfl) hK (ci := 1) (q0 := 0) rfl rfl rfl rfl hl.1 rfl (Nat.le_of_ble_eq_true rfl) d_Rp_remade_16 ⟨Nat.zero_le _, Nat.zero_le _⟩ (fun r_2 hr_2 => ?_)
  refine W.eq (g2 := F0 m 19 ls [.int r_2]) rfl ?_
  rw [det2, hsx] at hr_2
  subst hr_2
  refine lv_istore_n (lv' := [(3, .int (nI (nd x).2.2)), (2, .int (nI (nd x).2.1)), (0, .ref (ad 9)), (1, .int (nI x))]) hx hb d_Rp_remade_19 rfl hl (by decide) rfl (fun ls hl => ?_)
  refine lv_aload_n hx hb d_Rp_remade_20 rfl (lv_at hl 2 rfl) ?_
  refine va_get (D := (dC, dI)) (ci := 2) (v := .ref (ad 1)) (C := R_Rp) (T := F_Rp) (N := 3) hx hb htb ul_Rp hown hK hP 0 rfl rfl 0 (by decide) (htb _ mw_62) (fun _ h9 => h9) rfl d_Rp_remade_21 ?_
  refine lv_aload_n hx hb d_Rp_remade_24 rfl (lv_at hl 2 rfl) ?_
  refine va_get (D := (dC, dI)) (ci := 2) (v := .ref (ad 1)) (C := R_Rp) (T := F_Rp) (N := 3) hx hb htb ul_Rp hown hK hP 0 rfl rfl 0 (by decide) (htb _ mw_62) (fun _ h9 => h9) rfl d_Rp_remade_25 ?_
  refine lv_iload_n hx hb d_Rp_remade_28 rfl (lv_at hl 3 rfl) ?_
  refine lv_iconst (v := 0) hx hb d_Rp_remade_29 (by decide) ?_
  refine ry_callV (n := 2) (As := [.int (nI x), .int 0]) (rest := [.ref (ad 1)]) ⟨hx, hb, hml, hown, htb⟩ (c_Lv_detail l dC dI cI cL cZ ad K F S D U V PT n hn x (by omega) 0) (gV mw_435 mw_129 mw_130 mw_2 mc_Lv_detail) rfl rfl (by decide +kernel) ⟨Nat.le_of_ble_eq_true rfl, Nat.le_of_ble_eq_true rfl⟩ (hP.sub [3, 4, 5, 6, 7, 8, 9, 10] rfl) hK (ci := 1) (q0 := 0) rfl rfl rfl rfl hl.1 rfl (Nat.le_of_ble_eq_true rfl) d_Rp_remade_30 ⟨Nat.zero_le _, Nat.zero_le _⟩ (fun r_3 hr_3 => ?_)
  refine W.eq (g2 := F0 m 33 ls [.int r_3, .ref (ad 1)]) rfl ?_
  rw [det0, hkx] at hr_3
  subst hr_3
  refine lv_aload_n hx hb d_Rp_remade_33 rfl (lv_at hl 2 rfl) ?_
  refine va_get (D := (dC, dI)) (ci := 2) (v := .ref (ad 10)) (C := R_Rp) (T := F_Rp) (N := 3) hx hb htb ul_Rp hown hK hP 0 rfl rfl 1 (by decide) (htb _ mw_63) (fun _ h9 => h9) rfl d_Rp_remade_34 ?_
  refine lv_iload_n hx hb d_Rp_remade_37 rfl (lv_at hl 1 rfl) ?_
  refine ry_iald (D := (dC, dI)) (j := (nd x).2.1) hx hb hK hP 1 0 rfl rfl (by omega) (by decide) d_Rp_remade_38 ?_
  rw [hb1]
  refine lv_iload_n hx hb d_Rp_remade_39 rfl (lv_at hl 0 rfl) ?_
  refine lv_iconst (v := (-1)) hx hb d_Rp_remade_40 (by decide) ?_
  refine lv_icmp_ne (tgt := 48) hx hb d_Rp_remade_41 (by decide) (fun c_41 => ?_) (fun c_41 => ?_)
  · refine lv_aload_n hx hb d_Rp_remade_48 rfl (lv_at hl 2 rfl) ?_
    refine va_get (D := (dC, dI)) (ci := 2) (v := .ref (ad 10)) (C := R_Rp) (T := F_Rp) (N := 3) hx hb htb ul_Rp hown hK hP 0 rfl rfl 1 (by decide) (htb _ mw_63) (fun _ h9 => h9) rfl d_Rp_remade_49 ?_
    refine lv_iload_n hx hb d_Rp_remade_52 rfl (lv_at hl 0 rfl) ?_
    refine ry_iald (D := (dC, dI)) (j := (nd x).2.2) hx hb hK hP 1 0 rfl rfl (by omega) (by decide) d_Rp_remade_53 ?_
    rw [hb2]
    refine W.eq (g2 := F0 m 54 ls [.int (fS ((nd x).1, r1, r2)), .int (fF ((nd x).1, r1, r2)), .int (nI (nd x).1), .ref (ad 1)]) (by rw [fF_n (show 1 ≤ (((nd x).1, r1, r2) : Nat × Nat × Nat).1 by show 1 ≤ (nd x).1; omega), fS_n (show 3 ≤ (((nd x).1, r1, r2) : Nat × Nat × Nat).1 from k3)]) ?_
    refine wz_callV (n := 3) (wr := [((ad 9), .inr (2, [.ref (ad 1), .ref (ad 10), .ref (ad 11)])), ((ad 10), .inl (cI, 120, .inl RS)), ((ad 11), .inl (cI, 120, .inl OP))]) (As := [.int (nI (nd x).1), .int (fF ((nd x).1, r1, r2)), .int (fS ((nd x).1, r1, r2))]) (rest := []) ⟨hx, hb, hml, hown, htb⟩ (c_Lv_made l htr dC dI cI cL cZ ad K F S D U V PT n hn nd hok ((nd x).1, r1, r2) (rowk k3 hkb hr1 hr2) s.heap.size) (gV mw_440 mw_232 mw_233 mw_2 mc_Lv_made) rfl rfl (by decide +kernel) ⟨Nat.le_of_ble_eq_true rfl, Nat.le_of_ble_eq_true rfl⟩ hth hst hP hD hS hA hK [3, 4, 5, 6, 7, 8, 9, 10] [0, 1, 2] rfl rfl (by decide) (by decide) (hP.sub [3, 4, 5, 6, 7, 8, 9, 10] rfl) ((hD.sub [3, 4, 5, 6, 7, 8, 9, 10] (by decide) rfl).weaken (fun _ _ _ _ => trivial)) (ci := 1) (q0 := 0) rfl rfl rfl rfl hl.1 rfl (Nat.le_of_ble_eq_true rfl) d_Rp_remade_54 ⟨Nat.le_of_ble_eq_true rfl, Nat.le_of_ble_eq_true rfl⟩ (fun r u H locs hpost hP hD hS => ?_) (fun x X u H locs hpt hex hP hD hS => ?_)
    · have hP : va_P (dC, dI) classes [((ad 9), .inr (2, [.ref (ad 1), .ref (ad 10), .ref (ad 11)])), ((ad 10), .inl (cI, 120, .inl RS)), ((ad 11), .inl (cI, 120, .inl OP)), ((ad 1), .inr (1, [.ref (ad 2), .ref (ad 3), .ref (ad 4), .ref (ad 5), .ref (ad 6), .ref (ad 7), .ref (ad 8), .int (nI u.2.2.2.2.2.2)])), ((ad 2), .inl (cI, 120, .inl u.1)), ((ad 3), .inl (cI, 120, .inl u.2.1)), ((ad 4), .inl (cI, 120, .inl u.2.2.1)), ((ad 5), .inl (cI, 120, .inl u.2.2.2.1)), ((ad 6), .inl (cI, 120, .inl u.2.2.2.2.1)), ((ad 7), .inl (cI, 120, .inl V)), ((ad 8), .inl (cL, 3840, .inr (.inl u.2.2.2.2.2.1)))] H := hP
      have hD : va_D A [((ad 9), .inr (2, [.ref (ad 1), .ref (ad 10), .ref (ad 11)])), ((ad 10), .inl (cI, 120, .inl RS)), ((ad 11), .inl (cI, 120, .inl OP)), ((ad 1), .inr (1, [.ref (ad 2), .ref (ad 3), .ref (ad 4), .ref (ad 5), .ref (ad 6), .ref (ad 7), .ref (ad 8), .int (nI u.2.2.2.2.2.2)])), ((ad 2), .inl (cI, 120, .inl u.1)), ((ad 3), .inl (cI, 120, .inl u.2.1)), ((ad 4), .inl (cI, 120, .inl u.2.2.1)), ((ad 5), .inl (cI, 120, .inl u.2.2.2.1)), ((ad 6), .inl (cI, 120, .inl u.2.2.2.2.1)), ((ad 7), .inl (cI, 120, .inl V)), ((ad 8), .inl (cL, 3840, .inr (.inl u.2.2.2.2.2.1)))] := hD
      refine W.eq (g2 := F0 m 57 ls [.int r]) rfl ?_
      exact wx_ret (W.iret (v := r) hx hb hr (fun t ht hW => ⟨Or.inl ⟨r, u, rfl, hpost, by rw [ht]; exact hP, va_K.moved hW.alike hK, hD⟩, hS.F ht⟩) hS.2.2 d_Rp_remade_57)
    · exact wx_out ht0 hlocks (fun t ht hW => ⟨Or.inr ⟨x, X, u, rfl, hpt, ⟨by rw [ht]; exact hP, va_K.moved hW.alike hK, hD⟩, by obtain ⟨cell, g1, g2, g3⟩ := hex; exact ⟨cell, by rw [ht]; exact g1, g2, by rw [hW.alike.findClass]; exact g3⟩⟩, hS.F ht⟩) hS.2.2
  · exact absurd c_41 (nI_m1 (by omega))
