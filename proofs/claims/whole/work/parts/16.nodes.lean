set_option maxHeartbeats 4000000 in
set_option maxRecDepth 100000 in
theorem c_Lv_nextsOf (l : Launch) (dC : Nat → ClassId) (dI : Nat → Nat → Nat) (cI cL cZ : ClassId) (ad : Nat → Nat) (K F S D U V : Nat → Int32) (PT : Nat → Int64) (n : Nat) (hn : n ≤ 120) (j : Nat) (hj : j < 120) (k a b : Nat) (hk4 : k ≤ 4) (hk : K j = nI k) (hf : 1 ≤ k → F j = nI a) (hs1 : 3 ≤ k → S j = nI b) (hp : k = 1 → a < 5) (ha : 2 ≤ k → a < 120) (hb1 : 3 ≤ k → b < 120) (x y : Nat) (hx2 : 2 ≤ k → D a = nI x) (hy2 : 3 ≤ k → D b = nI y) (hx3 : x < 1000) (hy3 : y < 1000) : Met l y_Lv_nextsOf (cw_Lv_nextsOf :: tb) (rmH 2 0 0) (va_Pc [.ref (ad 1), .int (nI j)] (ry_P (dC, dI) classes (wLv cI cL ad K F S D U V PT n) (tyI cI cL cZ))) (ry_S ry_i (fun r => r = nI (dA k x y))) 0 0 (fun _ => False) := by
  refine Met.ofW (cc := b_Lv_nextsOf) (maxL := 2) (ret := (some .int)) (by decide +kernel) rfl ?_
  intro p e s m args below meth c s₁ B hml0 hv
  have C0 := cx_of B hml0 rfl
  obtain ⟨hx, hb, hr, hml, hown, htb, hlocks⟩ := id C0
  obtain ⟨rfl, hP, hK⟩ := hv
  have hl := lv_entry ([.ref (ad 1), .int (nI j)]) (n := 2) (Nat.le_of_ble_eq_true rfl)
  rw [lg_entry_eq]
  generalize (lg_sl ([.ref (ad 1), .int (nI j)]) ++ List.replicate (2 - (lg_sl ([.ref (ad 1), .int (nI j)])).length) Slot.unset).toArray = ls at hl ⊢
  have hl : lv_has ls 2 [(0, .ref (ad 1)), (1, .int (nI j))] := hl
  have hP : va_P (dC, dI) classes [((ad 1), .inr (1, [.ref (ad 2), .ref (ad 3), .ref (ad 4), .ref (ad 5), .ref (ad 6), .ref (ad 7), .ref (ad 8), .int (nI n)])), ((ad 2), .inl (cI, 120, .inl K)), ((ad 3), .inl (cI, 120, .inl F)), ((ad 4), .inl (cI, 120, .inl S)), ((ad 5), .inl (cI, 120, .inl D)), ((ad 6), .inl (cI, 120, .inl U)), ((ad 7), .inl (cI, 120, .inl V)), ((ad 8), .inl (cL, 3840, .inr (.inl PT)))] s.heap := hP
  refine lv_aload_n hx hb d_Lv_nextsOf_0 rfl (lv_at hl 0 rfl) ?_
  refine va_get (D := (dC, dI)) (ci := 1) (v := .ref (ad 2)) (C := R_Lv) (T := F_Lv) (N := 8) hx hb htb ul_Lv hown hK hP 0 rfl rfl 0 (by decide) (htb _ mw_29) (fun _ h9 => h9) rfl d_Lv_nextsOf_1 ?_
  refine lv_iload_n hx hb d_Lv_nextsOf_4 rfl (lv_at hl 1 rfl) ?_
  refine ry_iald (D := (dC, dI)) (j := j) hx hb hK hP 1 0 rfl rfl (by omega) (by decide) d_Lv_nextsOf_5 ?_
  rcases (show k = 0 ∨ k = 1 ∨ k = 2 ∨ k = 3 ∨ k = 4 by omega) with rfl | rfl | rfl | rfl | rfl
  · refine lv_tableOut (tgt := 72) hx hb d_Lv_nextsOf_6 (by rw [hk]; decide) (by decide) ?_
    refine lv_iconst (v := 0) hx hb d_Lv_nextsOf_72 (by decide) ?_
    exact W.iret (v := 0) hx hb hr (fun t ht hW => ⟨0, rfl, rfl, ht⟩) (fun _ h => by cases h) d_Lv_nextsOf_73
  · refine lv_tableOut (tgt := 72) hx hb d_Lv_nextsOf_6 (by rw [hk]; decide) (by decide) ?_
    have hf := hf (by decide)
    have hp := hp rfl
    refine lv_iconst (v := 0) hx hb d_Lv_nextsOf_72 (by decide) ?_
    exact W.iret (v := 0) hx hb hr (fun t ht hW => ⟨0, rfl, rfl, ht⟩) (fun _ h => by cases h) d_Lv_nextsOf_73
  · refine lv_tableIn (off := 26) (tgt := 32) hx hb d_Lv_nextsOf_6 (by rw [hk]; decide) (by rw [hk]; decide) (by rw [hk]; decide) (by decide) ?_
    have hf := hf (by decide)
    have ha := ha (by decide)
    have hx2 := hx2 (by decide)
    refine lv_aload_n hx hb d_Lv_nextsOf_32 rfl (lv_at hl 0 rfl) ?_
    refine va_get (D := (dC, dI)) (ci := 1) (v := .ref (ad 5)) (C := R_Lv) (T := F_Lv) (N := 8) hx hb htb ul_Lv hown hK hP 0 rfl rfl 3 (by decide) (htb _ mw_32) (fun _ h9 => h9) rfl d_Lv_nextsOf_33 ?_
    refine lv_aload_n hx hb d_Lv_nextsOf_36 rfl (lv_at hl 0 rfl) ?_
    refine va_get (D := (dC, dI)) (ci := 1) (v := .ref (ad 3)) (C := R_Lv) (T := F_Lv) (N := 8) hx hb htb ul_Lv hown hK hP 0 rfl rfl 1 (by decide) (htb _ mw_30) (fun _ h9 => h9) rfl d_Lv_nextsOf_37 ?_
    refine lv_iload_n hx hb d_Lv_nextsOf_40 rfl (lv_at hl 1 rfl) ?_
    refine ry_iald (D := (dC, dI)) (j := j) hx hb hK hP 2 0 rfl rfl (by omega) (by decide) d_Lv_nextsOf_41 ?_
    rw [hf]
    refine ry_iald (D := (dC, dI)) (j := a) hx hb hK hP 4 0 rfl rfl (by omega) (by decide) d_Lv_nextsOf_42 ?_
    rw [hx2]
    refine lv_iconst (v := 1) hx hb d_Lv_nextsOf_43 (by decide) ?_
    refine lv_iadd hx hb d_Lv_nextsOf_44 ?_
    exact W.iret (v := ((nI x) + 1)) hx hb hr (fun t ht hW => ⟨((nI x) + 1), rfl, (nI_1 x), ht⟩) (fun _ h => by cases h) d_Lv_nextsOf_45
  · refine lv_tableIn (off := 40) (tgt := 46) hx hb d_Lv_nextsOf_6 (by rw [hk]; decide) (by rw [hk]; decide) (by rw [hk]; decide) (by decide) ?_
    have hf := hf (by decide)
    have hs1 := hs1 (by decide)
    have ha := ha (by decide)
    have hb1 := hb1 (by decide)
    have hx2 := hx2 (by decide)
    have hy2 := hy2 (by decide)
    refine lv_aload_n hx hb d_Lv_nextsOf_46 rfl (lv_at hl 0 rfl) ?_
    refine va_get (D := (dC, dI)) (ci := 1) (v := .ref (ad 5)) (C := R_Lv) (T := F_Lv) (N := 8) hx hb htb ul_Lv hown hK hP 0 rfl rfl 3 (by decide) (htb _ mw_32) (fun _ h9 => h9) rfl d_Lv_nextsOf_47 ?_
    refine lv_aload_n hx hb d_Lv_nextsOf_50 rfl (lv_at hl 0 rfl) ?_
    refine va_get (D := (dC, dI)) (ci := 1) (v := .ref (ad 3)) (C := R_Lv) (T := F_Lv) (N := 8) hx hb htb ul_Lv hown hK hP 0 rfl rfl 1 (by decide) (htb _ mw_30) (fun _ h9 => h9) rfl d_Lv_nextsOf_51 ?_
    refine lv_iload_n hx hb d_Lv_nextsOf_54 rfl (lv_at hl 1 rfl) ?_
    refine ry_iald (D := (dC, dI)) (j := j) hx hb hK hP 2 0 rfl rfl (by omega) (by decide) d_Lv_nextsOf_55 ?_
    rw [hf]
    refine ry_iald (D := (dC, dI)) (j := a) hx hb hK hP 4 0 rfl rfl (by omega) (by decide) d_Lv_nextsOf_56 ?_
    rw [hx2]
    refine lv_aload_n hx hb d_Lv_nextsOf_57 rfl (lv_at hl 0 rfl) ?_
    refine va_get (D := (dC, dI)) (ci := 1) (v := .ref (ad 5)) (C := R_Lv) (T := F_Lv) (N := 8) hx hb htb ul_Lv hown hK hP 0 rfl rfl 3 (by decide) (htb _ mw_32) (fun _ h9 => h9) rfl d_Lv_nextsOf_58 ?_
    refine lv_aload_n hx hb d_Lv_nextsOf_61 rfl (lv_at hl 0 rfl) ?_
    refine va_get (D := (dC, dI)) (ci := 1) (v := .ref (ad 4)) (C := R_Lv) (T := F_Lv) (N := 8) hx hb htb ul_Lv hown hK hP 0 rfl rfl 2 (by decide) (htb _ mw_31) (fun _ h9 => h9) rfl d_Lv_nextsOf_62 ?_
    refine lv_iload_n hx hb d_Lv_nextsOf_65 rfl (lv_at hl 1 rfl) ?_
    refine ry_iald (D := (dC, dI)) (j := j) hx hb hK hP 3 0 rfl rfl (by omega) (by decide) d_Lv_nextsOf_66 ?_
    rw [hs1]
    refine ry_iald (D := (dC, dI)) (j := b) hx hb hK hP 4 0 rfl rfl (by omega) (by decide) d_Lv_nextsOf_67 ?_
    rw [hy2]
    refine va_mmax hx hb (by rw [hml]; exact hl.1.symm) hown (htb _ mw_144) (htb _ mw_145) (htb _ mw_11) (htb _ mc_max) (Nat.le_of_ble_eq_true rfl) (Nat.le_of_ble_eq_true rfl) (Nat.zero_le _) (Nat.zero_le _) d_Lv_nextsOf_68 ?_
    rw [nI_max (by omega) (by omega)]
    exact W.iret (v := (nI (max x y))) hx hb hr (fun t ht hW => ⟨(nI (max x y)), rfl, rfl, ht⟩) (fun _ h => by cases h) d_Lv_nextsOf_71
  · refine lv_tableIn (off := 40) (tgt := 46) hx hb d_Lv_nextsOf_6 (by rw [hk]; decide) (by rw [hk]; decide) (by rw [hk]; decide) (by decide) ?_
    have hf := hf (by decide)
    have hs1 := hs1 (by decide)
    have ha := ha (by decide)
    have hb1 := hb1 (by decide)
    have hx2 := hx2 (by decide)
    have hy2 := hy2 (by decide)
    refine lv_aload_n hx hb d_Lv_nextsOf_46 rfl (lv_at hl 0 rfl) ?_
    refine va_get (D := (dC, dI)) (ci := 1) (v := .ref (ad 5)) (C := R_Lv) (T := F_Lv) (N := 8) hx hb htb ul_Lv hown hK hP 0 rfl rfl 3 (by decide) (htb _ mw_32) (fun _ h9 => h9) rfl d_Lv_nextsOf_47 ?_
    refine lv_aload_n hx hb d_Lv_nextsOf_50 rfl (lv_at hl 0 rfl) ?_
    refine va_get (D := (dC, dI)) (ci := 1) (v := .ref (ad 3)) (C := R_Lv) (T := F_Lv) (N := 8) hx hb htb ul_Lv hown hK hP 0 rfl rfl 1 (by decide) (htb _ mw_30) (fun _ h9 => h9) rfl d_Lv_nextsOf_51 ?_
    refine lv_iload_n hx hb d_Lv_nextsOf_54 rfl (lv_at hl 1 rfl) ?_
    refine ry_iald (D := (dC, dI)) (j := j) hx hb hK hP 2 0 rfl rfl (by omega) (by decide) d_Lv_nextsOf_55 ?_
    rw [hf]
    refine ry_iald (D := (dC, dI)) (j := a) hx hb hK hP 4 0 rfl rfl (by omega) (by decide) d_Lv_nextsOf_56 ?_
    rw [hx2]
    refine lv_aload_n hx hb d_Lv_nextsOf_57 rfl (lv_at hl 0 rfl) ?_
    refine va_get (D := (dC, dI)) (ci := 1) (v := .ref (ad 5)) (C := R_Lv) (T := F_Lv) (N := 8) hx hb htb ul_Lv hown hK hP 0 rfl rfl 3 (by decide) (htb _ mw_32) (fun _ h9 => h9) rfl d_Lv_nextsOf_58 ?_
    refine lv_aload_n hx hb d_Lv_nextsOf_61 rfl (lv_at hl 0 rfl) ?_
    refine va_get (D := (dC, dI)) (ci := 1) (v := .ref (ad 4)) (C := R_Lv) (T := F_Lv) (N := 8) hx hb htb ul_Lv hown hK hP 0 rfl rfl 2 (by decide) (htb _ mw_31) (fun _ h9 => h9) rfl d_Lv_nextsOf_62 ?_
    refine lv_iload_n hx hb d_Lv_nextsOf_65 rfl (lv_at hl 1 rfl) ?_
    refine ry_iald (D := (dC, dI)) (j := j) hx hb hK hP 3 0 rfl rfl (by omega) (by decide) d_Lv_nextsOf_66 ?_
    rw [hs1]
    refine ry_iald (D := (dC, dI)) (j := b) hx hb hK hP 4 0 rfl rfl (by omega) (by decide) d_Lv_nextsOf_67 ?_
    rw [hy2]
    refine va_mmax hx hb (by rw [hml]; exact hl.1.symm) hown (htb _ mw_144) (htb _ mw_145) (htb _ mw_11) (htb _ mc_max) (Nat.le_of_ble_eq_true rfl) (Nat.le_of_ble_eq_true rfl) (Nat.zero_le _) (Nat.zero_le _) d_Lv_nextsOf_68 ?_
    rw [nI_max (by omega) (by omega)]
    exact W.iret (v := (nI (max x y))) hx hb hr (fun t ht hW => ⟨(nI (max x y)), rfl, rfl, ht⟩) (fun _ h => by cases h) d_Lv_nextsOf_71

set_option maxHeartbeats 4000000 in
set_option maxRecDepth 100000 in
theorem c_Lv_usesOf (l : Launch) (dC : Nat → ClassId) (dI : Nat → Nat → Nat) (cI cL cZ : ClassId) (ad : Nat → Nat) (K F S D U V : Nat → Int32) (PT : Nat → Int64) (n : Nat) (hn : n ≤ 120) (j : Nat) (hj : j < 120) (k a b : Nat) (hk4 : k ≤ 4) (hk : K j = nI k) (hf : 1 ≤ k → F j = nI a) (hs1 : 3 ≤ k → S j = nI b) (hp : k = 1 → a < 5) (ha : 2 ≤ k → a < 120) (hb1 : 3 ≤ k → b < 120) (x y : Nat) (hx2 : 2 ≤ k → U a = nI x) (hy2 : 3 ≤ k → U b = nI y) (hx3 : x < 32) (hy3 : y < 32) : Met l y_Lv_usesOf (cw_Lv_usesOf :: tb) (rmH 1 0 0) (va_Pc [.ref (ad 1), .int (nI j)] (ry_P (dC, dI) classes (wLv cI cL ad K F S D U V PT n) (tyI cI cL cZ))) (ry_S ry_i (fun r => r = nI (uA k a x y))) 0 0 (fun _ => False) := by
  refine Met.ofW (cc := b_Lv_usesOf) (maxL := 2) (ret := (some .int)) (by decide +kernel) rfl ?_
  intro p e s m args below meth c s₁ B hml0 hv
  have C0 := cx_of B hml0 rfl
  obtain ⟨hx, hb, hr, hml, hown, htb, hlocks⟩ := id C0
  obtain ⟨rfl, hP, hK⟩ := hv
  have hl := lv_entry ([.ref (ad 1), .int (nI j)]) (n := 2) (Nat.le_of_ble_eq_true rfl)
  rw [lg_entry_eq]
  generalize (lg_sl ([.ref (ad 1), .int (nI j)]) ++ List.replicate (2 - (lg_sl ([.ref (ad 1), .int (nI j)])).length) Slot.unset).toArray = ls at hl ⊢
  have hl : lv_has ls 2 [(0, .ref (ad 1)), (1, .int (nI j))] := hl
  have hP : va_P (dC, dI) classes [((ad 1), .inr (1, [.ref (ad 2), .ref (ad 3), .ref (ad 4), .ref (ad 5), .ref (ad 6), .ref (ad 7), .ref (ad 8), .int (nI n)])), ((ad 2), .inl (cI, 120, .inl K)), ((ad 3), .inl (cI, 120, .inl F)), ((ad 4), .inl (cI, 120, .inl S)), ((ad 5), .inl (cI, 120, .inl D)), ((ad 6), .inl (cI, 120, .inl U)), ((ad 7), .inl (cI, 120, .inl V)), ((ad 8), .inl (cL, 3840, .inr (.inl PT)))] s.heap := hP
  refine lv_aload_n hx hb d_Lv_usesOf_0 rfl (lv_at hl 0 rfl) ?_
  refine va_get (D := (dC, dI)) (ci := 1) (v := .ref (ad 2)) (C := R_Lv) (T := F_Lv) (N := 8) hx hb htb ul_Lv hown hK hP 0 rfl rfl 0 (by decide) (htb _ mw_29) (fun _ h9 => h9) rfl d_Lv_usesOf_1 ?_
  refine lv_iload_n hx hb d_Lv_usesOf_4 rfl (lv_at hl 1 rfl) ?_
  refine ry_iald (D := (dC, dI)) (j := j) hx hb hK hP 1 0 rfl rfl (by omega) (by decide) d_Lv_usesOf_5 ?_
  rcases (show k = 0 ∨ k = 1 ∨ k = 2 ∨ k = 3 ∨ k = 4 by omega) with rfl | rfl | rfl | rfl | rfl
  · refine lv_tableOut (tgt := 81) hx hb d_Lv_usesOf_6 (by rw [hk]; decide) (by decide) ?_
    refine lv_iconst (v := 0) hx hb d_Lv_usesOf_81 (by decide) ?_
    exact W.iret (v := 0) hx hb hr (fun t ht hW => ⟨0, rfl, rfl, ht⟩) (fun _ h => by cases h) d_Lv_usesOf_82
  · refine lv_tableIn (off := 30) (tgt := 36) hx hb d_Lv_usesOf_6 (by rw [hk]; decide) (by rw [hk]; decide) (by rw [hk]; decide) (by decide) ?_
    have hf := hf (by decide)
    have hp := hp rfl
    refine lv_iconst (v := 1) hx hb d_Lv_usesOf_36 (by decide) ?_
    refine lv_aload_n hx hb d_Lv_usesOf_37 rfl (lv_at hl 0 rfl) ?_
    refine va_get (D := (dC, dI)) (ci := 1) (v := .ref (ad 3)) (C := R_Lv) (T := F_Lv) (N := 8) hx hb htb ul_Lv hown hK hP 0 rfl rfl 1 (by decide) (htb _ mw_30) (fun _ h9 => h9) rfl d_Lv_usesOf_38 ?_
    refine lv_iload_n hx hb d_Lv_usesOf_41 rfl (lv_at hl 1 rfl) ?_
    refine ry_iald (D := (dC, dI)) (j := j) hx hb hK hP 2 0 rfl rfl (by omega) (by decide) d_Lv_usesOf_42 ?_
    rw [hf]
    refine lv_ishl hx hb d_Lv_usesOf_43 ?_
    exact W.iret (v := (1 <<< ((nI a) &&& 31))) hx hb hr (fun t ht hW => ⟨(1 <<< ((nI a) &&& 31)), rfl, (shl5 a hp), ht⟩) (fun _ h => by cases h) d_Lv_usesOf_44
  · refine lv_tableIn (off := 39) (tgt := 45) hx hb d_Lv_usesOf_6 (by rw [hk]; decide) (by rw [hk]; decide) (by rw [hk]; decide) (by decide) ?_
    have hf := hf (by decide)
    have ha := ha (by decide)
    have hx2 := hx2 (by decide)
    refine lv_aload_n hx hb d_Lv_usesOf_45 rfl (lv_at hl 0 rfl) ?_
    refine va_get (D := (dC, dI)) (ci := 1) (v := .ref (ad 6)) (C := R_Lv) (T := F_Lv) (N := 8) hx hb htb ul_Lv hown hK hP 0 rfl rfl 4 (by decide) (htb _ mw_33) (fun _ h9 => h9) rfl d_Lv_usesOf_46 ?_
    refine lv_aload_n hx hb d_Lv_usesOf_49 rfl (lv_at hl 0 rfl) ?_
    refine va_get (D := (dC, dI)) (ci := 1) (v := .ref (ad 3)) (C := R_Lv) (T := F_Lv) (N := 8) hx hb htb ul_Lv hown hK hP 0 rfl rfl 1 (by decide) (htb _ mw_30) (fun _ h9 => h9) rfl d_Lv_usesOf_50 ?_
    refine lv_iload_n hx hb d_Lv_usesOf_53 rfl (lv_at hl 1 rfl) ?_
    refine ry_iald (D := (dC, dI)) (j := j) hx hb hK hP 2 0 rfl rfl (by omega) (by decide) d_Lv_usesOf_54 ?_
    rw [hf]
    refine ry_iald (D := (dC, dI)) (j := a) hx hb hK hP 5 0 rfl rfl (by omega) (by decide) d_Lv_usesOf_55 ?_
    rw [hx2]
    exact W.iret (v := (nI x)) hx hb hr (fun t ht hW => ⟨(nI x), rfl, rfl, ht⟩) (fun _ h => by cases h) d_Lv_usesOf_56
  · refine lv_tableIn (off := 51) (tgt := 57) hx hb d_Lv_usesOf_6 (by rw [hk]; decide) (by rw [hk]; decide) (by rw [hk]; decide) (by decide) ?_
    have hf := hf (by decide)
    have hs1 := hs1 (by decide)
    have ha := ha (by decide)
    have hb1 := hb1 (by decide)
    have hx2 := hx2 (by decide)
    have hy2 := hy2 (by decide)
    refine lv_aload_n hx hb d_Lv_usesOf_57 rfl (lv_at hl 0 rfl) ?_
    refine va_get (D := (dC, dI)) (ci := 1) (v := .ref (ad 6)) (C := R_Lv) (T := F_Lv) (N := 8) hx hb htb ul_Lv hown hK hP 0 rfl rfl 4 (by decide) (htb _ mw_33) (fun _ h9 => h9) rfl d_Lv_usesOf_58 ?_
    refine lv_aload_n hx hb d_Lv_usesOf_61 rfl (lv_at hl 0 rfl) ?_
    refine va_get (D := (dC, dI)) (ci := 1) (v := .ref (ad 3)) (C := R_Lv) (T := F_Lv) (N := 8) hx hb htb ul_Lv hown hK hP 0 rfl rfl 1 (by decide) (htb _ mw_30) (fun _ h9 => h9) rfl d_Lv_usesOf_62 ?_
    refine lv_iload_n hx hb d_Lv_usesOf_65 rfl (lv_at hl 1 rfl) ?_
    refine ry_iald (D := (dC, dI)) (j := j) hx hb hK hP 2 0 rfl rfl (by omega) (by decide) d_Lv_usesOf_66 ?_
    rw [hf]
    refine ry_iald (D := (dC, dI)) (j := a) hx hb hK hP 5 0 rfl rfl (by omega) (by decide) d_Lv_usesOf_67 ?_
    rw [hx2]
    refine lv_aload_n hx hb d_Lv_usesOf_68 rfl (lv_at hl 0 rfl) ?_
    refine va_get (D := (dC, dI)) (ci := 1) (v := .ref (ad 6)) (C := R_Lv) (T := F_Lv) (N := 8) hx hb htb ul_Lv hown hK hP 0 rfl rfl 4 (by decide) (htb _ mw_33) (fun _ h9 => h9) rfl d_Lv_usesOf_69 ?_
    refine lv_aload_n hx hb d_Lv_usesOf_72 rfl (lv_at hl 0 rfl) ?_
    refine va_get (D := (dC, dI)) (ci := 1) (v := .ref (ad 4)) (C := R_Lv) (T := F_Lv) (N := 8) hx hb htb ul_Lv hown hK hP 0 rfl rfl 2 (by decide) (htb _ mw_31) (fun _ h9 => h9) rfl d_Lv_usesOf_73 ?_
    refine lv_iload_n hx hb d_Lv_usesOf_76 rfl (lv_at hl 1 rfl) ?_
    refine ry_iald (D := (dC, dI)) (j := j) hx hb hK hP 3 0 rfl rfl (by omega) (by decide) d_Lv_usesOf_77 ?_
    rw [hs1]
    refine ry_iald (D := (dC, dI)) (j := b) hx hb hK hP 5 0 rfl rfl (by omega) (by decide) d_Lv_usesOf_78 ?_
    rw [hy2]
    refine lv_ior hx hb d_Lv_usesOf_79 ?_
    exact W.iret (v := ((nI x) ||| (nI y))) hx hb hr (fun t ht hW => ⟨((nI x) ||| (nI y)), rfl, (or32 x hx3 y hy3), ht⟩) (fun _ h => by cases h) d_Lv_usesOf_80
  · refine lv_tableIn (off := 51) (tgt := 57) hx hb d_Lv_usesOf_6 (by rw [hk]; decide) (by rw [hk]; decide) (by rw [hk]; decide) (by decide) ?_
    have hf := hf (by decide)
    have hs1 := hs1 (by decide)
    have ha := ha (by decide)
    have hb1 := hb1 (by decide)
    have hx2 := hx2 (by decide)
    have hy2 := hy2 (by decide)
    refine lv_aload_n hx hb d_Lv_usesOf_57 rfl (lv_at hl 0 rfl) ?_
    refine va_get (D := (dC, dI)) (ci := 1) (v := .ref (ad 6)) (C := R_Lv) (T := F_Lv) (N := 8) hx hb htb ul_Lv hown hK hP 0 rfl rfl 4 (by decide) (htb _ mw_33) (fun _ h9 => h9) rfl d_Lv_usesOf_58 ?_
    refine lv_aload_n hx hb d_Lv_usesOf_61 rfl (lv_at hl 0 rfl) ?_
    refine va_get (D := (dC, dI)) (ci := 1) (v := .ref (ad 3)) (C := R_Lv) (T := F_Lv) (N := 8) hx hb htb ul_Lv hown hK hP 0 rfl rfl 1 (by decide) (htb _ mw_30) (fun _ h9 => h9) rfl d_Lv_usesOf_62 ?_
    refine lv_iload_n hx hb d_Lv_usesOf_65 rfl (lv_at hl 1 rfl) ?_
    refine ry_iald (D := (dC, dI)) (j := j) hx hb hK hP 2 0 rfl rfl (by omega) (by decide) d_Lv_usesOf_66 ?_
    rw [hf]
    refine ry_iald (D := (dC, dI)) (j := a) hx hb hK hP 5 0 rfl rfl (by omega) (by decide) d_Lv_usesOf_67 ?_
    rw [hx2]
    refine lv_aload_n hx hb d_Lv_usesOf_68 rfl (lv_at hl 0 rfl) ?_
    refine va_get (D := (dC, dI)) (ci := 1) (v := .ref (ad 6)) (C := R_Lv) (T := F_Lv) (N := 8) hx hb htb ul_Lv hown hK hP 0 rfl rfl 4 (by decide) (htb _ mw_33) (fun _ h9 => h9) rfl d_Lv_usesOf_69 ?_
    refine lv_aload_n hx hb d_Lv_usesOf_72 rfl (lv_at hl 0 rfl) ?_
    refine va_get (D := (dC, dI)) (ci := 1) (v := .ref (ad 4)) (C := R_Lv) (T := F_Lv) (N := 8) hx hb htb ul_Lv hown hK hP 0 rfl rfl 2 (by decide) (htb _ mw_31) (fun _ h9 => h9) rfl d_Lv_usesOf_73 ?_
    refine lv_iload_n hx hb d_Lv_usesOf_76 rfl (lv_at hl 1 rfl) ?_
    refine ry_iald (D := (dC, dI)) (j := j) hx hb hK hP 3 0 rfl rfl (by omega) (by decide) d_Lv_usesOf_77 ?_
    rw [hs1]
    refine ry_iald (D := (dC, dI)) (j := b) hx hb hK hP 5 0 rfl rfl (by omega) (by decide) d_Lv_usesOf_78 ?_
    rw [hy2]
    refine lv_ior hx hb d_Lv_usesOf_79 ?_
    exact W.iret (v := ((nI x) ||| (nI y))) hx hb hr (fun t ht hW => ⟨((nI x) ||| (nI y)), rfl, (or32 x hx3 y hy3), ht⟩) (fun _ h => by cases h) d_Lv_usesOf_80

set_option maxHeartbeats 4000000 in
set_option maxRecDepth 100000 in
theorem c_Lv_partsOf (l : Launch) (dC : Nat → ClassId) (dI : Nat → Nat → Nat) (cI cL cZ : ClassId) (ad : Nat → Nat) (K F S D U V : Nat → Int32) (PT : Nat → Int64) (n : Nat) (hn : n ≤ 120) (j : Nat) (hj : j < 120) (k a b : Nat) (hk4 : k ≤ 4) (hk : K j = nI k) (hf : 1 ≤ k → F j = nI a) (hs1 : 3 ≤ k → S j = nI b) (hp : k = 1 → a < 5) (ha : 2 ≤ k → a < 120) (hb1 : 3 ≤ k → b < 120) (g : Nat) (hg : g < 32) (X Y : Nat → Nat) (bX : byt X) (bY : byt Y) (lX : ∀ i, i < 6 → X i < 127) (hX : 2 ≤ k → PT (a * 32 + g) = en X) (hY : 3 ≤ k → PT (b * 32 + g) = en Y) : Met l y_Lv_partsOf (cw_Lv_partsOf :: tb) (rmH 4 0 0) (va_Pc [.ref (ad 1), .int (nI j), .int (nI g)] (ry_P (dC, dI) classes (wLv cI cL ad K F S D U V PT n) (tyI cI cL cZ))) (ry_S ry_l (fun r => r = en (pA g k a X Y))) 0 0 (fun _ => False) := by
  refine Met.ofW (cc := b_Lv_partsOf) (maxL := 5) (ret := (some .long)) (by decide +kernel) rfl ?_
  intro p e s m args below meth c s₁ B hml0 hv
  have C0 := cx_of B hml0 rfl
  obtain ⟨hx, hb, hr, hml, hown, htb, hlocks⟩ := id C0
  obtain ⟨rfl, hP, hK⟩ := hv
  have hl := lv_entry ([.ref (ad 1), .int (nI j), .int (nI g)]) (n := 5) (Nat.le_of_ble_eq_true rfl)
  rw [lg_entry_eq]
  generalize (lg_sl ([.ref (ad 1), .int (nI j), .int (nI g)]) ++ List.replicate (5 - (lg_sl ([.ref (ad 1), .int (nI j), .int (nI g)])).length) Slot.unset).toArray = ls at hl ⊢
  have hl : lv_has ls 5 [(0, .ref (ad 1)), (1, .int (nI j)), (2, .int (nI g))] := hl
  have hP : va_P (dC, dI) classes [((ad 1), .inr (1, [.ref (ad 2), .ref (ad 3), .ref (ad 4), .ref (ad 5), .ref (ad 6), .ref (ad 7), .ref (ad 8), .int (nI n)])), ((ad 2), .inl (cI, 120, .inl K)), ((ad 3), .inl (cI, 120, .inl F)), ((ad 4), .inl (cI, 120, .inl S)), ((ad 5), .inl (cI, 120, .inl D)), ((ad 6), .inl (cI, 120, .inl U)), ((ad 7), .inl (cI, 120, .inl V)), ((ad 8), .inl (cL, 3840, .inr (.inl PT)))] s.heap := hP
  refine lv_aload_n hx hb d_Lv_partsOf_0 rfl (lv_at hl 0 rfl) ?_
  refine va_get (D := (dC, dI)) (ci := 1) (v := .ref (ad 2)) (C := R_Lv) (T := F_Lv) (N := 8) hx hb htb ul_Lv hown hK hP 0 rfl rfl 0 (by decide) (htb _ mw_29) (fun _ h9 => h9) rfl d_Lv_partsOf_1 ?_
  refine lv_iload_n hx hb d_Lv_partsOf_4 rfl (lv_at hl 1 rfl) ?_
  refine ry_iald (D := (dC, dI)) (j := j) hx hb hK hP 1 0 rfl rfl (by omega) (by decide) d_Lv_partsOf_5 ?_
  rcases (show k = 0 ∨ k = 1 ∨ k = 2 ∨ k = 3 ∨ k = 4 by omega) with rfl | rfl | rfl | rfl | rfl
  · refine lv_tableOut (tgt := 144) hx hb d_Lv_partsOf_6 (by rw [hk]; decide) (by decide) ?_
    refine lv_iconst (v := 5) hx hb d_Lv_partsOf_144 (by decide) ?_
    refine lv_iconst (v := 0) hx hb d_Lv_partsOf_145 (by decide) ?_
    refine ry_callS (n := 2) (As := [.int 5, .int (nI 1 - 1)]) (rest := []) ⟨hx, hb, hml, hown, htb⟩ (c_Pt_only l 5 1 (by omega) (by decide)) (gS mw_339 mw_340 mw_12 mc_Pt_only) rfl rfl (by decide +kernel) ⟨Nat.le_of_ble_eq_true rfl, Nat.le_of_ble_eq_true rfl⟩ rfl hl.1 rfl (Nat.le_of_ble_eq_true rfl) d_Lv_partsOf_146 ⟨Nat.zero_le _, Nat.zero_le _⟩ (fun r_1 hr_1 => ?_)
    subst hr_1
    refine W.eq (g2 := F0 m 149 ls [.long (lN (1 * 256 ^ 5))]) rfl ?_
    rw [en_sg 5 (by omega)]
    exact W.lret (v := (en (sg 5))) hx hb hr (fun t ht hW => ⟨(en (sg 5)), rfl, rfl, ht⟩) (fun _ h => by cases h) d_Lv_partsOf_149
  · refine lv_tableIn (off := 30) (tgt := 36) hx hb d_Lv_partsOf_6 (by rw [hk]; decide) (by rw [hk]; decide) (by rw [hk]; decide) (by decide) ?_
    have hf := hf (by decide)
    have hp := hp rfl
    refine lv_iload_n hx hb d_Lv_partsOf_36 rfl (lv_at hl 2 rfl) ?_
    refine lv_aload_n hx hb d_Lv_partsOf_37 rfl (lv_at hl 0 rfl) ?_
    refine va_get (D := (dC, dI)) (ci := 1) (v := .ref (ad 3)) (C := R_Lv) (T := F_Lv) (N := 8) hx hb htb ul_Lv hown hK hP 0 rfl rfl 1 (by decide) (htb _ mw_30) (fun _ h9 => h9) rfl d_Lv_partsOf_38 ?_
    refine lv_iload_n hx hb d_Lv_partsOf_41 rfl (lv_at hl 1 rfl) ?_
    refine ry_iald (D := (dC, dI)) (j := j) hx hb hK hP 2 0 rfl rfl (by omega) (by decide) d_Lv_partsOf_42 ?_
    rw [hf]
    refine lv_ishr hx hb d_Lv_partsOf_43 ?_
    refine lv_iconst (v := 1) hx hb d_Lv_partsOf_44 (by decide) ?_
    refine lv_iand hx hb d_Lv_partsOf_45 ?_
    refine lv_if_eq (tgt := 58) hx hb d_Lv_partsOf_46 (by decide) (fun c_46 => ?_) (fun c_46 => ?_)
    · refine lv_iconst (v := 5) hx hb d_Lv_partsOf_58 (by decide) ?_
      refine lv_iconst (v := 0) hx hb d_Lv_partsOf_59 (by decide) ?_
      refine ry_callS (n := 2) (As := [.int 5, .int (nI 1 - 1)]) (rest := []) ⟨hx, hb, hml, hown, htb⟩ (c_Pt_only l 5 1 (by omega) (by decide)) (gS mw_339 mw_340 mw_12 mc_Pt_only) rfl rfl (by decide +kernel) ⟨Nat.le_of_ble_eq_true rfl, Nat.le_of_ble_eq_true rfl⟩ rfl hl.1 rfl (Nat.le_of_ble_eq_true rfl) d_Lv_partsOf_60 ⟨Nat.zero_le _, Nat.zero_le _⟩ (fun r_2 hr_2 => ?_)
      subst hr_2
      refine W.eq (g2 := F0 m 63 ls [.long (lN (1 * 256 ^ 5))]) rfl ?_
      rw [en_sg 5 (by omega)]
      exact W.lret (v := (en (sg 5))) hx hb hr (fun t ht hW => ⟨(en (sg 5)), rfl, (by rw [pA, if_pos rfl, if_neg ((bit5 g hg a hp).mp c_46)]), ht⟩) (fun _ h => by cases h) d_Lv_partsOf_63
    · refine lv_aload_n hx hb d_Lv_partsOf_49 rfl (lv_at hl 0 rfl) ?_
      refine va_get (D := (dC, dI)) (ci := 1) (v := .ref (ad 3)) (C := R_Lv) (T := F_Lv) (N := 8) hx hb htb ul_Lv hown hK hP 0 rfl rfl 1 (by decide) (htb _ mw_30) (fun _ h9 => h9) rfl d_Lv_partsOf_50 ?_
      refine lv_iload_n hx hb d_Lv_partsOf_53 rfl (lv_at hl 1 rfl) ?_
      refine ry_iald (D := (dC, dI)) (j := j) hx hb hK hP 2 0 rfl rfl (by omega) (by decide) d_Lv_partsOf_54 ?_
      rw [hf]
      refine lv_goto (tgt := 59) hx hb d_Lv_partsOf_55 (by decide) ?_
      refine lv_iconst (v := 0) hx hb d_Lv_partsOf_59 (by decide) ?_
      refine ry_callS (n := 2) (As := [.int (nI a), .int (nI 1 - 1)]) (rest := []) ⟨hx, hb, hml, hown, htb⟩ (c_Pt_only l a 1 (by omega) (by decide)) (gS mw_339 mw_340 mw_12 mc_Pt_only) rfl rfl (by decide +kernel) ⟨Nat.le_of_ble_eq_true rfl, Nat.le_of_ble_eq_true rfl⟩ rfl hl.1 rfl (Nat.le_of_ble_eq_true rfl) d_Lv_partsOf_60 ⟨Nat.zero_le _, Nat.zero_le _⟩ (fun r_3 hr_3 => ?_)
      subst hr_3
      refine W.eq (g2 := F0 m 63 ls [.long (lN (1 * 256 ^ a))]) rfl ?_
      rw [en_sg a (by omega)]
      exact W.lret (v := (en (sg a))) hx hb hr (fun t ht hW => ⟨(en (sg a)), rfl, (by rw [pA, if_pos rfl, if_pos (Decidable.byContradiction fun z => c_46 ((bit5 g hg a hp).mpr z))]), ht⟩) (fun _ h => by cases h) d_Lv_partsOf_63
  · refine lv_tableIn (off := 58) (tgt := 64) hx hb d_Lv_partsOf_6 (by rw [hk]; decide) (by rw [hk]; decide) (by rw [hk]; decide) (by decide) ?_
    have hf := hf (by decide)
    have ha := ha (by decide)
    have hX := hX (by decide)
    refine lv_aload_n hx hb d_Lv_partsOf_64 rfl (lv_at hl 0 rfl) ?_
    refine lv_aload_n hx hb d_Lv_partsOf_65 rfl (lv_at hl 0 rfl) ?_
    refine va_get (D := (dC, dI)) (ci := 1) (v := .ref (ad 3)) (C := R_Lv) (T := F_Lv) (N := 8) hx hb htb ul_Lv hown hK hP 0 rfl rfl 1 (by decide) (htb _ mw_30) (fun _ h9 => h9) rfl d_Lv_partsOf_66 ?_
    refine lv_iload_n hx hb d_Lv_partsOf_69 rfl (lv_at hl 1 rfl) ?_
    refine ry_iald (D := (dC, dI)) (j := j) hx hb hK hP 2 0 rfl rfl (by omega) (by decide) d_Lv_partsOf_70 ?_
    rw [hf]
    refine lv_iload_n hx hb d_Lv_partsOf_71 rfl (lv_at hl 2 rfl) ?_
    refine ry_callV (n := 2) (As := [.int (nI a), .int (nI g)]) (rest := []) ⟨hx, hb, hml, hown, htb⟩ (c_Lv_partsIn l dC dI cI cL cZ ad K F S D U V PT n hn a g (by omega) (by omega)) (gV mw_342 mw_343 mw_344 mw_2 mc_Lv_partsIn) rfl rfl (by decide +kernel) ⟨Nat.le_of_ble_eq_true rfl, Nat.le_of_ble_eq_true rfl⟩ hP hK (ci := 1) (q0 := 0) rfl rfl rfl rfl hl.1 rfl (Nat.le_of_ble_eq_true rfl) d_Lv_partsOf_72 ⟨Nat.zero_le _, Nat.zero_le _⟩ (fun r_4 hr_4 => ?_)
    subst hr_4
    refine W.eq (g2 := F0 m 75 ls [.long (PT (a * 32 + g))]) rfl ?_
    rw [hX]
    refine ry_callS (n := 1) (As := [.long (en X)]) (rest := []) ⟨hx, hb, hml, hown, htb⟩ (c_Pt_raised l X bX (fun i hi => by have := lX i hi; omega)) (gS mw_346 mw_347 mw_12 mc_Pt_raised) rfl rfl (by decide +kernel) ⟨Nat.le_of_ble_eq_true rfl, Nat.le_of_ble_eq_true rfl⟩ rfl hl.1 rfl (Nat.le_of_ble_eq_true rfl) d_Lv_partsOf_75 ⟨Nat.zero_le _, Nat.zero_le _⟩ (fun r_5 hr_5 => ?_)
    subst hr_5
    refine W.eq (g2 := F0 m 78 ls [.long (en (ra X))]) rfl ?_
    exact W.lret (v := (en (ra X))) hx hb hr (fun t ht hW => ⟨(en (ra X)), rfl, rfl, ht⟩) (fun _ h => by cases h) d_Lv_partsOf_78
  · refine lv_tableIn (off := 73) (tgt := 79) hx hb d_Lv_partsOf_6 (by rw [hk]; decide) (by rw [hk]; decide) (by rw [hk]; decide) (by decide) ?_
    have hf := hf (by decide)
    have hs1 := hs1 (by decide)
    have ha := ha (by decide)
    have hb1 := hb1 (by decide)
    have hX := hX (by decide)
    have hY := hY (by decide)
    refine lv_aload_n hx hb d_Lv_partsOf_79 rfl (lv_at hl 0 rfl) ?_
    refine lv_aload_n hx hb d_Lv_partsOf_80 rfl (lv_at hl 0 rfl) ?_
    refine va_get (D := (dC, dI)) (ci := 1) (v := .ref (ad 3)) (C := R_Lv) (T := F_Lv) (N := 8) hx hb htb ul_Lv hown hK hP 0 rfl rfl 1 (by decide) (htb _ mw_30) (fun _ h9 => h9) rfl d_Lv_partsOf_81 ?_
    refine lv_iload_n hx hb d_Lv_partsOf_84 rfl (lv_at hl 1 rfl) ?_
    refine ry_iald (D := (dC, dI)) (j := j) hx hb hK hP 2 0 rfl rfl (by omega) (by decide) d_Lv_partsOf_85 ?_
    rw [hf]
    refine lv_iload_n hx hb d_Lv_partsOf_86 rfl (lv_at hl 2 rfl) ?_
    refine ry_callV (n := 2) (As := [.int (nI a), .int (nI g)]) (rest := []) ⟨hx, hb, hml, hown, htb⟩ (c_Lv_partsIn l dC dI cI cL cZ ad K F S D U V PT n hn a g (by omega) (by omega)) (gV mw_342 mw_343 mw_344 mw_2 mc_Lv_partsIn) rfl rfl (by decide +kernel) ⟨Nat.le_of_ble_eq_true rfl, Nat.le_of_ble_eq_true rfl⟩ hP hK (ci := 1) (q0 := 0) rfl rfl rfl rfl hl.1 rfl (Nat.le_of_ble_eq_true rfl) d_Lv_partsOf_87 ⟨Nat.zero_le _, Nat.zero_le _⟩ (fun r_6 hr_6 => ?_)
    subst hr_6
    refine W.eq (g2 := F0 m 90 ls [.long (PT (a * 32 + g))]) rfl ?_
    rw [hX]
    refine lv_aload_n hx hb d_Lv_partsOf_90 rfl (lv_at hl 0 rfl) ?_
    refine lv_aload_n hx hb d_Lv_partsOf_91 rfl (lv_at hl 0 rfl) ?_
    refine va_get (D := (dC, dI)) (ci := 1) (v := .ref (ad 4)) (C := R_Lv) (T := F_Lv) (N := 8) hx hb htb ul_Lv hown hK hP 0 rfl rfl 2 (by decide) (htb _ mw_31) (fun _ h9 => h9) rfl d_Lv_partsOf_92 ?_
    refine lv_iload_n hx hb d_Lv_partsOf_95 rfl (lv_at hl 1 rfl) ?_
    refine ry_iald (D := (dC, dI)) (j := j) hx hb hK hP 3 0 rfl rfl (by omega) (by decide) d_Lv_partsOf_96 ?_
    rw [hs1]
    refine lv_iload_n hx hb d_Lv_partsOf_97 rfl (lv_at hl 2 rfl) ?_
    refine ry_callV (n := 2) (As := [.int (nI b), .int (nI g)]) (rest := [.long (en X)]) ⟨hx, hb, hml, hown, htb⟩ (c_Lv_partsIn l dC dI cI cL cZ ad K F S D U V PT n hn b g (by omega) (by omega)) (gV mw_342 mw_343 mw_344 mw_2 mc_Lv_partsIn) rfl rfl (by decide +kernel) ⟨Nat.le_of_ble_eq_true rfl, Nat.le_of_ble_eq_true rfl⟩ hP hK (ci := 1) (q0 := 0) rfl rfl rfl rfl hl.1 rfl (Nat.le_of_ble_eq_true rfl) d_Lv_partsOf_98 ⟨Nat.zero_le _, Nat.zero_le _⟩ (fun r_7 hr_7 => ?_)
    subst hr_7
    refine W.eq (g2 := F0 m 101 ls [.long (PT (b * 32 + g)), .long (en X)]) rfl ?_
    rw [hY]
    refine ry_callS (n := 2) (As := [.long (en X), .long (en Y)]) (rest := []) ⟨hx, hb, hml, hown, htb⟩ (c_Pt_joined l X Y bX bY) (gS mw_354 mw_355 mw_12 mc_Pt_joined) rfl rfl (by decide +kernel) ⟨Nat.le_of_ble_eq_true rfl, Nat.le_of_ble_eq_true rfl⟩ rfl hl.1 rfl (Nat.le_of_ble_eq_true rfl) d_Lv_partsOf_101 ⟨Nat.zero_le _, Nat.zero_le _⟩ (fun r_8 hr_8 => ?_)
    subst hr_8
    refine W.eq (g2 := F0 m 104 ls [.long (en (jn X Y))]) rfl ?_
    exact W.lret (v := (en (jn X Y))) hx hb hr (fun t ht hW => ⟨(en (jn X Y)), rfl, rfl, ht⟩) (fun _ h => by cases h) d_Lv_partsOf_104
  · refine lv_tableIn (off := 99) (tgt := 105) hx hb d_Lv_partsOf_6 (by rw [hk]; decide) (by rw [hk]; decide) (by rw [hk]; decide) (by decide) ?_
    have hf := hf (by decide)
    have hs1 := hs1 (by decide)
    have ha := ha (by decide)
    have hb1 := hb1 (by decide)
    have hX := hX (by decide)
    have hY := hY (by decide)
    refine lv_aload_n hx hb d_Lv_partsOf_105 rfl (lv_at hl 0 rfl) ?_
    refine lv_aload_n hx hb d_Lv_partsOf_106 rfl (lv_at hl 0 rfl) ?_
    refine va_get (D := (dC, dI)) (ci := 1) (v := .ref (ad 4)) (C := R_Lv) (T := F_Lv) (N := 8) hx hb htb ul_Lv hown hK hP 0 rfl rfl 2 (by decide) (htb _ mw_31) (fun _ h9 => h9) rfl d_Lv_partsOf_107 ?_
    refine lv_iload_n hx hb d_Lv_partsOf_110 rfl (lv_at hl 1 rfl) ?_
    refine ry_iald (D := (dC, dI)) (j := j) hx hb hK hP 3 0 rfl rfl (by omega) (by decide) d_Lv_partsOf_111 ?_
    rw [hs1]
    refine lv_iload_n hx hb d_Lv_partsOf_112 rfl (lv_at hl 2 rfl) ?_
    refine ry_callV (n := 2) (As := [.int (nI b), .int (nI g)]) (rest := []) ⟨hx, hb, hml, hown, htb⟩ (c_Lv_partsIn l dC dI cI cL cZ ad K F S D U V PT n hn b g (by omega) (by omega)) (gV mw_342 mw_343 mw_344 mw_2 mc_Lv_partsIn) rfl rfl (by decide +kernel) ⟨Nat.le_of_ble_eq_true rfl, Nat.le_of_ble_eq_true rfl⟩ hP hK (ci := 1) (q0 := 0) rfl rfl rfl rfl hl.1 rfl (Nat.le_of_ble_eq_true rfl) d_Lv_partsOf_113 ⟨Nat.zero_le _, Nat.zero_le _⟩ (fun r_9 hr_9 => ?_)
    subst hr_9
    refine W.eq (g2 := F0 m 116 ls [.long (PT (b * 32 + g))]) rfl ?_
    rw [hY]
    refine lv_lstore_n (lv' := [(3, .long (en Y)), (0, .ref (ad 1)), (1, .int (nI j)), (2, .int (nI g))]) hx hb d_Lv_partsOf_116 rfl hl (by decide) rfl (fun ls hl => ?_)
    refine lv_lload_n hx hb d_Lv_partsOf_117 rfl (lv_at hl 0 rfl) ?_
    refine ry_callS (n := 1) (As := [.long (en Y)]) (rest := []) ⟨hx, hb, hml, hown, htb⟩ (c_Pt_vanish l Y bY) (gS mw_358 mw_359 mw_12 mc_Pt_vanish) rfl rfl (by decide +kernel) ⟨Nat.le_of_ble_eq_true rfl, Nat.le_of_ble_eq_true rfl⟩ rfl hl.1 rfl (Nat.le_of_ble_eq_true rfl) d_Lv_partsOf_118 ⟨Nat.zero_le _, Nat.zero_le _⟩ (fun r_10 hr_10 => ?_)
    subst hr_10
    refine W.eq (g2 := F0 m 121 ls [.int (if Y 5 = 1 then 1 else 0)]) rfl ?_
    refine lv_if_eq (tgt := 128) hx hb d_Lv_partsOf_121 (by decide) (fun c_121 => ?_) (fun c_121 => ?_)
    · refine lv_aload_n hx hb d_Lv_partsOf_128 rfl (lv_at hl 1 rfl) ?_
      refine lv_aload_n hx hb d_Lv_partsOf_129 rfl (lv_at hl 1 rfl) ?_
      refine va_get (D := (dC, dI)) (ci := 1) (v := .ref (ad 3)) (C := R_Lv) (T := F_Lv) (N := 8) hx hb htb ul_Lv hown hK hP 0 rfl rfl 1 (by decide) (htb _ mw_30) (fun _ h9 => h9) rfl d_Lv_partsOf_130 ?_
      refine lv_iload_n hx hb d_Lv_partsOf_133 rfl (lv_at hl 2 rfl) ?_
      refine ry_iald (D := (dC, dI)) (j := j) hx hb hK hP 2 0 rfl rfl (by omega) (by decide) d_Lv_partsOf_134 ?_
      rw [hf]
      refine lv_iload_n hx hb d_Lv_partsOf_135 rfl (lv_at hl 3 rfl) ?_
      refine ry_callV (n := 2) (As := [.int (nI a), .int (nI g)]) (rest := []) ⟨hx, hb, hml, hown, htb⟩ (c_Lv_partsIn l dC dI cI cL cZ ad K F S D U V PT n hn a g (by omega) (by omega)) (gV mw_342 mw_343 mw_344 mw_2 mc_Lv_partsIn) rfl rfl (by decide +kernel) ⟨Nat.le_of_ble_eq_true rfl, Nat.le_of_ble_eq_true rfl⟩ hP hK (ci := 1) (q0 := 0) rfl rfl rfl rfl hl.1 rfl (Nat.le_of_ble_eq_true rfl) d_Lv_partsOf_136 ⟨Nat.zero_le _, Nat.zero_le _⟩ (fun r_11 hr_11 => ?_)
      subst hr_11
      refine W.eq (g2 := F0 m 139 ls [.long (PT (a * 32 + g))]) rfl ?_
      rw [hX]
      refine lv_lload_n hx hb d_Lv_partsOf_139 rfl (lv_at hl 0 rfl) ?_
      refine ry_callS (n := 2) (As := [.long (en X), .long (en Y)]) (rest := []) ⟨hx, hb, hml, hown, htb⟩ (c_Pt_joined l X Y bX bY) (gS mw_354 mw_355 mw_12 mc_Pt_joined) rfl rfl (by decide +kernel) ⟨Nat.le_of_ble_eq_true rfl, Nat.le_of_ble_eq_true rfl⟩ rfl hl.1 rfl (Nat.le_of_ble_eq_true rfl) d_Lv_partsOf_140 ⟨Nat.zero_le _, Nat.zero_le _⟩ (fun r_12 hr_12 => ?_)
      subst hr_12
      refine W.eq (g2 := F0 m 143 ls [.long (en (jn X Y))]) rfl ?_
      exact W.lret (v := (en (jn X Y))) hx hb hr (fun t ht hW => ⟨(en (jn X Y)), rfl, (by have h9 : ¬ Y 5 = 1 := (fun z => by rw [if_pos z] at c_121; exact absurd c_121 (by decide)); show _ = en (if Y 5 = 1 then Y else jn X Y); rw [if_neg h9]), ht⟩) (fun _ h => by cases h) d_Lv_partsOf_143
    · refine lv_lload_n hx hb d_Lv_partsOf_124 rfl (lv_at hl 0 rfl) ?_
      refine lv_goto (tgt := 143) hx hb d_Lv_partsOf_125 (by decide) ?_
      exact W.lret (v := (en Y)) hx hb hr (fun t ht hW => ⟨(en Y), rfl, (by have h9 : Y 5 = 1 := Decidable.byContradiction (fun z => by rw [if_neg z] at c_121; exact absurd rfl c_121); show _ = en (if Y 5 = 1 then Y else jn X Y); rw [if_pos h9]), ht⟩) (fun _ h => by cases h) d_Lv_partsOf_143

set_option maxHeartbeats 4000000 in
set_option maxRecDepth 100000 in
theorem c_Lv_valueOf (l : Launch) (dC : Nat → ClassId) (dI : Nat → Nat → Nat) (cI cL cZ : ClassId) (ad : Nat → Nat) (K F S D U V : Nat → Int32) (PT : Nat → Int64) (n : Nat) (hn : n ≤ 120) (j : Nat) (hj : j < 120) (k a b : Nat) (hk4 : k ≤ 4) (hk : K j = nI k) (hf : 1 ≤ k → F j = nI a) (hs1 : 3 ≤ k → S j = nI b) (hp : k = 1 → a < 5) (ha : 2 ≤ k → a < 120) (hb1 : 3 ≤ k → b < 120) (v : Int64) (x y : Nat) (hx2 : 2 ≤ k → V a = nI x) (hy2 : 3 ≤ k → V b = nI y) (hx3 : x < 900000) (hy3 : y < 900000) : Met l y_Lv_valueOf (cw_Lv_valueOf :: tb) (rmH 2 0 0) (va_Pc [.ref (ad 1), .int (nI j), .long v] (ry_P (dC, dI) classes (wLv cI cL ad K F S D U V PT n) (tyI cI cL cZ))) (ry_S ry_i (fun r => r = nI (vA k (pvN v a) x y))) 0 0 (fun _ => False) := by
  refine Met.ofW (cc := b_Lv_valueOf) (maxL := 5) (ret := (some .int)) (by decide +kernel) rfl ?_
  intro p e s m args below meth c s₁ B hml0 hv
  have C0 := cx_of B hml0 rfl
  obtain ⟨hx, hb, hr, hml, hown, htb, hlocks⟩ := id C0
  obtain ⟨rfl, hP, hK⟩ := hv
  have hl := lv_entry ([.ref (ad 1), .int (nI j), .long v]) (n := 5) (Nat.le_of_ble_eq_true rfl)
  rw [lg_entry_eq]
  generalize (lg_sl ([.ref (ad 1), .int (nI j), .long v]) ++ List.replicate (5 - (lg_sl ([.ref (ad 1), .int (nI j), .long v])).length) Slot.unset).toArray = ls at hl ⊢
  have hl : lv_has ls 5 [(0, .ref (ad 1)), (1, .int (nI j)), (2, .long v)] := hl
  have hP : va_P (dC, dI) classes [((ad 1), .inr (1, [.ref (ad 2), .ref (ad 3), .ref (ad 4), .ref (ad 5), .ref (ad 6), .ref (ad 7), .ref (ad 8), .int (nI n)])), ((ad 2), .inl (cI, 120, .inl K)), ((ad 3), .inl (cI, 120, .inl F)), ((ad 4), .inl (cI, 120, .inl S)), ((ad 5), .inl (cI, 120, .inl D)), ((ad 6), .inl (cI, 120, .inl U)), ((ad 7), .inl (cI, 120, .inl V)), ((ad 8), .inl (cL, 3840, .inr (.inl PT)))] s.heap := hP
  refine lv_aload_n hx hb d_Lv_valueOf_0 rfl (lv_at hl 0 rfl) ?_
  refine va_get (D := (dC, dI)) (ci := 1) (v := .ref (ad 2)) (C := R_Lv) (T := F_Lv) (N := 8) hx hb htb ul_Lv hown hK hP 0 rfl rfl 0 (by decide) (htb _ mw_29) (fun _ h9 => h9) rfl d_Lv_valueOf_1 ?_
  refine lv_iload_n hx hb d_Lv_valueOf_4 rfl (lv_at hl 1 rfl) ?_
  refine ry_iald (D := (dC, dI)) (j := j) hx hb hK hP 1 0 rfl rfl (by omega) (by decide) d_Lv_valueOf_5 ?_
  rcases (show k = 0 ∨ k = 1 ∨ k = 2 ∨ k = 3 ∨ k = 4 by omega) with rfl | rfl | rfl | rfl | rfl
  · refine lv_tableOut (tgt := 132) hx hb d_Lv_valueOf_6 (by rw [hk]; decide) (by decide) ?_
    refine lv_iconst (v := 0) hx hb d_Lv_valueOf_132 (by decide) ?_
    exact W.iret (v := 0) hx hb hr (fun t ht hW => ⟨0, rfl, rfl, ht⟩) (fun _ h => by cases h) d_Lv_valueOf_133
  · refine lv_tableIn (off := 30) (tgt := 36) hx hb d_Lv_valueOf_6 (by rw [hk]; decide) (by rw [hk]; decide) (by rw [hk]; decide) (by decide) ?_
    have hf := hf (by decide)
    have hp := hp rfl
    refine lv_lload_n hx hb d_Lv_valueOf_36 rfl (lv_at hl 2 rfl) ?_
    refine lv_aload_n hx hb d_Lv_valueOf_37 rfl (lv_at hl 0 rfl) ?_
    refine va_get (D := (dC, dI)) (ci := 1) (v := .ref (ad 3)) (C := R_Lv) (T := F_Lv) (N := 8) hx hb htb ul_Lv hown hK hP 0 rfl rfl 1 (by decide) (htb _ mw_30) (fun _ h9 => h9) rfl d_Lv_valueOf_38 ?_
    refine lv_iload_n hx hb d_Lv_valueOf_41 rfl (lv_at hl 1 rfl) ?_
    refine ry_iald (D := (dC, dI)) (j := j) hx hb hK hP 2 0 rfl rfl (by omega) (by decide) d_Lv_valueOf_42 ?_
    rw [hf]
    refine lv_bipush (v := 12) hx hb d_Lv_valueOf_43 (by decide) ?_
    refine lv_imul hx hb d_Lv_valueOf_45 ?_
    refine lv_lushr hx hb d_Lv_valueOf_46 rfl ?_
    refine lv_l2i hx hb d_Lv_valueOf_47 rfl ?_
    refine lv_sipush (v := 4095) hx hb d_Lv_valueOf_48 (by decide) ?_
    refine lv_iand hx hb d_Lv_valueOf_51 ?_
    exact W.iret (v := ((((v : Int64).toUInt64 >>> ((((nI a) * 12) : Int32).toInt64.toUInt64 &&& Int64.toUInt64 63)).toInt64 : Int64).toInt32 &&& 4095)) hx hb hr (fun t ht hW => ⟨((((v : Int64).toUInt64 >>> ((((nI a) * 12) : Int32).toInt64.toUInt64 &&& Int64.toUInt64 63)).toInt64 : Int64).toInt32 &&& 4095), rfl, (pv_eq v hp), ht⟩) (fun _ h => by cases h) d_Lv_valueOf_52
  · refine lv_tableIn (off := 47) (tgt := 53) hx hb d_Lv_valueOf_6 (by rw [hk]; decide) (by rw [hk]; decide) (by rw [hk]; decide) (by decide) ?_
    have hf := hf (by decide)
    have ha := ha (by decide)
    have hx2 := hx2 (by decide)
    refine lv_aload_n hx hb d_Lv_valueOf_53 rfl (lv_at hl 0 rfl) ?_
    refine va_get (D := (dC, dI)) (ci := 1) (v := .ref (ad 7)) (C := R_Lv) (T := F_Lv) (N := 8) hx hb htb ul_Lv hown hK hP 0 rfl rfl 5 (by decide) (htb _ mw_34) (fun _ h9 => h9) rfl d_Lv_valueOf_54 ?_
    refine lv_aload_n hx hb d_Lv_valueOf_57 rfl (lv_at hl 0 rfl) ?_
    refine va_get (D := (dC, dI)) (ci := 1) (v := .ref (ad 3)) (C := R_Lv) (T := F_Lv) (N := 8) hx hb htb ul_Lv hown hK hP 0 rfl rfl 1 (by decide) (htb _ mw_30) (fun _ h9 => h9) rfl d_Lv_valueOf_58 ?_
    refine lv_iload_n hx hb d_Lv_valueOf_61 rfl (lv_at hl 1 rfl) ?_
    refine ry_iald (D := (dC, dI)) (j := j) hx hb hK hP 2 0 rfl rfl (by omega) (by decide) d_Lv_valueOf_62 ?_
    rw [hf]
    refine ry_iald (D := (dC, dI)) (j := a) hx hb hK hP 6 0 rfl rfl (by omega) (by decide) d_Lv_valueOf_63 ?_
    rw [hx2]
    refine lv_iconst (v := 1) hx hb d_Lv_valueOf_64 (by decide) ?_
    refine lv_iadd hx hb d_Lv_valueOf_65 ?_
    exact W.iret (v := ((nI x) + 1)) hx hb hr (fun t ht hW => ⟨((nI x) + 1), rfl, (nI_1 x), ht⟩) (fun _ h => by cases h) d_Lv_valueOf_66
  · refine lv_tableIn (off := 61) (tgt := 67) hx hb d_Lv_valueOf_6 (by rw [hk]; decide) (by rw [hk]; decide) (by rw [hk]; decide) (by decide) ?_
    have hf := hf (by decide)
    have hs1 := hs1 (by decide)
    have ha := ha (by decide)
    have hb1 := hb1 (by decide)
    have hx2 := hx2 (by decide)
    have hy2 := hy2 (by decide)
    refine lv_aload_n hx hb d_Lv_valueOf_67 rfl (lv_at hl 0 rfl) ?_
    refine va_get (D := (dC, dI)) (ci := 1) (v := .ref (ad 7)) (C := R_Lv) (T := F_Lv) (N := 8) hx hb htb ul_Lv hown hK hP 0 rfl rfl 5 (by decide) (htb _ mw_34) (fun _ h9 => h9) rfl d_Lv_valueOf_68 ?_
    refine lv_aload_n hx hb d_Lv_valueOf_71 rfl (lv_at hl 0 rfl) ?_
    refine va_get (D := (dC, dI)) (ci := 1) (v := .ref (ad 3)) (C := R_Lv) (T := F_Lv) (N := 8) hx hb htb ul_Lv hown hK hP 0 rfl rfl 1 (by decide) (htb _ mw_30) (fun _ h9 => h9) rfl d_Lv_valueOf_72 ?_
    refine lv_iload_n hx hb d_Lv_valueOf_75 rfl (lv_at hl 1 rfl) ?_
    refine ry_iald (D := (dC, dI)) (j := j) hx hb hK hP 2 0 rfl rfl (by omega) (by decide) d_Lv_valueOf_76 ?_
    rw [hf]
    refine ry_iald (D := (dC, dI)) (j := a) hx hb hK hP 6 0 rfl rfl (by omega) (by decide) d_Lv_valueOf_77 ?_
    rw [hx2]
    refine lv_aload_n hx hb d_Lv_valueOf_78 rfl (lv_at hl 0 rfl) ?_
    refine va_get (D := (dC, dI)) (ci := 1) (v := .ref (ad 7)) (C := R_Lv) (T := F_Lv) (N := 8) hx hb htb ul_Lv hown hK hP 0 rfl rfl 5 (by decide) (htb _ mw_34) (fun _ h9 => h9) rfl d_Lv_valueOf_79 ?_
    refine lv_aload_n hx hb d_Lv_valueOf_82 rfl (lv_at hl 0 rfl) ?_
    refine va_get (D := (dC, dI)) (ci := 1) (v := .ref (ad 4)) (C := R_Lv) (T := F_Lv) (N := 8) hx hb htb ul_Lv hown hK hP 0 rfl rfl 2 (by decide) (htb _ mw_31) (fun _ h9 => h9) rfl d_Lv_valueOf_83 ?_
    refine lv_iload_n hx hb d_Lv_valueOf_86 rfl (lv_at hl 1 rfl) ?_
    refine ry_iald (D := (dC, dI)) (j := j) hx hb hK hP 3 0 rfl rfl (by omega) (by decide) d_Lv_valueOf_87 ?_
    rw [hs1]
    refine ry_iald (D := (dC, dI)) (j := b) hx hb hK hP 6 0 rfl rfl (by omega) (by decide) d_Lv_valueOf_88 ?_
    rw [hy2]
    refine va_mmax hx hb (by rw [hml]; exact hl.1.symm) hown (htb _ mw_144) (htb _ mw_145) (htb _ mw_11) (htb _ mc_max) (Nat.le_of_ble_eq_true rfl) (Nat.le_of_ble_eq_true rfl) (Nat.zero_le _) (Nat.zero_le _) d_Lv_valueOf_89 ?_
    rw [nI_max (by omega) (by omega)]
    exact W.iret (v := (nI (max x y))) hx hb hr (fun t ht hW => ⟨(nI (max x y)), rfl, rfl, ht⟩) (fun _ h => by cases h) d_Lv_valueOf_92
  · refine lv_tableIn (off := 87) (tgt := 93) hx hb d_Lv_valueOf_6 (by rw [hk]; decide) (by rw [hk]; decide) (by rw [hk]; decide) (by decide) ?_
    have hf := hf (by decide)
    have hs1 := hs1 (by decide)
    have ha := ha (by decide)
    have hb1 := hb1 (by decide)
    have hx2 := hx2 (by decide)
    have hy2 := hy2 (by decide)
    refine lv_aload_n hx hb d_Lv_valueOf_93 rfl (lv_at hl 0 rfl) ?_
    refine va_get (D := (dC, dI)) (ci := 1) (v := .ref (ad 7)) (C := R_Lv) (T := F_Lv) (N := 8) hx hb htb ul_Lv hown hK hP 0 rfl rfl 5 (by decide) (htb _ mw_34) (fun _ h9 => h9) rfl d_Lv_valueOf_94 ?_
    refine lv_aload_n hx hb d_Lv_valueOf_97 rfl (lv_at hl 0 rfl) ?_
    refine va_get (D := (dC, dI)) (ci := 1) (v := .ref (ad 4)) (C := R_Lv) (T := F_Lv) (N := 8) hx hb htb ul_Lv hown hK hP 0 rfl rfl 2 (by decide) (htb _ mw_31) (fun _ h9 => h9) rfl d_Lv_valueOf_98 ?_
    refine lv_iload_n hx hb d_Lv_valueOf_101 rfl (lv_at hl 1 rfl) ?_
    refine ry_iald (D := (dC, dI)) (j := j) hx hb hK hP 3 0 rfl rfl (by omega) (by decide) d_Lv_valueOf_102 ?_
    rw [hs1]
    refine ry_iald (D := (dC, dI)) (j := b) hx hb hK hP 6 0 rfl rfl (by omega) (by decide) d_Lv_valueOf_103 ?_
    rw [hy2]
    refine lv_istore (lv' := [(4, .int (nI y)), (0, .ref (ad 1)), (1, .int (nI j)), (2, .long v)]) hx hb d_Lv_valueOf_104 hl (by decide) rfl (fun ls hl => ?_)
    refine lv_iload hx hb d_Lv_valueOf_106 (lv_at hl 0 rfl) ?_
    refine lv_if_ne (tgt := 115) hx hb d_Lv_valueOf_108 (by decide) (fun c_108 => ?_) (fun c_108 => ?_)
    · refine lv_aload_n hx hb d_Lv_valueOf_115 rfl (lv_at hl 1 rfl) ?_
      refine va_get (D := (dC, dI)) (ci := 1) (v := .ref (ad 7)) (C := R_Lv) (T := F_Lv) (N := 8) hx hb htb ul_Lv hown hK hP 0 rfl rfl 5 (by decide) (htb _ mw_34) (fun _ h9 => h9) rfl d_Lv_valueOf_116 ?_
      refine lv_aload_n hx hb d_Lv_valueOf_119 rfl (lv_at hl 1 rfl) ?_
      refine va_get (D := (dC, dI)) (ci := 1) (v := .ref (ad 3)) (C := R_Lv) (T := F_Lv) (N := 8) hx hb htb ul_Lv hown hK hP 0 rfl rfl 1 (by decide) (htb _ mw_30) (fun _ h9 => h9) rfl d_Lv_valueOf_120 ?_
      refine lv_iload_n hx hb d_Lv_valueOf_123 rfl (lv_at hl 2 rfl) ?_
      refine ry_iald (D := (dC, dI)) (j := j) hx hb hK hP 2 0 rfl rfl (by omega) (by decide) d_Lv_valueOf_124 ?_
      rw [hf]
      refine ry_iald (D := (dC, dI)) (j := a) hx hb hK hP 6 0 rfl rfl (by omega) (by decide) d_Lv_valueOf_125 ?_
      rw [hx2]
      refine lv_iload hx hb d_Lv_valueOf_126 (lv_at hl 0 rfl) ?_
      refine va_mmax hx hb (by rw [hml]; exact hl.1.symm) hown (htb _ mw_144) (htb _ mw_145) (htb _ mw_11) (htb _ mc_max) (Nat.le_of_ble_eq_true rfl) (Nat.le_of_ble_eq_true rfl) (Nat.zero_le _) (Nat.zero_le _) d_Lv_valueOf_128 ?_
      rw [nI_max (by omega) (by omega)]
      exact W.iret (v := (nI (max x y))) hx hb hr (fun t ht hW => ⟨(nI (max x y)), rfl, (by rw [vA, if_neg (by decide), if_neg (by decide), if_neg (by decide), if_pos rfl, if_neg (fun z => c_108 (by rw [z]; rfl))]), ht⟩) (fun _ h => by cases h) d_Lv_valueOf_131
    · refine lv_iconst (v := 0) hx hb d_Lv_valueOf_111 (by decide) ?_
      refine lv_goto (tgt := 131) hx hb d_Lv_valueOf_112 (by decide) ?_
      exact W.iret (v := 0) hx hb hr (fun t ht hW => ⟨0, rfl, (by rw [vA, if_neg (by decide), if_neg (by decide), if_neg (by decide), if_pos rfl, if_pos ((nI_eq (b := 0) (by omega) (by decide)).mp c_108)]; rfl), ht⟩) (fun _ h => by cases h) d_Lv_valueOf_131
