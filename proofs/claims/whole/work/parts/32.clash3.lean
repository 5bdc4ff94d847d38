set_option maxHeartbeats 4000000 in
set_option maxRecDepth 100000 in
theorem c0_Nd_leastNumber (l : Launch) (dC : Nat → ClassId) (dI : Nat → Nat → Nat) (cI cL cZ : ClassId) (ad : Nat → Nat) (LO ST HI KP NB : Nat → Int32) (unk cnt : Nat) (sv sk ck : Int32) (hunk : unk ≤ 10) (hcnt : cnt ≤ 30) (x : Int32) (hxx : hs x unk = 0) : Met l y_Nd_leastNumber (cw_Nd_leastNumber :: tb) (rmH 5 0 0) (va_Pc [.ref (ad 12), .int x] (ry_P (dC, dI) classes (wNd cI cZ ad LO ST HI KP NB unk cnt sv sk ck) (tyI cI cL cZ))) (ry_S ry_i (fun r => r = -1)) 0 0 (fun _ => False) := by
  refine Met.ofW (cc := b_Nd_leastNumber) (maxL := 2) (ret := (some .int)) (by decide +kernel) rfl ?_
  intro p e s m args below meth c s₁ B hml0 hv
  have C0 := cx_of B hml0 rfl
  obtain ⟨hx, hb, hr, hml, hown, htb, hlocks⟩ := id C0
  obtain ⟨rfl, hP, hK⟩ := hv
  have hl := lv_entry ([.ref (ad 12), .int x]) (n := 2) (Nat.le_of_ble_eq_true rfl)
  rw [lg_entry_eq]
  generalize (lg_sl ([.ref (ad 12), .int x]) ++ List.replicate (2 - (lg_sl ([.ref (ad 12), .int x])).length) Slot.unset).toArray = ls at hl ⊢
  have hl : lv_has ls 2 [(0, .ref (ad 12)), (1, .int x)] := hl
  have hP : va_P (dC, dI) classes [((ad 12), .inr (3, [.ref (ad 13), .ref (ad 14), .ref (ad 15), .ref (ad 16), .ref (ad 17), .int (nI unk), .int (nI cnt), .int sv, .int sk, .int ck])), ((ad 13), .inl (cI, 30, .inl LO)), ((ad 14), .inl (cI, 30, .inl ST)), ((ad 15), .inl (cI, 30, .inl HI)), ((ad 16), .inl (cZ, 30, .inl KP)), ((ad 17), .inl (cI, 11, .inl NB))] s.heap := hP
  refine lv_aload_n hx hb d_Nd_leastNumber_0 rfl (lv_at hl 0 rfl) ?_
  refine lv_iload_n hx hb d_Nd_leastNumber_1 rfl (lv_at hl 1 rfl) ?_
  refine ry_callV (n := 1) (As := [.int x]) (rest := []) ⟨hx, hb, hml, hown, htb⟩ (c_Nd_isUnknown l dC dI cI cL cZ ad LO ST HI KP NB unk cnt sv sk ck hunk hcnt x) (gV mw_178 mw_180 mp_4 mw_4 mc_Nd_isUnknown) rfl rfl (by decide +kernel) ⟨Nat.le_of_ble_eq_true rfl, Nat.le_of_ble_eq_true rfl⟩ (hP.sub [0, 1, 2, 3, 4, 5] rfl) hK (ci := 3) (q0 := 0) rfl rfl rfl rfl hl.1 rfl (Nat.le_of_ble_eq_true rfl) d_Nd_leastNumber_2 ⟨Nat.zero_le _, Nat.zero_le _⟩ (fun r_1 hr_1 => ?_)
  subst hr_1
  refine W.eq (g2 := F0 m 5 ls [.int (hs x unk)]) rfl ?_
  refine lv_if_eq (tgt := 24) hx hb d_Nd_leastNumber_5 (by decide) (fun c_5 => ?_) (fun c_5 => ?_)
  · refine lv_iconst (v := (-1)) hx hb d_Nd_leastNumber_24 (by decide) ?_
    exact W.iret (v := (-1)) hx hb hr (fun t ht hW => ⟨(-1), rfl, rfl, ht⟩) (fun _ h => by cases h) d_Nd_leastNumber_25
  · exact absurd hxx c_5

set_option maxHeartbeats 4000000 in
set_option maxRecDepth 100000 in
theorem c1_Nd_leastNumber (l : Launch) (dC : Nat → ClassId) (dI : Nat → Nat → Nat) (cI cL cZ : ClassId) (ad : Nat → Nat) (LO ST HI KP NB : Nat → Int32) (unk cnt : Nat) (sv sk ck : Int32) (hunk : unk ≤ 10) (hcnt : cnt ≤ 30) (j : Nat) (hj : j < unk) (hxx : hs (nI j) unk = 1) (h0 : ¬ sk = 0) (hsv : sv = 0 ∨ sv = 1) : Met l y_Nd_leastNumber (cw_Nd_leastNumber :: tb) (rmH 5 0 0) (va_Pc [.ref (ad 12), .int (nI j)] (ry_P (dC, dI) classes (wNd cI cZ ad LO ST HI KP NB unk cnt sv sk ck) (tyI cI cL cZ))) (ry_S ry_i (fun r => r = if sv = 0 then -1 else NB j)) 0 0 (fun _ => False) := by
  refine Met.ofW (cc := b_Nd_leastNumber) (maxL := 2) (ret := (some .int)) (by decide +kernel) rfl ?_
  intro p e s m args below meth c s₁ B hml0 hv
  have C0 := cx_of B hml0 rfl
  obtain ⟨hx, hb, hr, hml, hown, htb, hlocks⟩ := id C0
  obtain ⟨rfl, hP, hK⟩ := hv
  have hl := lv_entry ([.ref (ad 12), .int (nI j)]) (n := 2) (Nat.le_of_ble_eq_true rfl)
  rw [lg_entry_eq]
  generalize (lg_sl ([.ref (ad 12), .int (nI j)]) ++ List.replicate (2 - (lg_sl ([.ref (ad 12), .int (nI j)])).length) Slot.unset).toArray = ls at hl ⊢
  have hl : lv_has ls 2 [(0, .ref (ad 12)), (1, .int (nI j))] := hl
  have hP : va_P (dC, dI) classes [((ad 12), .inr (3, [.ref (ad 13), .ref (ad 14), .ref (ad 15), .ref (ad 16), .ref (ad 17), .int (nI unk), .int (nI cnt), .int sv, .int sk, .int ck])), ((ad 13), .inl (cI, 30, .inl LO)), ((ad 14), .inl (cI, 30, .inl ST)), ((ad 15), .inl (cI, 30, .inl HI)), ((ad 16), .inl (cZ, 30, .inl KP)), ((ad 17), .inl (cI, 11, .inl NB))] s.heap := hP
  refine lv_aload_n hx hb d_Nd_leastNumber_0 rfl (lv_at hl 0 rfl) ?_
  refine lv_iload_n hx hb d_Nd_leastNumber_1 rfl (lv_at hl 1 rfl) ?_
  refine ry_callV (n := 1) (As := [.int (nI j)]) (rest := []) ⟨hx, hb, hml, hown, htb⟩ (c_Nd_isUnknown l dC dI cI cL cZ ad LO ST HI KP NB unk cnt sv sk ck hunk hcnt (nI j)) (gV mw_178 mw_180 mp_4 mw_4 mc_Nd_isUnknown) rfl rfl (by decide +kernel) ⟨Nat.le_of_ble_eq_true rfl, Nat.le_of_ble_eq_true rfl⟩ (hP.sub [0, 1, 2, 3, 4, 5] rfl) hK (ci := 3) (q0 := 0) rfl rfl rfl rfl hl.1 rfl (Nat.le_of_ble_eq_true rfl) d_Nd_leastNumber_2 ⟨Nat.zero_le _, Nat.zero_le _⟩ (fun r_1 hr_1 => ?_)
  subst hr_1
  refine W.eq (g2 := F0 m 5 ls [.int (hs (nI j) unk)]) rfl ?_
  refine lv_if_eq (tgt := 24) hx hb d_Nd_leastNumber_5 (by decide) (fun c_5 => ?_) (fun c_5 => ?_)
  · exact absurd (hxx.symm.trans c_5) (by decide)
  · refine lv_aload_n hx hb d_Nd_leastNumber_8 rfl (lv_at hl 0 rfl) ?_
    refine ry_callV (n := 0) (As := []) (rest := []) ⟨hx, hb, hml, hown, htb⟩ (c1_Nd_areSolved l dC dI cI cL cZ ad LO ST HI KP NB unk cnt sv sk ck hunk hcnt h0 hsv) (gV mw_182 mw_152 mw_153 mw_4 mc_Nd_areSolved) rfl rfl (by decide +kernel) ⟨Nat.le_of_ble_eq_true rfl, Nat.le_of_ble_eq_true rfl⟩ (hP.sub [0, 1, 2, 3, 4, 5] rfl) hK (ci := 3) (q0 := 0) rfl rfl rfl rfl hl.1 rfl (Nat.le_of_ble_eq_true rfl) d_Nd_leastNumber_9 ⟨Nat.zero_le _, Nat.zero_le _⟩ (fun r_2 hr_2 => ?_)
    rw [hr_2]
    refine W.eq (g2 := F0 m 12 ls [.int sv]) rfl ?_
    refine lv_if_eq (tgt := 24) hx hb d_Nd_leastNumber_12 (by decide) (fun c_12 => ?_) (fun c_12 => ?_)
    · refine lv_iconst (v := (-1)) hx hb d_Nd_leastNumber_24 (by decide) ?_
      exact W.iret (v := (-1)) hx hb hr (fun t ht hW => ⟨(-1), rfl, (by rw [if_pos c_12]), ht⟩) (fun _ h => by cases h) d_Nd_leastNumber_25
    · refine lv_aload_n hx hb d_Nd_leastNumber_15 rfl (lv_at hl 0 rfl) ?_
      refine va_get (D := (dC, dI)) (ci := 3) (v := .ref (ad 17)) (C := R_Nd) (T := F_Nd) (N := 10) hx hb htb ul_Nd hown hK hP 0 rfl rfl 4 (by decide) (htb _ mw_82) (fun _ h9 => h9) rfl d_Nd_leastNumber_16 ?_
      refine lv_iload_n hx hb d_Nd_leastNumber_19 rfl (lv_at hl 1 rfl) ?_
      refine ry_iald (D := (dC, dI)) (j := j) hx hb hK hP 5 0 rfl rfl (by omega) (by decide) d_Nd_leastNumber_20 ?_
      refine lv_goto (tgt := 25) hx hb d_Nd_leastNumber_21 (by decide) ?_
      exact W.iret (v := (NB j)) hx hb hr (fun t ht hW => ⟨(NB j), rfl, (by rw [if_neg c_12]), ht⟩) (fun _ h => by cases h) d_Nd_leastNumber_25

set_option maxHeartbeats 4000000 in
set_option maxRecDepth 100000 in
theorem c_Nd_leastNumber (l : Launch) (dC : Nat → ClassId) (dI : Nat → Nat → Nat) (cI cL cZ : ClassId) (ad : Nat → Nat) (LO ST HI KP NB : Nat → Int32) (unk cnt : Nat) (sv sk ck : Int32) (hunk : unk ≤ 10) (hcnt : cnt ≤ 30) (lo hi : Nat → Nat) (hlo : ∀ j, j < cnt → LO j = nI (lo j) ∧ lo j < 11) (hhi : ∀ j, j < cnt → HI j = nI (hi j) ∧ hi j < 11) (j : Nat) (hj : j < unk) (hxx : hs (nI j) unk = 1) (h0 : sk = 0) (sz : Nat) : Met l y_Nd_leastNumber (cw_Nd_leastNumber :: tb) (rmH 5 0 0) (va_Pc [.ref (ad 12), .int (nI j)] (wy_P (dC, dI) classes (wNd cI cZ ad LO ST HI KP NB unk cnt sv sk ck) (tyI cI cL cZ) sz)) (wy_Q ry_i (fun r (u : Unit) => r = if (cks lo hi ST (fl cnt 1 KP) cnt NB).1 = 0 then -1 else (cks lo hi ST (fl cnt 1 KP) cnt NB).2 j) (wy_B (dC, dI) classes (tyI cI cL cZ) (va_A (wNd cI cZ ad LO ST HI KP NB unk cnt sv sk ck) sz) (fun u : Unit => (wNd cI cZ ad LO ST HI (fl cnt 1 KP) (cks lo hi ST (fl cnt 1 KP) cnt NB).2 unk cnt (cks lo hi ST (fl cnt 1 KP) cnt NB).1 1 ck))) (va_A (wNd cI cZ ad LO ST HI KP NB unk cnt sv sk ck) sz)) 0 0 (va_A (wNd cI cZ ad LO ST HI KP NB unk cnt sv sk ck) sz) := by
  refine Met.ofW (cc := b_Nd_leastNumber) (maxL := 2) (ret := (some .int)) (by decide +kernel) rfl ?_
  intro p e s m args below meth c s₁ B hml0 hv
  have C0 := cx_of B hml0 rfl
  obtain ⟨hx, hb, hr, hml, hown, htb, hlocks⟩ := id C0
  obtain ⟨rfl, hsz, hP, hK, hD0⟩ := hv
  subst hsz
  have hD := hD0.self (sz := s.heap.size)
  generalize hAe : va_A (wNd cI cZ ad LO ST HI KP NB unk cnt sv sk ck) s.heap.size = A at hD ⊢
  have hA : ∀ q : Nat, s.heap.size ≤ q → A q := fun q h => by rw [← hAe]; exact Or.inr h
  have hS : va_S A s.heap s.heap [] := va_S.rf
  have hl := lv_entry ([.ref (ad 12), .int (nI j)]) (n := 2) (Nat.le_of_ble_eq_true rfl)
  rw [lg_entry_eq]
  generalize (lg_sl ([.ref (ad 12), .int (nI j)]) ++ List.replicate (2 - (lg_sl ([.ref (ad 12), .int (nI j)])).length) Slot.unset).toArray = ls at hl ⊢
  have hl : lv_has ls 2 [(0, .ref (ad 12)), (1, .int (nI j))] := hl
  have hP : va_P (dC, dI) classes [((ad 12), .inr (3, [.ref (ad 13), .ref (ad 14), .ref (ad 15), .ref (ad 16), .ref (ad 17), .int (nI unk), .int (nI cnt), .int sv, .int sk, .int ck])), ((ad 13), .inl (cI, 30, .inl LO)), ((ad 14), .inl (cI, 30, .inl ST)), ((ad 15), .inl (cI, 30, .inl HI)), ((ad 16), .inl (cZ, 30, .inl KP)), ((ad 17), .inl (cI, 11, .inl NB))] s.heap := hP
  have hD : va_D A [((ad 12), .inr (3, [.ref (ad 13), .ref (ad 14), .ref (ad 15), .ref (ad 16), .ref (ad 17), .int (nI unk), .int (nI cnt), .int sv, .int sk, .int ck])), ((ad 13), .inl (cI, 30, .inl LO)), ((ad 14), .inl (cI, 30, .inl ST)), ((ad 15), .inl (cI, 30, .inl HI)), ((ad 16), .inl (cZ, 30, .inl KP)), ((ad 17), .inl (cI, 11, .inl NB))] := hD
  have hA0 := hA
  refine lv_aload_n hx hb d_Nd_leastNumber_0 rfl (lv_at hl 0 rfl) ?_
  refine lv_iload_n hx hb d_Nd_leastNumber_1 rfl (lv_at hl 1 rfl) ?_
  refine ry_callV (n := 1) (As := [.int (nI j)]) (rest := []) ⟨hx, hb, hml, hown, htb⟩ (c_Nd_isUnknown l dC dI cI cL cZ ad LO ST HI KP NB unk cnt sv sk ck hunk hcnt (nI j)) (gV mw_178 mw_180 mp_4 mw_4 mc_Nd_isUnknown) rfl rfl (by decide +kernel) ⟨Nat.le_of_ble_eq_true rfl, Nat.le_of_ble_eq_true rfl⟩ (hP.sub [0, 1, 2, 3, 4, 5] rfl) hK (ci := 3) (q0 := 0) rfl rfl rfl rfl hl.1 rfl (Nat.le_of_ble_eq_true rfl) d_Nd_leastNumber_2 ⟨Nat.zero_le _, Nat.zero_le _⟩ (fun r_1 hr_1 => ?_)
  subst hr_1
  refine W.eq (g2 := F0 m 5 ls [.int (hs (nI j) unk)]) rfl ?_
  refine lv_if_eq (tgt := 24) hx hb d_Nd_leastNumber_5 (by decide) (fun c_5 => ?_) (fun c_5 => ?_)
  · exact absurd (hxx.symm.trans c_5) (by decide)
  · refine lv_aload_n hx hb d_Nd_leastNumber_8 rfl (lv_at hl 0 rfl) ?_
    refine wy_callV (n := 0) (wr := []) (As := []) (rest := []) ⟨hx, hb, hml, hown, htb⟩ (c_Nd_areSolved l dC dI cI cL cZ ad LO ST HI KP NB unk cnt sv sk ck hunk hcnt lo hi hlo hhi h0 s.heap.size) (gV mw_182 mw_152 mw_153 mw_4 mc_Nd_areSolved) rfl rfl (by decide +kernel) ⟨Nat.le_of_ble_eq_true rfl, Nat.le_of_ble_eq_true rfl⟩ hP hD hS hA hK [0, 1, 2, 3, 4, 5] [] rfl rfl (by decide) (by decide) (hP.sub [0, 1, 2, 3, 4, 5] rfl) ((hD.sub [0, 1, 2, 3, 4, 5] (by decide) rfl).weaken (fun _ _ _ _ => trivial)) (ci := 3) (q0 := 0) rfl rfl rfl rfl hl.1 rfl (Nat.le_of_ble_eq_true rfl) d_Nd_leastNumber_9 ⟨Nat.le_of_ble_eq_true rfl, Nat.le_of_ble_eq_true rfl⟩ (fun r u H locs hpost hP hD hS => ?_)
    subst hpost
    have hP : va_P (dC, dI) classes [((ad 12), .inr (3, [.ref (ad 13), .ref (ad 14), .ref (ad 15), .ref (ad 16), .ref (ad 17), .int (nI unk), .int (nI cnt), .int (cks lo hi ST (fl cnt 1 KP) cnt NB).1, .int 1, .int ck])), ((ad 13), .inl (cI, 30, .inl LO)), ((ad 14), .inl (cI, 30, .inl ST)), ((ad 15), .inl (cI, 30, .inl HI)), ((ad 16), .inl (cZ, 30, .inl (fl cnt 1 KP))), ((ad 17), .inl (cI, 11, .inl ((cks lo hi ST (fl cnt 1 KP) cnt NB).2)))] H := hP
    have hD : va_D A [((ad 12), .inr (3, [.ref (ad 13), .ref (ad 14), .ref (ad 15), .ref (ad 16), .ref (ad 17), .int (nI unk), .int (nI cnt), .int (cks lo hi ST (fl cnt 1 KP) cnt NB).1, .int 1, .int ck])), ((ad 13), .inl (cI, 30, .inl LO)), ((ad 14), .inl (cI, 30, .inl ST)), ((ad 15), .inl (cI, 30, .inl HI)), ((ad 16), .inl (cZ, 30, .inl (fl cnt 1 KP))), ((ad 17), .inl (cI, 11, .inl ((cks lo hi ST (fl cnt 1 KP) cnt NB).2)))] := hD
    refine W.eq (g2 := F0 m 12 ls [.int (cks lo hi ST (fl cnt 1 KP) cnt NB).1]) rfl ?_
    refine lv_if_eq (tgt := 24) hx hb d_Nd_leastNumber_12 (by decide) (fun c_12 => ?_) (fun c_12 => ?_)
    · refine lv_iconst (v := (-1)) hx hb d_Nd_leastNumber_24 (by decide) ?_
      exact W.iret (v := (-1)) hx hb hr (fun t ht hW => ⟨⟨(-1), (), rfl, (by rw [if_pos c_12]), by rw [ht]; exact hP, va_K.moved hW.alike hK, hD⟩, hS.F ht⟩) hS.2.2 d_Nd_leastNumber_25
    · refine lv_aload_n hx hb d_Nd_leastNumber_15 rfl (lv_at hl 0 rfl) ?_
      refine va_get (D := (dC, dI)) (ci := 3) (v := .ref (ad 17)) (C := R_Nd) (T := F_Nd) (N := 10) hx hb htb ul_Nd hown hK hP 0 rfl rfl 4 (by decide) (htb _ mw_82) (fun _ h9 => h9) rfl d_Nd_leastNumber_16 ?_
      refine lv_iload_n hx hb d_Nd_leastNumber_19 rfl (lv_at hl 1 rfl) ?_
      refine ry_iald (D := (dC, dI)) (j := j) hx hb hK hP 5 0 rfl rfl (by omega) (by decide) d_Nd_leastNumber_20 ?_
      refine lv_goto (tgt := 25) hx hb d_Nd_leastNumber_21 (by decide) ?_
      exact W.iret (v := (((cks lo hi ST (fl cnt 1 KP) cnt NB).2) j)) hx hb hr (fun t ht hW => ⟨⟨(((cks lo hi ST (fl cnt 1 KP) cnt NB).2) j), (), rfl, (by rw [if_neg c_12]), by rw [ht]; exact hP, va_K.moved hW.alike hK, hD⟩, hS.F ht⟩) hS.2.2 d_Nd_leastNumber_25

set_option maxHeartbeats 4000000 in
set_option maxRecDepth 100000 in
theorem c0_Nd_isInClash (l : Launch) (dC : Nat → ClassId) (dI : Nat → Nat → Nat) (cI cL cZ : ClassId) (ad : Nat → Nat) (LO ST HI KP NB : Nat → Int32) (unk cnt : Nat) (sv sk ck : Int32) (hunk : unk ≤ 10) (hcnt : cnt ≤ 30) (x : Int32) (hxx : hs x cnt = 0) : Met l y_Nd_isInClash (cw_Nd_isInClash :: tb) (rmH 6 0 0) (va_Pc [.ref (ad 12), .int x] (ry_P (dC, dI) classes (wNd cI cZ ad LO ST HI KP NB unk cnt sv sk ck) (tyI cI cL cZ))) (ry_S ry_i (fun r => r = 0)) 0 0 (fun _ => False) := by
  refine Met.ofW (cc := b_Nd_isInClash) (maxL := 2) (ret := (some .boolean)) (by decide +kernel) rfl ?_
  intro p e s m args below meth c s₁ B hml0 hv
  have C0 := cx_of B hml0 rfl
  obtain ⟨hx, hb, hr, hml, hown, htb, hlocks⟩ := id C0
  obtain ⟨rfl, hP, hK⟩ := hv
  have hl := lv_entry ([.ref (ad 12), .int x]) (n := 2) (Nat.le_of_ble_eq_true rfl)
  rw [lg_entry_eq]
  generalize (lg_sl ([.ref (ad 12), .int x]) ++ List.replicate (2 - (lg_sl ([.ref (ad 12), .int x])).length) Slot.unset).toArray = ls at hl ⊢
  have hl : lv_has ls 2 [(0, .ref (ad 12)), (1, .int x)] := hl
  have hP : va_P (dC, dI) classes [((ad 12), .inr (3, [.ref (ad 13), .ref (ad 14), .ref (ad 15), .ref (ad 16), .ref (ad 17), .int (nI unk), .int (nI cnt), .int sv, .int sk, .int ck])), ((ad 13), .inl (cI, 30, .inl LO)), ((ad 14), .inl (cI, 30, .inl ST)), ((ad 15), .inl (cI, 30, .inl HI)), ((ad 16), .inl (cZ, 30, .inl KP)), ((ad 17), .inl (cI, 11, .inl NB))] s.heap := hP
  refine lv_iload_n hx hb d_Nd_isInClash_0 rfl (lv_at hl 1 rfl) ?_
  refine lv_if_lt (tgt := 19) hx hb d_Nd_isInClash_1 (by decide) (fun c_1 => ?_) (fun c_1 => ?_)
  · refine lv_iconst (v := 0) hx hb d_Nd_isInClash_19 (by decide) ?_
    exact W.zret (v := 0) hx hb hr rfl (fun t ht hW => ⟨0, rfl, rfl, ht⟩) (fun _ h => by cases h) d_Nd_isInClash_20
  · refine lv_iload_n hx hb d_Nd_isInClash_4 rfl (lv_at hl 1 rfl) ?_
    refine lv_aload_n hx hb d_Nd_isInClash_5 rfl (lv_at hl 0 rfl) ?_
    refine va_get (D := (dC, dI)) (ci := 3) (v := .int (nI cnt)) (C := R_Nd) (T := F_Nd) (N := 10) hx hb htb ul_Nd hown hK hP 0 rfl rfl 6 (by decide) (htb _ mw_84) (fun _ h9 => h9) rfl d_Nd_isInClash_6 ?_
    refine lv_icmp_ge (tgt := 19) hx hb d_Nd_isInClash_9 (by decide) (fun c_9 => ?_) (fun c_9 => ?_)
    · refine lv_iconst (v := 0) hx hb d_Nd_isInClash_19 (by decide) ?_
      exact W.zret (v := 0) hx hb hr rfl (fun t ht hW => ⟨0, rfl, rfl, ht⟩) (fun _ h => by cases h) d_Nd_isInClash_20
    · exact absurd hxx (by rw [hs, if_neg c_1, if_neg c_9]; decide)

set_option maxHeartbeats 4000000 in
set_option maxRecDepth 100000 in
theorem c1_Nd_isInClash (l : Launch) (dC : Nat → ClassId) (dI : Nat → Nat → Nat) (cI cL cZ : ClassId) (ad : Nat → Nat) (LO ST HI KP NB : Nat → Int32) (unk cnt : Nat) (sv sk ck : Int32) (hunk : unk ≤ 10) (hcnt : cnt ≤ 30) (j : Nat) (hj : j < cnt) (h0 : ¬ sk = 0) (hsv : sv = 0 ∨ sv = 1) (h1 : ¬ sv = 0) : Met l y_Nd_isInClash (cw_Nd_isInClash :: tb) (rmH 6 0 0) (va_Pc [.ref (ad 12), .int (nI j)] (ry_P (dC, dI) classes (wNd cI cZ ad LO ST HI KP NB unk cnt sv sk ck) (tyI cI cL cZ))) (ry_S ry_i (fun r => r = 0)) 0 0 (fun _ => False) := by
  refine Met.ofW (cc := b_Nd_isInClash) (maxL := 2) (ret := (some .boolean)) (by decide +kernel) rfl ?_
  intro p e s m args below meth c s₁ B hml0 hv
  have C0 := cx_of B hml0 rfl
  obtain ⟨hx, hb, hr, hml, hown, htb, hlocks⟩ := id C0
  obtain ⟨rfl, hP, hK⟩ := hv
  have hl := lv_entry ([.ref (ad 12), .int (nI j)]) (n := 2) (Nat.le_of_ble_eq_true rfl)
  rw [lg_entry_eq]
  generalize (lg_sl ([.ref (ad 12), .int (nI j)]) ++ List.replicate (2 - (lg_sl ([.ref (ad 12), .int (nI j)])).length) Slot.unset).toArray = ls at hl ⊢
  have hl : lv_has ls 2 [(0, .ref (ad 12)), (1, .int (nI j))] := hl
  have hP : va_P (dC, dI) classes [((ad 12), .inr (3, [.ref (ad 13), .ref (ad 14), .ref (ad 15), .ref (ad 16), .ref (ad 17), .int (nI unk), .int (nI cnt), .int sv, .int sk, .int ck])), ((ad 13), .inl (cI, 30, .inl LO)), ((ad 14), .inl (cI, 30, .inl ST)), ((ad 15), .inl (cI, 30, .inl HI)), ((ad 16), .inl (cZ, 30, .inl KP)), ((ad 17), .inl (cI, 11, .inl NB))] s.heap := hP
  refine lv_iload_n hx hb d_Nd_isInClash_0 rfl (lv_at hl 1 rfl) ?_
  refine lv_if_lt (tgt := 19) hx hb d_Nd_isInClash_1 (by decide) (fun c_1 => ?_) (fun c_1 => ?_)
  · exact absurd c_1 (nI_pos (by omega))
  · refine lv_iload_n hx hb d_Nd_isInClash_4 rfl (lv_at hl 1 rfl) ?_
    refine lv_aload_n hx hb d_Nd_isInClash_5 rfl (lv_at hl 0 rfl) ?_
    refine va_get (D := (dC, dI)) (ci := 3) (v := .int (nI cnt)) (C := R_Nd) (T := F_Nd) (N := 10) hx hb htb ul_Nd hown hK hP 0 rfl rfl 6 (by decide) (htb _ mw_84) (fun _ h9 => h9) rfl d_Nd_isInClash_6 ?_
    refine lv_icmp_ge (tgt := 19) hx hb d_Nd_isInClash_9 (by decide) (fun c_9 => ?_) (fun c_9 => ?_)
    · exact absurd ((nI_leI (by omega) (by omega)).mp c_9) (by omega)
    · refine lv_aload_n hx hb d_Nd_isInClash_12 rfl (lv_at hl 0 rfl) ?_
      refine ry_callV (n := 0) (As := []) (rest := []) ⟨hx, hb, hml, hown, htb⟩ (c1_Nd_areSolved l dC dI cI cL cZ ad LO ST HI KP NB unk cnt sv sk ck hunk hcnt h0 hsv) (gV mw_182 mw_152 mw_153 mw_4 mc_Nd_areSolved) rfl rfl (by decide +kernel) ⟨Nat.le_of_ble_eq_true rfl, Nat.le_of_ble_eq_true rfl⟩ (hP.sub [0, 1, 2, 3, 4, 5] rfl) hK (ci := 3) (q0 := 0) rfl rfl rfl rfl hl.1 rfl (Nat.le_of_ble_eq_true rfl) d_Nd_isInClash_13 ⟨Nat.zero_le _, Nat.zero_le _⟩ (fun r_1 hr_1 => ?_)
      rw [hr_1]
      refine W.eq (g2 := F0 m 16 ls [.int sv]) rfl ?_
      refine lv_if_eq (tgt := 21) hx hb d_Nd_isInClash_16 (by decide) (fun c_16 => ?_) (fun c_16 => ?_)
      · exact absurd c_16 h1
      · refine lv_iconst (v := 0) hx hb d_Nd_isInClash_19 (by decide) ?_
        exact W.zret (v := 0) hx hb hr rfl (fun t ht hW => ⟨0, rfl, rfl, ht⟩) (fun _ h => by cases h) d_Nd_isInClash_20

set_option maxHeartbeats 4000000 in
set_option maxRecDepth 100000 in
theorem c2_Nd_isInClash (l : Launch) (dC : Nat → ClassId) (dI : Nat → Nat → Nat) (cI cL cZ : ClassId) (ad : Nat → Nat) (LO ST HI KP NB : Nat → Int32) (unk cnt : Nat) (sv sk ck : Int32) (hunk : unk ≤ 10) (hcnt : cnt ≤ 30) (j : Nat) (hj : j < cnt) (h0 : ¬ sk = 0) (hsv : sv = 0 ∨ sv = 1) (h1 : sv = 0) (h2 : ¬ ck = 0) (hkp : ∀ j, j < cnt → KP j = 0 ∨ KP j = 1) : Met l y_Nd_isInClash (cw_Nd_isInClash :: tb) (rmH 6 0 0) (va_Pc [.ref (ad 12), .int (nI j)] (ry_P (dC, dI) classes (wNd cI cZ ad LO ST HI KP NB unk cnt sv sk ck) (tyI cI cL cZ))) (ry_S ry_i (fun r => r = KP j)) 0 0 (fun _ => False) := by
  refine Met.ofW (cc := b_Nd_isInClash) (maxL := 2) (ret := (some .boolean)) (by decide +kernel) rfl ?_
  intro p e s m args below meth c s₁ B hml0 hv
  have C0 := cx_of B hml0 rfl
  obtain ⟨hx, hb, hr, hml, hown, htb, hlocks⟩ := id C0
  obtain ⟨rfl, hP, hK⟩ := hv
  have hl := lv_entry ([.ref (ad 12), .int (nI j)]) (n := 2) (Nat.le_of_ble_eq_true rfl)
  rw [lg_entry_eq]
  generalize (lg_sl ([.ref (ad 12), .int (nI j)]) ++ List.replicate (2 - (lg_sl ([.ref (ad 12), .int (nI j)])).length) Slot.unset).toArray = ls at hl ⊢
  have hl : lv_has ls 2 [(0, .ref (ad 12)), (1, .int (nI j))] := hl
  have hP : va_P (dC, dI) classes [((ad 12), .inr (3, [.ref (ad 13), .ref (ad 14), .ref (ad 15), .ref (ad 16), .ref (ad 17), .int (nI unk), .int (nI cnt), .int sv, .int sk, .int ck])), ((ad 13), .inl (cI, 30, .inl LO)), ((ad 14), .inl (cI, 30, .inl ST)), ((ad 15), .inl (cI, 30, .inl HI)), ((ad 16), .inl (cZ, 30, .inl KP)), ((ad 17), .inl (cI, 11, .inl NB))] s.heap := hP
  refine lv_iload_n hx hb d_Nd_isInClash_0 rfl (lv_at hl 1 rfl) ?_
  refine lv_if_lt (tgt := 19) hx hb d_Nd_isInClash_1 (by decide) (fun c_1 => ?_) (fun c_1 => ?_)
  · exact absurd c_1 (nI_pos (by omega))
  · refine lv_iload_n hx hb d_Nd_isInClash_4 rfl (lv_at hl 1 rfl) ?_
    refine lv_aload_n hx hb d_Nd_isInClash_5 rfl (lv_at hl 0 rfl) ?_
    refine va_get (D := (dC, dI)) (ci := 3) (v := .int (nI cnt)) (C := R_Nd) (T := F_Nd) (N := 10) hx hb htb ul_Nd hown hK hP 0 rfl rfl 6 (by decide) (htb _ mw_84) (fun _ h9 => h9) rfl d_Nd_isInClash_6 ?_
    refine lv_icmp_ge (tgt := 19) hx hb d_Nd_isInClash_9 (by decide) (fun c_9 => ?_) (fun c_9 => ?_)
    · exact absurd ((nI_leI (by omega) (by omega)).mp c_9) (by omega)
    · refine lv_aload_n hx hb d_Nd_isInClash_12 rfl (lv_at hl 0 rfl) ?_
      refine ry_callV (n := 0) (As := []) (rest := []) ⟨hx, hb, hml, hown, htb⟩ (c1_Nd_areSolved l dC dI cI cL cZ ad LO ST HI KP NB unk cnt sv sk ck hunk hcnt h0 hsv) (gV mw_182 mw_152 mw_153 mw_4 mc_Nd_areSolved) rfl rfl (by decide +kernel) ⟨Nat.le_of_ble_eq_true rfl, Nat.le_of_ble_eq_true rfl⟩ (hP.sub [0, 1, 2, 3, 4, 5] rfl) hK (ci := 3) (q0 := 0) rfl rfl rfl rfl hl.1 rfl (Nat.le_of_ble_eq_true rfl) d_Nd_isInClash_13 ⟨Nat.zero_le _, Nat.zero_le _⟩ (fun r_1 hr_1 => ?_)
      rw [hr_1]
      refine W.eq (g2 := F0 m 16 ls [.int sv]) rfl ?_
      refine lv_if_eq (tgt := 21) hx hb d_Nd_isInClash_16 (by decide) (fun c_16 => ?_) (fun c_16 => ?_)
      · refine lv_aload_n hx hb d_Nd_isInClash_21 rfl (lv_at hl 0 rfl) ?_
        refine va_get (D := (dC, dI)) (ci := 3) (v := .int ck) (C := R_Nd) (T := F_Nd) (N := 10) hx hb htb ul_Nd hown hK hP 0 rfl rfl 9 (by decide) (htb _ mw_87) (fun _ h9 => h9) rfl d_Nd_isInClash_22 ?_
        refine lv_if_ne (tgt := 37) hx hb d_Nd_isInClash_25 (by decide) (fun c_25 => ?_) (fun c_25 => ?_)
        · refine lv_aload_n hx hb d_Nd_isInClash_37 rfl (lv_at hl 0 rfl) ?_
          refine va_get (D := (dC, dI)) (ci := 3) (v := .ref (ad 16)) (C := R_Nd) (T := F_Nd) (N := 10) hx hb htb ul_Nd hown hK hP 0 rfl rfl 3 (by decide) (htb _ mw_81) (fun _ h9 => h9) rfl d_Nd_isInClash_38 ?_
          refine lv_iload_n hx hb d_Nd_isInClash_41 rfl (lv_at hl 1 rfl) ?_
          refine ry_zald (D := (dC, dI)) (j := j) hx hb hK hP 4 2 rfl rfl (by omega) (by decide) d_Nd_isInClash_42 ?_
          exact W.zret (v := (KP j)) hx hb hr (bn (hkp j hj)) (fun t ht hW => ⟨(KP j), rfl, rfl, ht⟩) (fun _ h => by cases h) d_Nd_isInClash_43
        · exact absurd c_25 h2
      · exact absurd h1 c_16

set_option maxHeartbeats 4000000 in
set_option maxRecDepth 100000 in
theorem c3_Nd_isInClash (l : Launch) (dC : Nat → ClassId) (dI : Nat → Nat → Nat) (cI cL cZ : ClassId) (ad : Nat → Nat) (LO ST HI KP NB : Nat → Int32) (unk cnt : Nat) (sv sk ck : Int32) (hunk : unk ≤ 10) (hcnt : cnt ≤ 30) (lo hi : Nat → Nat) (hlo : ∀ j, j < cnt → LO j = nI (lo j) ∧ lo j < 11) (hhi : ∀ j, j < cnt → HI j = nI (hi j) ∧ hi j < 11) (j : Nat) (hj : j < cnt) (h0 : ¬ sk = 0) (hsv : sv = 0 ∨ sv = 1) (h1 : sv = 0) (h2 : ck = 0) (hkp : ∀ j, j < cnt → (kco lo hi ST cnt cnt KP NB).1 j = 0 ∨ (kco lo hi ST cnt cnt KP NB).1 j = 1) (sz : Nat) : Met l y_Nd_isInClash (cw_Nd_isInClash :: tb) (rmH 6 0 0) (va_Pc [.ref (ad 12), .int (nI j)] (wy_P (dC, dI) classes (wNd cI cZ ad LO ST HI KP NB unk cnt sv sk ck) (tyI cI cL cZ) sz)) (wy_Q ry_i (fun r (u : Unit) => r = (kco lo hi ST cnt cnt KP NB).1 j) (wy_B (dC, dI) classes (tyI cI cL cZ) (va_A (wNd cI cZ ad LO ST HI KP NB unk cnt sv sk ck) sz) (fun u : Unit => (wNd cI cZ ad LO ST HI (kco lo hi ST cnt cnt KP NB).1 (kco lo hi ST cnt cnt KP NB).2 unk cnt sv sk 1))) (va_A (wNd cI cZ ad LO ST HI KP NB unk cnt sv sk ck) sz)) 0 0 (va_A (wNd cI cZ ad LO ST HI KP NB unk cnt sv sk ck) sz) := by
  refine Met.ofW (cc := b_Nd_isInClash) (maxL := 2) (ret := (some .boolean)) (by decide +kernel) rfl ?_
  intro p e s m args below meth c s₁ B hml0 hv
  have C0 := cx_of B hml0 rfl
  obtain ⟨hx, hb, hr, hml, hown, htb, hlocks⟩ := id C0
  obtain ⟨rfl, hsz, hP, hK, hD0⟩ := hv
  subst hsz
  have hD := hD0.self (sz := s.heap.size)
  generalize hAe : va_A (wNd cI cZ ad LO ST HI KP NB unk cnt sv sk ck) s.heap.size = A at hD ⊢
  have hA : ∀ q : Nat, s.heap.size ≤ q → A q := fun q h => by rw [← hAe]; exact Or.inr h
  have hS : va_S A s.heap s.heap [] := va_S.rf
  have hl := lv_entry ([.ref (ad 12), .int (nI j)]) (n := 2) (Nat.le_of_ble_eq_true rfl)
  rw [lg_entry_eq]
  generalize (lg_sl ([.ref (ad 12), .int (nI j)]) ++ List.replicate (2 - (lg_sl ([.ref (ad 12), .int (nI j)])).length) Slot.unset).toArray = ls at hl ⊢
  have hl : lv_has ls 2 [(0, .ref (ad 12)), (1, .int (nI j))] := hl
  have hP : va_P (dC, dI) classes [((ad 12), .inr (3, [.ref (ad 13), .ref (ad 14), .ref (ad 15), .ref (ad 16), .ref (ad 17), .int (nI unk), .int (nI cnt), .int sv, .int sk, .int ck])), ((ad 13), .inl (cI, 30, .inl LO)), ((ad 14), .inl (cI, 30, .inl ST)), ((ad 15), .inl (cI, 30, .inl HI)), ((ad 16), .inl (cZ, 30, .inl KP)), ((ad 17), .inl (cI, 11, .inl NB))] s.heap := hP
  have hD : va_D A [((ad 12), .inr (3, [.ref (ad 13), .ref (ad 14), .ref (ad 15), .ref (ad 16), .ref (ad 17), .int (nI unk), .int (nI cnt), .int sv, .int sk, .int ck])), ((ad 13), .inl (cI, 30, .inl LO)), ((ad 14), .inl (cI, 30, .inl ST)), ((ad 15), .inl (cI, 30, .inl HI)), ((ad 16), .inl (cZ, 30, .inl KP)), ((ad 17), .inl (cI, 11, .inl NB))] := hD
  have hA0 := hA
  refine lv_iload_n hx hb d_Nd_isInClash_0 rfl (lv_at hl 1 rfl) ?_
  refine lv_if_lt (tgt := 19) hx hb d_Nd_isInClash_1 (by decide) (fun c_1 => ?_) (fun c_1 => ?_)
  · exact absurd c_1 (nI_pos (by omega))
  · refine lv_iload_n hx hb d_Nd_isInClash_4 rfl (lv_at hl 1 rfl) ?_
    refine lv_aload_n hx hb d_Nd_isInClash_5 rfl (lv_at hl 0 rfl) ?_
    refine va_get (D := (dC, dI)) (ci := 3) (v := .int (nI cnt)) (C := R_Nd) (T := F_Nd) (N := 10) hx hb htb ul_Nd hown hK hP 0 rfl rfl 6 (by decide) (htb _ mw_84) (fun _ h9 => h9) rfl d_Nd_isInClash_6 ?_
    refine lv_icmp_ge (tgt := 19) hx hb d_Nd_isInClash_9 (by decide) (fun c_9 => ?_) (fun c_9 => ?_)
    · exact absurd ((nI_leI (by omega) (by omega)).mp c_9) (by omega)
    · refine lv_aload_n hx hb d_Nd_isInClash_12 rfl (lv_at hl 0 rfl) ?_
      refine ry_callV (n := 0) (As := []) (rest := []) ⟨hx, hb, hml, hown, htb⟩ (c1_Nd_areSolved l dC dI cI cL cZ ad LO ST HI KP NB unk cnt sv sk ck hunk hcnt h0 hsv) (gV mw_182 mw_152 mw_153 mw_4 mc_Nd_areSolved) rfl rfl (by decide +kernel) ⟨Nat.le_of_ble_eq_true rfl, Nat.le_of_ble_eq_true rfl⟩ (hP.sub [0, 1, 2, 3, 4, 5] rfl) hK (ci := 3) (q0 := 0) rfl rfl rfl rfl hl.1 rfl (Nat.le_of_ble_eq_true rfl) d_Nd_isInClash_13 ⟨Nat.zero_le _, Nat.zero_le _⟩ (fun r_1 hr_1 => ?_)
      rw [hr_1]
      refine W.eq (g2 := F0 m 16 ls [.int sv]) rfl ?_
      refine lv_if_eq (tgt := 21) hx hb d_Nd_isInClash_16 (by decide) (fun c_16 => ?_) (fun c_16 => ?_)
      · refine lv_aload_n hx hb d_Nd_isInClash_21 rfl (lv_at hl 0 rfl) ?_
        refine va_get (D := (dC, dI)) (ci := 3) (v := .int ck) (C := R_Nd) (T := F_Nd) (N := 10) hx hb htb ul_Nd hown hK hP 0 rfl rfl 9 (by decide) (htb _ mw_87) (fun _ h9 => h9) rfl d_Nd_isInClash_22 ?_
        refine lv_if_ne (tgt := 37) hx hb d_Nd_isInClash_25 (by decide) (fun c_25 => ?_) (fun c_25 => ?_)
        · exact absurd h2 c_25
        · refine lv_aload_n hx hb d_Nd_isInClash_28 rfl (lv_at hl 0 rfl) ?_
          refine wy_callV (n := 0) (wr := []) (As := []) (rest := []) ⟨hx, hb, hml, hown, htb⟩ (c_Nd_keepClashOnly l dC dI cI cL cZ ad LO ST HI KP NB unk cnt sv sk ck hunk hcnt lo hi hlo hhi s.heap.size) (gV mw_191 mw_193 mp_5 mw_4 mc_Nd_keepClashOnly) rfl rfl (by decide +kernel) ⟨Nat.le_of_ble_eq_true rfl, Nat.le_of_ble_eq_true rfl⟩ hP hD hS hA hK [0, 1, 2, 3, 4, 5] [] rfl rfl (by decide) (by decide) (hP.sub [0, 1, 2, 3, 4, 5] rfl) ((hD.sub [0, 1, 2, 3, 4, 5] (by decide) rfl).weaken (fun _ _ _ _ => trivial)) (ci := 3) (q0 := 0) rfl rfl rfl rfl hl.1 rfl (Nat.le_of_ble_eq_true rfl) d_Nd_isInClash_29 ⟨Nat.le_of_ble_eq_true rfl, Nat.le_of_ble_eq_true rfl⟩ (fun r u H locs hpost hP hD hS => ?_)
          subst hpost
          have hP : va_P (dC, dI) classes [((ad 12), .inr (3, [.ref (ad 13), .ref (ad 14), .ref (ad 15), .ref (ad 16), .ref (ad 17), .int (nI unk), .int (nI cnt), .int sv, .int sk, .int ck])), ((ad 13), .inl (cI, 30, .inl LO)), ((ad 14), .inl (cI, 30, .inl ST)), ((ad 15), .inl (cI, 30, .inl HI)), ((ad 16), .inl (cZ, 30, .inl ((kco lo hi ST cnt cnt KP NB).1))), ((ad 17), .inl (cI, 11, .inl ((kco lo hi ST cnt cnt KP NB).2)))] H := hP
          have hD : va_D A [((ad 12), .inr (3, [.ref (ad 13), .ref (ad 14), .ref (ad 15), .ref (ad 16), .ref (ad 17), .int (nI unk), .int (nI cnt), .int sv, .int sk, .int ck])), ((ad 13), .inl (cI, 30, .inl LO)), ((ad 14), .inl (cI, 30, .inl ST)), ((ad 15), .inl (cI, 30, .inl HI)), ((ad 16), .inl (cZ, 30, .inl ((kco lo hi ST cnt cnt KP NB).1))), ((ad 17), .inl (cI, 11, .inl ((kco lo hi ST cnt cnt KP NB).2)))] := hD
          refine W.eq (g2 := F0 m 32 ls []) rfl ?_
          refine lv_aload_n hx hb d_Nd_isInClash_32 rfl (lv_at hl 0 rfl) ?_
          refine lv_iconst (v := 1) hx hb d_Nd_isInClash_33 (by decide) ?_
          refine va_put (D := (dC, dI)) (ci := 3) (v := .int 1) (ty := .boolean) (C := R_Nd) (T := F_Nd) (N := 10) hx hb htb ul_Nd t_Nd t_Nd_ok n_Nd hown hK hP hD hS 0 rfl rfl 9 (by decide) (htb _ mw_87) (fun _ h9 => h9) rfl (by decide +kernel) rfl rfl (Nat.le_of_ble_eq_true rfl) d_Nd_isInClash_34 (fun H locs hP hD hS => ?_)
          have hP : va_P (dC, dI) classes [((ad 12), .inr (3, [.ref (ad 13), .ref (ad 14), .ref (ad 15), .ref (ad 16), .ref (ad 17), .int (nI unk), .int (nI cnt), .int sv, .int sk, .int 1])), ((ad 13), .inl (cI, 30, .inl LO)), ((ad 14), .inl (cI, 30, .inl ST)), ((ad 15), .inl (cI, 30, .inl HI)), ((ad 16), .inl (cZ, 30, .inl ((kco lo hi ST cnt cnt KP NB).1))), ((ad 17), .inl (cI, 11, .inl ((kco lo hi ST cnt cnt KP NB).2)))] H := hP
          have hD : va_D A [((ad 12), .inr (3, [.ref (ad 13), .ref (ad 14), .ref (ad 15), .ref (ad 16), .ref (ad 17), .int (nI unk), .int (nI cnt), .int sv, .int sk, .int 1])), ((ad 13), .inl (cI, 30, .inl LO)), ((ad 14), .inl (cI, 30, .inl ST)), ((ad 15), .inl (cI, 30, .inl HI)), ((ad 16), .inl (cZ, 30, .inl ((kco lo hi ST cnt cnt KP NB).1))), ((ad 17), .inl (cI, 11, .inl ((kco lo hi ST cnt cnt KP NB).2)))] := hD
          refine lv_aload_n hx hb d_Nd_isInClash_37 rfl (lv_at hl 0 rfl) ?_
          refine va_get (D := (dC, dI)) (ci := 3) (v := .ref (ad 16)) (C := R_Nd) (T := F_Nd) (N := 10) hx hb htb ul_Nd hown hK hP 0 rfl rfl 3 (by decide) (htb _ mw_81) (fun _ h9 => h9) rfl d_Nd_isInClash_38 ?_
          refine lv_iload_n hx hb d_Nd_isInClash_41 rfl (lv_at hl 1 rfl) ?_
          refine ry_zald (D := (dC, dI)) (j := j) hx hb hK hP 4 2 rfl rfl (by omega) (by decide) d_Nd_isInClash_42 ?_
          exact W.zret (v := (((kco lo hi ST cnt cnt KP NB).1) j)) hx hb hr (bn (hkp j hj)) (fun t ht hW => ⟨⟨(((kco lo hi ST cnt cnt KP NB).1) j), (), rfl, rfl, by rw [ht]; exact hP, va_K.moved hW.alike hK, hD⟩, hS.F ht⟩) hS.2.2 d_Nd_isInClash_43
      · exact absurd h1 c_16

set_option maxHeartbeats 4000000 in
set_option maxRecDepth 100000 in
theorem c4_Nd_isInClash (l : Launch) (dC : Nat → ClassId) (dI : Nat → Nat → Nat) (cI cL cZ : ClassId) (ad : Nat → Nat) (LO ST HI KP NB : Nat → Int32) (unk cnt : Nat) (sv sk ck : Int32) (hunk : unk ≤ 10) (hcnt : cnt ≤ 30) (lo hi : Nat → Nat) (hlo : ∀ j, j < cnt → LO j = nI (lo j) ∧ lo j < 11) (hhi : ∀ j, j < cnt → HI j = nI (hi j) ∧ hi j < 11) (j : Nat) (hj : j < cnt) (h0 : sk = 0) (h1 : ¬ (cks lo hi ST (fl cnt 1 KP) cnt NB).1 = 0) (sz : Nat) : Met l y_Nd_isInClash (cw_Nd_isInClash :: tb) (rmH 6 0 0) (va_Pc [.ref (ad 12), .int (nI j)] (wy_P (dC, dI) classes (wNd cI cZ ad LO ST HI KP NB unk cnt sv sk ck) (tyI cI cL cZ) sz)) (wy_Q ry_i (fun r (u : Unit) => r = 0) (wy_B (dC, dI) classes (tyI cI cL cZ) (va_A (wNd cI cZ ad LO ST HI KP NB unk cnt sv sk ck) sz) (fun u : Unit => (wNd cI cZ ad LO ST HI (fl cnt 1 KP) (cks lo hi ST (fl cnt 1 KP) cnt NB).2 unk cnt (cks lo hi ST (fl cnt 1 KP) cnt NB).1 1 ck))) (va_A (wNd cI cZ ad LO ST HI KP NB unk cnt sv sk ck) sz)) 0 0 (va_A (wNd cI cZ ad LO ST HI KP NB unk cnt sv sk ck) sz) := by
  refine Met.ofW (cc := b_Nd_isInClash) (maxL := 2) (ret := (some .boolean)) (by decide +kernel) rfl ?_
  intro p e s m args below meth c s₁ B hml0 hv
  have C0 := cx_of B hml0 rfl
  obtain ⟨hx, hb, hr, hml, hown, htb, hlocks⟩ := id C0
  obtain ⟨rfl, hsz, hP, hK, hD0⟩ := hv
  subst hsz
  have hD := hD0.self (sz := s.heap.size)
  generalize hAe : va_A (wNd cI cZ ad LO ST HI KP NB unk cnt sv sk ck) s.heap.size = A at hD ⊢
  have hA : ∀ q : Nat, s.heap.size ≤ q → A q := fun q h => by rw [← hAe]; exact Or.inr h
  have hS : va_S A s.heap s.heap [] := va_S.rf
  have hl := lv_entry ([.ref (ad 12), .int (nI j)]) (n := 2) (Nat.le_of_ble_eq_true rfl)
  rw [lg_entry_eq]
  generalize (lg_sl ([.ref (ad 12), .int (nI j)]) ++ List.replicate (2 - (lg_sl ([.ref (ad 12), .int (nI j)])).length) Slot.unset).toArray = ls at hl ⊢
  have hl : lv_has ls 2 [(0, .ref (ad 12)), (1, .int (nI j))] := hl
  have hP : va_P (dC, dI) classes [((ad 12), .inr (3, [.ref (ad 13), .ref (ad 14), .ref (ad 15), .ref (ad 16), .ref (ad 17), .int (nI unk), .int (nI cnt), .int sv, .int sk, .int ck])), ((ad 13), .inl (cI, 30, .inl LO)), ((ad 14), .inl (cI, 30, .inl ST)), ((ad 15), .inl (cI, 30, .inl HI)), ((ad 16), .inl (cZ, 30, .inl KP)), ((ad 17), .inl (cI, 11, .inl NB))] s.heap := hP
  have hD : va_D A [((ad 12), .inr (3, [.ref (ad 13), .ref (ad 14), .ref (ad 15), .ref (ad 16), .ref (ad 17), .int (nI unk), .int (nI cnt), .int sv, .int sk, .int ck])), ((ad 13), .inl (cI, 30, .inl LO)), ((ad 14), .inl (cI, 30, .inl ST)), ((ad 15), .inl (cI, 30, .inl HI)), ((ad 16), .inl (cZ, 30, .inl KP)), ((ad 17), .inl (cI, 11, .inl NB))] := hD
  have hA0 := hA
  refine lv_iload_n hx hb d_Nd_isInClash_0 rfl (lv_at hl 1 rfl) ?_
  refine lv_if_lt (tgt := 19) hx hb d_Nd_isInClash_1 (by decide) (fun c_1 => ?_) (fun c_1 => ?_)
  · exact absurd c_1 (nI_pos (by omega))
  · refine lv_iload_n hx hb d_Nd_isInClash_4 rfl (lv_at hl 1 rfl) ?_
    refine lv_aload_n hx hb d_Nd_isInClash_5 rfl (lv_at hl 0 rfl) ?_
    refine va_get (D := (dC, dI)) (ci := 3) (v := .int (nI cnt)) (C := R_Nd) (T := F_Nd) (N := 10) hx hb htb ul_Nd hown hK hP 0 rfl rfl 6 (by decide) (htb _ mw_84) (fun _ h9 => h9) rfl d_Nd_isInClash_6 ?_
    refine lv_icmp_ge (tgt := 19) hx hb d_Nd_isInClash_9 (by decide) (fun c_9 => ?_) (fun c_9 => ?_)
    · exact absurd ((nI_leI (by omega) (by omega)).mp c_9) (by omega)
    · refine lv_aload_n hx hb d_Nd_isInClash_12 rfl (lv_at hl 0 rfl) ?_
      refine wy_callV (n := 0) (wr := []) (As := []) (rest := []) ⟨hx, hb, hml, hown, htb⟩ (c_Nd_areSolved l dC dI cI cL cZ ad LO ST HI KP NB unk cnt sv sk ck hunk hcnt lo hi hlo hhi h0 s.heap.size) (gV mw_182 mw_152 mw_153 mw_4 mc_Nd_areSolved) rfl rfl (by decide +kernel) ⟨Nat.le_of_ble_eq_true rfl, Nat.le_of_ble_eq_true rfl⟩ hP hD hS hA hK [0, 1, 2, 3, 4, 5] [] rfl rfl (by decide) (by decide) (hP.sub [0, 1, 2, 3, 4, 5] rfl) ((hD.sub [0, 1, 2, 3, 4, 5] (by decide) rfl).weaken (fun _ _ _ _ => trivial)) (ci := 3) (q0 := 0) rfl rfl rfl rfl hl.1 rfl (Nat.le_of_ble_eq_true rfl) d_Nd_isInClash_13 ⟨Nat.le_of_ble_eq_true rfl, Nat.le_of_ble_eq_true rfl⟩ (fun r u H locs hpost hP hD hS => ?_)
      subst hpost
      have hP : va_P (dC, dI) classes [((ad 12), .inr (3, [.ref (ad 13), .ref (ad 14), .ref (ad 15), .ref (ad 16), .ref (ad 17), .int (nI unk), .int (nI cnt), .int (cks lo hi ST (fl cnt 1 KP) cnt NB).1, .int 1, .int ck])), ((ad 13), .inl (cI, 30, .inl LO)), ((ad 14), .inl (cI, 30, .inl ST)), ((ad 15), .inl (cI, 30, .inl HI)), ((ad 16), .inl (cZ, 30, .inl (fl cnt 1 KP))), ((ad 17), .inl (cI, 11, .inl ((cks lo hi ST (fl cnt 1 KP) cnt NB).2)))] H := hP
      have hD : va_D A [((ad 12), .inr (3, [.ref (ad 13), .ref (ad 14), .ref (ad 15), .ref (ad 16), .ref (ad 17), .int (nI unk), .int (nI cnt), .int (cks lo hi ST (fl cnt 1 KP) cnt NB).1, .int 1, .int ck])), ((ad 13), .inl (cI, 30, .inl LO)), ((ad 14), .inl (cI, 30, .inl ST)), ((ad 15), .inl (cI, 30, .inl HI)), ((ad 16), .inl (cZ, 30, .inl (fl cnt 1 KP))), ((ad 17), .inl (cI, 11, .inl ((cks lo hi ST (fl cnt 1 KP) cnt NB).2)))] := hD
      refine W.eq (g2 := F0 m 16 ls [.int (cks lo hi ST (fl cnt 1 KP) cnt NB).1]) rfl ?_
      refine lv_if_eq (tgt := 21) hx hb d_Nd_isInClash_16 (by decide) (fun c_16 => ?_) (fun c_16 => ?_)
      · exact absurd c_16 h1
      · refine lv_iconst (v := 0) hx hb d_Nd_isInClash_19 (by decide) ?_
        exact W.zret (v := 0) hx hb hr rfl (fun t ht hW => ⟨⟨0, (), rfl, rfl, by rw [ht]; exact hP, va_K.moved hW.alike hK, hD⟩, hS.F ht⟩) hS.2.2 d_Nd_isInClash_20

set_option maxHeartbeats 4000000 in
set_option maxRecDepth 100000 in
theorem c5_Nd_isInClash (l : Launch) (dC : Nat → ClassId) (dI : Nat → Nat → Nat) (cI cL cZ : ClassId) (ad : Nat → Nat) (LO ST HI KP NB : Nat → Int32) (unk cnt : Nat) (sv sk ck : Int32) (hunk : unk ≤ 10) (hcnt : cnt ≤ 30) (lo hi : Nat → Nat) (hlo : ∀ j, j < cnt → LO j = nI (lo j) ∧ lo j < 11) (hhi : ∀ j, j < cnt → HI j = nI (hi j) ∧ hi j < 11) (j : Nat) (hj : j < cnt) (h0 : sk = 0) (h1 : (cks lo hi ST (fl cnt 1 KP) cnt NB).1 = 0) (h2 : ck = 0) (hkp : ∀ j, j < cnt → (kco lo hi ST cnt cnt (fl cnt 1 KP) (cks lo hi ST (fl cnt 1 KP) cnt NB).2).1 j = 0 ∨ (kco lo hi ST cnt cnt (fl cnt 1 KP) (cks lo hi ST (fl cnt 1 KP) cnt NB).2).1 j = 1) (sz : Nat) : Met l y_Nd_isInClash (cw_Nd_isInClash :: tb) (rmH 6 0 0) (va_Pc [.ref (ad 12), .int (nI j)] (wy_P (dC, dI) classes (wNd cI cZ ad LO ST HI KP NB unk cnt sv sk ck) (tyI cI cL cZ) sz)) (wy_Q ry_i (fun r (u : Unit) => r = (kco lo hi ST cnt cnt (fl cnt 1 KP) (cks lo hi ST (fl cnt 1 KP) cnt NB).2).1 j) (wy_B (dC, dI) classes (tyI cI cL cZ) (va_A (wNd cI cZ ad LO ST HI KP NB unk cnt sv sk ck) sz) (fun u : Unit => (wNd cI cZ ad LO ST HI (kco lo hi ST cnt cnt (fl cnt 1 KP) (cks lo hi ST (fl cnt 1 KP) cnt NB).2).1 (kco lo hi ST cnt cnt (fl cnt 1 KP) (cks lo hi ST (fl cnt 1 KP) cnt NB).2).2 unk cnt (cks lo hi ST (fl cnt 1 KP) cnt NB).1 1 1))) (va_A (wNd cI cZ ad LO ST HI KP NB unk cnt sv sk ck) sz)) 0 0 (va_A (wNd cI cZ ad LO ST HI KP NB unk cnt sv sk ck) sz) := by
  refine Met.ofW (cc := b_Nd_isInClash) (maxL := 2) (ret := (some .boolean)) (by decide +kernel) rfl ?_
  intro p e s m args below meth c s₁ B hml0 hv
  have C0 := cx_of B hml0 rfl
  obtain ⟨hx, hb, hr, hml, hown, htb, hlocks⟩ := id C0
  obtain ⟨rfl, hsz, hP, hK, hD0⟩ := hv
  subst hsz
  have hD := hD0.self (sz := s.heap.size)
  generalize hAe : va_A (wNd cI cZ ad LO ST HI KP NB unk cnt sv sk ck) s.heap.size = A at hD ⊢
  have hA : ∀ q : Nat, s.heap.size ≤ q → A q := fun q h => by rw [← hAe]; exact Or.inr h
  have hS : va_S A s.heap s.heap [] := va_S.rf
  have hl := lv_entry ([.ref (ad 12), .int (nI j)]) (n := 2) (Nat.le_of_ble_eq_true rfl)
  rw [lg_entry_eq]
  generalize (lg_sl ([.ref (ad 12), .int (nI j)]) ++ List.replicate (2 - (lg_sl ([.ref (ad 12), .int (nI j)])).length) Slot.unset).toArray = ls at hl ⊢
  have hl : lv_has ls 2 [(0, .ref (ad 12)), (1, .int (nI j))] := hl
  have hP : va_P (dC, dI) classes [((ad 12), .inr (3, [.ref (ad 13), .ref (ad 14), .ref (ad 15), .ref (ad 16), .ref (ad 17), .int (nI unk), .int (nI cnt), .int sv, .int sk, .int ck])), ((ad 13), .inl (cI, 30, .inl LO)), ((ad 14), .inl (cI, 30, .inl ST)), ((ad 15), .inl (cI, 30, .inl HI)), ((ad 16), .inl (cZ, 30, .inl KP)), ((ad 17), .inl (cI, 11, .inl NB))] s.heap := hP
  have hD : va_D A [((ad 12), .inr (3, [.ref (ad 13), .ref (ad 14), .ref (ad 15), .ref (ad 16), .ref (ad 17), .int (nI unk), .int (nI cnt), .int sv, .int sk, .int ck])), ((ad 13), .inl (cI, 30, .inl LO)), ((ad 14), .inl (cI, 30, .inl ST)), ((ad 15), .inl (cI, 30, .inl HI)), ((ad 16), .inl (cZ, 30, .inl KP)), ((ad 17), .inl (cI, 11, .inl NB))] := hD
  have hA0 := hA
  refine lv_iload_n hx hb d_Nd_isInClash_0 rfl (lv_at hl 1 rfl) ?_
  refine lv_if_lt (tgt := 19) hx hb d_Nd_isInClash_1 (by decide) (fun c_1 => ?_) (fun c_1 => ?_)
  · exact absurd c_1 (nI_pos (by omega))
  · refine lv_iload_n hx hb d_Nd_isInClash_4 rfl (lv_at hl 1 rfl) ?_
    refine lv_aload_n hx hb d_Nd_isInClash_5 rfl (lv_at hl 0 rfl) ?_
    refine va_get (D := (dC, dI)) (ci := 3) (v := .int (nI cnt)) (C := R_Nd) (T := F_Nd) (N := 10) hx hb htb ul_Nd hown hK hP 0 rfl rfl 6 (by decide) (htb _ mw_84) (fun _ h9 => h9) rfl d_Nd_isInClash_6 ?_
    refine lv_icmp_ge (tgt := 19) hx hb d_Nd_isInClash_9 (by decide) (fun c_9 => ?_) (fun c_9 => ?_)
    · exact absurd ((nI_leI (by omega) (by omega)).mp c_9) (by omega)
    · refine lv_aload_n hx hb d_Nd_isInClash_12 rfl (lv_at hl 0 rfl) ?_
      refine wy_callV (n := 0) (wr := []) (As := []) (rest := []) ⟨hx, hb, hml, hown, htb⟩ (c_Nd_areSolved l dC dI cI cL cZ ad LO ST HI KP NB unk cnt sv sk ck hunk hcnt lo hi hlo hhi h0 s.heap.size) (gV mw_182 mw_152 mw_153 mw_4 mc_Nd_areSolved) rfl rfl (by decide +kernel) ⟨Nat.le_of_ble_eq_true rfl, Nat.le_of_ble_eq_true rfl⟩ hP hD hS hA hK [0, 1, 2, 3, 4, 5] [] rfl rfl (by decide) (by decide) (hP.sub [0, 1, 2, 3, 4, 5] rfl) ((hD.sub [0, 1, 2, 3, 4, 5] (by decide) rfl).weaken (fun _ _ _ _ => trivial)) (ci := 3) (q0 := 0) rfl rfl rfl rfl hl.1 rfl (Nat.le_of_ble_eq_true rfl) d_Nd_isInClash_13 ⟨Nat.le_of_ble_eq_true rfl, Nat.le_of_ble_eq_true rfl⟩ (fun r u H locs hpost hP hD hS => ?_)
      subst hpost
      have hP : va_P (dC, dI) classes [((ad 12), .inr (3, [.ref (ad 13), .ref (ad 14), .ref (ad 15), .ref (ad 16), .ref (ad 17), .int (nI unk), .int (nI cnt), .int (cks lo hi ST (fl cnt 1 KP) cnt NB).1, .int 1, .int ck])), ((ad 13), .inl (cI, 30, .inl LO)), ((ad 14), .inl (cI, 30, .inl ST)), ((ad 15), .inl (cI, 30, .inl HI)), ((ad 16), .inl (cZ, 30, .inl (fl cnt 1 KP))), ((ad 17), .inl (cI, 11, .inl ((cks lo hi ST (fl cnt 1 KP) cnt NB).2)))] H := hP
      have hD : va_D A [((ad 12), .inr (3, [.ref (ad 13), .ref (ad 14), .ref (ad 15), .ref (ad 16), .ref (ad 17), .int (nI unk), .int (nI cnt), .int (cks lo hi ST (fl cnt 1 KP) cnt NB).1, .int 1, .int ck])), ((ad 13), .inl (cI, 30, .inl LO)), ((ad 14), .inl (cI, 30, .inl ST)), ((ad 15), .inl (cI, 30, .inl HI)), ((ad 16), .inl (cZ, 30, .inl (fl cnt 1 KP))), ((ad 17), .inl (cI, 11, .inl ((cks lo hi ST (fl cnt 1 KP) cnt NB).2)))] := hD
      refine W.eq (g2 := F0 m 16 ls [.int (cks lo hi ST (fl cnt 1 KP) cnt NB).1]) rfl ?_
      refine lv_if_eq (tgt := 21) hx hb d_Nd_isInClash_16 (by decide) (fun c_16 => ?_) (fun c_16 => ?_)
      · refine lv_aload_n hx hb d_Nd_isInClash_21 rfl (lv_at hl 0 rfl) ?_
        refine va_get (D := (dC, dI)) (ci := 3) (v := .int ck) (C := R_Nd) (T := F_Nd) (N := 10) hx hb htb ul_Nd hown hK hP 0 rfl rfl 9 (by decide) (htb _ mw_87) (fun _ h9 => h9) rfl d_Nd_isInClash_22 ?_
        refine lv_if_ne (tgt := 37) hx hb d_Nd_isInClash_25 (by decide) (fun c_25 => ?_) (fun c_25 => ?_)
        · exact absurd h2 c_25
        · refine lv_aload_n hx hb d_Nd_isInClash_28 rfl (lv_at hl 0 rfl) ?_
          refine wy_callV (n := 0) (wr := []) (As := []) (rest := []) ⟨hx, hb, hml, hown, htb⟩ (c_Nd_keepClashOnly l dC dI cI cL cZ ad LO ST HI (fl cnt 1 KP) (cks lo hi ST (fl cnt 1 KP) cnt NB).2 unk cnt (cks lo hi ST (fl cnt 1 KP) cnt NB).1 1 ck hunk hcnt lo hi hlo hhi H.size) (gV mw_191 mw_193 mp_5 mw_4 mc_Nd_keepClashOnly) rfl rfl (by decide +kernel) ⟨Nat.le_of_ble_eq_true rfl, Nat.le_of_ble_eq_true rfl⟩ hP hD hS hA hK [0, 1, 2, 3, 4, 5] [] rfl rfl (by decide) (by decide) (hP.sub [0, 1, 2, 3, 4, 5] rfl) ((hD.sub [0, 1, 2, 3, 4, 5] (by decide) rfl).weaken (fun _ _ _ _ => trivial)) (ci := 3) (q0 := 0) rfl rfl rfl rfl hl.1 rfl (Nat.le_of_ble_eq_true rfl) d_Nd_isInClash_29 ⟨Nat.le_of_ble_eq_true rfl, Nat.le_of_ble_eq_true rfl⟩ (fun r u H locs hpost hP hD hS => ?_)
          subst hpost
          have hP : va_P (dC, dI) classes [((ad 12), .inr (3, [.ref (ad 13), .ref (ad 14), .ref (ad 15), .ref (ad 16), .ref (ad 17), .int (nI unk), .int (nI cnt), .int (cks lo hi ST (fl cnt 1 KP) cnt NB).1, .int 1, .int ck])), ((ad 13), .inl (cI, 30, .inl LO)), ((ad 14), .inl (cI, 30, .inl ST)), ((ad 15), .inl (cI, 30, .inl HI)), ((ad 16), .inl (cZ, 30, .inl ((kco lo hi ST cnt cnt (fl cnt 1 KP) (cks lo hi ST (fl cnt 1 KP) cnt NB).2).1))), ((ad 17), .inl (cI, 11, .inl ((kco lo hi ST cnt cnt (fl cnt 1 KP) (cks lo hi ST (fl cnt 1 KP) cnt NB).2).2)))] H := hP
          have hD : va_D A [((ad 12), .inr (3, [.ref (ad 13), .ref (ad 14), .ref (ad 15), .ref (ad 16), .ref (ad 17), .int (nI unk), .int (nI cnt), .int (cks lo hi ST (fl cnt 1 KP) cnt NB).1, .int 1, .int ck])), ((ad 13), .inl (cI, 30, .inl LO)), ((ad 14), .inl (cI, 30, .inl ST)), ((ad 15), .inl (cI, 30, .inl HI)), ((ad 16), .inl (cZ, 30, .inl ((kco lo hi ST cnt cnt (fl cnt 1 KP) (cks lo hi ST (fl cnt 1 KP) cnt NB).2).1))), ((ad 17), .inl (cI, 11, .inl ((kco lo hi ST cnt cnt (fl cnt 1 KP) (cks lo hi ST (fl cnt 1 KP) cnt NB).2).2)))] := hD
          refine W.eq (g2 := F0 m 32 ls []) rfl ?_
          refine lv_aload_n hx hb d_Nd_isInClash_32 rfl (lv_at hl 0 rfl) ?_
          refine lv_iconst (v := 1) hx hb d_Nd_isInClash_33 (by decide) ?_
          refine va_put (D := (dC, dI)) (ci := 3) (v := .int 1) (ty := .boolean) (C := R_Nd) (T := F_Nd) (N := 10) hx hb htb ul_Nd t_Nd t_Nd_ok n_Nd hown hK hP hD hS 0 rfl rfl 9 (by decide) (htb _ mw_87) (fun _ h9 => h9) rfl (by decide +kernel) rfl rfl (Nat.le_of_ble_eq_true rfl) d_Nd_isInClash_34 (fun H locs hP hD hS => ?_)
          have hP : va_P (dC, dI) classes [((ad 12), .inr (3, [.ref (ad 13), .ref (ad 14), .ref (ad 15), .ref (ad 16), .ref (ad 17), .int (nI unk), .int (nI cnt), .int (cks lo hi ST (fl cnt 1 KP) cnt NB).1, .int 1, .int 1])), ((ad 13), .inl (cI, 30, .inl LO)), ((ad 14), .inl (cI, 30, .inl ST)), ((ad 15), .inl (cI, 30, .inl HI)), ((ad 16), .inl (cZ, 30, .inl ((kco lo hi ST cnt cnt (fl cnt 1 KP) (cks lo hi ST (fl cnt 1 KP) cnt NB).2).1))), ((ad 17), .inl (cI, 11, .inl ((kco lo hi ST cnt cnt (fl cnt 1 KP) (cks lo hi ST (fl cnt 1 KP) cnt NB).2).2)))] H := hP
          have hD : va_D A [((ad 12), .inr (3, [.ref (ad 13), .ref (ad 14), .ref (ad 15), .ref (ad 16), .ref (ad 17), .int (nI unk), .int (nI cnt), .int (cks lo hi ST (fl cnt 1 KP) cnt NB).1, .int 1, .int 1])), ((ad 13), .inl (cI, 30, .inl LO)), ((ad 14), .inl (cI, 30, .inl ST)), ((ad 15), .inl (cI, 30, .inl HI)), ((ad 16), .inl (cZ, 30, .inl ((kco lo hi ST cnt cnt (fl cnt 1 KP) (cks lo hi ST (fl cnt 1 KP) cnt NB).2).1))), ((ad 17), .inl (cI, 11, .inl ((kco lo hi ST cnt cnt (fl cnt 1 KP) (cks lo hi ST (fl cnt 1 KP) cnt NB).2).2)))] := hD
          refine lv_aload_n hx hb d_Nd_isInClash_37 rfl (lv_at hl 0 rfl) ?_
          refine va_get (D := (dC, dI)) (ci := 3) (v := .ref (ad 16)) (C := R_Nd) (T := F_Nd) (N := 10) hx hb htb ul_Nd hown hK hP 0 rfl rfl 3 (by decide) (htb _ mw_81) (fun _ h9 => h9) rfl d_Nd_isInClash_38 ?_
          refine lv_iload_n hx hb d_Nd_isInClash_41 rfl (lv_at hl 1 rfl) ?_
          refine ry_zald (D := (dC, dI)) (j := j) hx hb hK hP 4 2 rfl rfl (by omega) (by decide) d_Nd_isInClash_42 ?_
          exact W.zret (v := (((kco lo hi ST cnt cnt (fl cnt 1 KP) (cks lo hi ST (fl cnt 1 KP) cnt NB).2).1) j)) hx hb hr (bn (hkp j hj)) (fun t ht hW => ⟨⟨(((kco lo hi ST cnt cnt (fl cnt 1 KP) (cks lo hi ST (fl cnt 1 KP) cnt NB).2).1) j), (), rfl, rfl, by rw [ht]; exact hP, va_K.moved hW.alike hK, hD⟩, hS.F ht⟩) hS.2.2 d_Nd_isInClash_43
      · exact absurd h1 c_16

set_option maxHeartbeats 4000000 in
set_option maxRecDepth 100000 in
theorem c_Nd_add (l : Launch) (dC : Nat → ClassId) (dI : Nat → Nat → Nat) (cI cL cZ : ClassId) (ad : Nat → Nat) (LO ST HI KP NB : Nat → Int32) (unk cnt : Nat) (sv sk ck : Int32) (hunk : unk ≤ 10) (hcnt : cnt ≤ 30) (x k y : Int32) (h1 : cnt < 30) (sz : Nat) : Met l y_Nd_add (cw_Nd_add :: tb) (rmH 2 0 0) (va_Pc [.ref (ad 12), .int x, .int k, .int y] (wy_P (dC, dI) classes (wNd cI cZ ad LO ST HI KP NB unk cnt sv sk ck) (tyI cI cL cZ) sz)) (wy_Q ry_i (fun r (u : Unit) => r = nI cnt) (wy_B (dC, dI) classes (tyI cI cL cZ) (va_A (wNd cI cZ ad LO ST HI KP NB unk cnt sv sk ck) sz) (fun u : Unit => (wNd cI cZ ad (upd LO cnt (sdI x)) (upd ST cnt k) (upd HI cnt (sdI y)) KP NB unk (cnt + 1) sv 0 0))) (va_A (wNd cI cZ ad LO ST HI KP NB unk cnt sv sk ck) sz)) 0 0 (va_A (wNd cI cZ ad LO ST HI KP NB unk cnt sv sk ck) sz) := by
  refine Met.ofW (cc := b_Nd_add) (maxL := 4) (ret := (some .int)) (by decide +kernel) rfl ?_
  intro p e s m args below meth c s₁ B hml0 hv
  have C0 := cx_of B hml0 rfl
  obtain ⟨hx, hb, hr, hml, hown, htb, hlocks⟩ := id C0
  obtain ⟨rfl, hsz, hP, hK, hD0⟩ := hv
  subst hsz
  have hD := hD0.self (sz := s.heap.size)
  generalize hAe : va_A (wNd cI cZ ad LO ST HI KP NB unk cnt sv sk ck) s.heap.size = A at hD ⊢
  have hA : ∀ q : Nat, s.heap.size ≤ q → A q := fun q h => by rw [← hAe]; exact Or.inr h
  have hS : va_S A s.heap s.heap [] := va_S.rf
  have hl := lv_entry ([.ref (ad 12), .int x, .int k, .int y]) (n := 4) (Nat.le_of_ble_eq_true rfl)
  rw [lg_entry_eq]
  generalize (lg_sl ([.ref (ad 12), .int x, .int k, .int y]) ++ List.replicate (4 - (lg_sl ([.ref (ad 12), .int x, .int k, .int y])).length) Slot.unset).toArray = ls at hl ⊢
  have hl : lv_has ls 4 [(0, .ref (ad 12)), (1, .int x), (2, .int k), (3, .int y)] := hl
  have hP : va_P (dC, dI) classes [((ad 12), .inr (3, [.ref (ad 13), .ref (ad 14), .ref (ad 15), .ref (ad 16), .ref (ad 17), .int (nI unk), .int (nI cnt), .int sv, .int sk, .int ck])), ((ad 13), .inl (cI, 30, .inl LO)), ((ad 14), .inl (cI, 30, .inl ST)), ((ad 15), .inl (cI, 30, .inl HI)), ((ad 16), .inl (cZ, 30, .inl KP)), ((ad 17), .inl (cI, 11, .inl NB))] s.heap := hP
  have hD : va_D A [((ad 12), .inr (3, [.ref (ad 13), .ref (ad 14), .ref (ad 15), .ref (ad 16), .ref (ad 17), .int (nI unk), .int (nI cnt), .int sv, .int sk, .int ck])), ((ad 13), .inl (cI, 30, .inl LO)), ((ad 14), .inl (cI, 30, .inl ST)), ((ad 15), .inl (cI, 30, .inl HI)), ((ad 16), .inl (cZ, 30, .inl KP)), ((ad 17), .inl (cI, 11, .inl NB))] := hD
  have hA0 := hA
  refine lv_aload_n hx hb d_Nd_add_0 rfl (lv_at hl 0 rfl) ?_
  refine va_get (D := (dC, dI)) (ci := 3) (v := .ref (ad 13)) (C := R_Nd) (T := F_Nd) (N := 10) hx hb htb ul_Nd hown hK hP 0 rfl rfl 0 (by decide) (htb _ mw_78) (fun _ h9 => h9) rfl d_Nd_add_1 ?_
  refine lv_aload_n hx hb d_Nd_add_4 rfl (lv_at hl 0 rfl) ?_
  refine va_get (D := (dC, dI)) (ci := 3) (v := .int (nI cnt)) (C := R_Nd) (T := F_Nd) (N := 10) hx hb htb ul_Nd hown hK hP 0 rfl rfl 6 (by decide) (htb _ mw_84) (fun _ h9 => h9) rfl d_Nd_add_5 ?_
  refine lv_iload_n hx hb d_Nd_add_8 rfl (lv_at hl 1 rfl) ?_
  refine lv_iconst (v := (-1)) hx hb d_Nd_add_9 (by decide) ?_
  refine lv_icmp_ne (tgt := 18) hx hb d_Nd_add_10 (by decide) (fun c_10 => ?_) (fun c_10 => ?_)
  · refine lv_iload_n hx hb d_Nd_add_18 rfl (lv_at hl 1 rfl) ?_
    rw [show F0 m 19 ls [.int x, .int (nI cnt), .ref (ad 13)] = F0 m 19 ls [.int (sdI x), .int (nI cnt), .ref (ad 13)] from by rw [sdI, if_neg c_10]]
    refine ry_iast (D := (dC, dI)) (j := cnt) hx hb hK hP hD hS 1 0 rfl rfl (by omega) (by decide) d_Nd_add_19 (fun H locs hP hD hS => ?_)
    have hP : va_P (dC, dI) classes [((ad 12), .inr (3, [.ref (ad 13), .ref (ad 14), .ref (ad 15), .ref (ad 16), .ref (ad 17), .int (nI unk), .int (nI cnt), .int sv, .int sk, .int ck])), ((ad 13), .inl (cI, 30, .inl (upd LO cnt (sdI x)))), ((ad 14), .inl (cI, 30, .inl ST)), ((ad 15), .inl (cI, 30, .inl HI)), ((ad 16), .inl (cZ, 30, .inl KP)), ((ad 17), .inl (cI, 11, .inl NB))] H := hP
    have hD : va_D A [((ad 12), .inr (3, [.ref (ad 13), .ref (ad 14), .ref (ad 15), .ref (ad 16), .ref (ad 17), .int (nI unk), .int (nI cnt), .int sv, .int sk, .int ck])), ((ad 13), .inl (cI, 30, .inl (upd LO cnt (sdI x)))), ((ad 14), .inl (cI, 30, .inl ST)), ((ad 15), .inl (cI, 30, .inl HI)), ((ad 16), .inl (cZ, 30, .inl KP)), ((ad 17), .inl (cI, 11, .inl NB))] := hD
    refine lv_aload_n hx hb d_Nd_add_20 rfl (lv_at hl 0 rfl) ?_
    refine va_get (D := (dC, dI)) (ci := 3) (v := .ref (ad 14)) (C := R_Nd) (T := F_Nd) (N := 10) hx hb htb ul_Nd hown hK hP 0 rfl rfl 1 (by decide) (htb _ mw_79) (fun _ h9 => h9) rfl d_Nd_add_21 ?_
    refine lv_aload_n hx hb d_Nd_add_24 rfl (lv_at hl 0 rfl) ?_
    refine va_get (D := (dC, dI)) (ci := 3) (v := .int (nI cnt)) (C := R_Nd) (T := F_Nd) (N := 10) hx hb htb ul_Nd hown hK hP 0 rfl rfl 6 (by decide) (htb _ mw_84) (fun _ h9 => h9) rfl d_Nd_add_25 ?_
    refine lv_iload_n hx hb d_Nd_add_28 rfl (lv_at hl 2 rfl) ?_
    refine ry_iast (D := (dC, dI)) (j := cnt) hx hb hK hP hD hS 2 0 rfl rfl (by omega) (by decide) d_Nd_add_29 (fun H locs hP hD hS => ?_)
    have hP : va_P (dC, dI) classes [((ad 12), .inr (3, [.ref (ad 13), .ref (ad 14), .ref (ad 15), .ref (ad 16), .ref (ad 17), .int (nI unk), .int (nI cnt), .int sv, .int sk, .int ck])), ((ad 13), .inl (cI, 30, .inl (upd LO cnt (sdI x)))), ((ad 14), .inl (cI, 30, .inl (upd ST cnt k))), ((ad 15), .inl (cI, 30, .inl HI)), ((ad 16), .inl (cZ, 30, .inl KP)), ((ad 17), .inl (cI, 11, .inl NB))] H := hP
    have hD : va_D A [((ad 12), .inr (3, [.ref (ad 13), .ref (ad 14), .ref (ad 15), .ref (ad 16), .ref (ad 17), .int (nI unk), .int (nI cnt), .int sv, .int sk, .int ck])), ((ad 13), .inl (cI, 30, .inl (upd LO cnt (sdI x)))), ((ad 14), .inl (cI, 30, .inl (upd ST cnt k))), ((ad 15), .inl (cI, 30, .inl HI)), ((ad 16), .inl (cZ, 30, .inl KP)), ((ad 17), .inl (cI, 11, .inl NB))] := hD
    refine lv_aload_n hx hb d_Nd_add_30 rfl (lv_at hl 0 rfl) ?_
    refine va_get (D := (dC, dI)) (ci := 3) (v := .ref (ad 15)) (C := R_Nd) (T := F_Nd) (N := 10) hx hb htb ul_Nd hown hK hP 0 rfl rfl 2 (by decide) (htb _ mw_80) (fun _ h9 => h9) rfl d_Nd_add_31 ?_
    refine lv_aload_n hx hb d_Nd_add_34 rfl (lv_at hl 0 rfl) ?_
    refine va_get (D := (dC, dI)) (ci := 3) (v := .int (nI cnt)) (C := R_Nd) (T := F_Nd) (N := 10) hx hb htb ul_Nd hown hK hP 0 rfl rfl 6 (by decide) (htb _ mw_84) (fun _ h9 => h9) rfl d_Nd_add_35 ?_
    refine lv_iload_n hx hb d_Nd_add_38 rfl (lv_at hl 3 rfl) ?_
    refine lv_iconst (v := (-1)) hx hb d_Nd_add_39 (by decide) ?_
    refine lv_icmp_ne (tgt := 48) hx hb d_Nd_add_40 (by decide) (fun c_40 => ?_) (fun c_40 => ?_)
    · refine lv_iload_n hx hb d_Nd_add_48 rfl (lv_at hl 3 rfl) ?_
      rw [show F0 m 49 ls [.int y, .int (nI cnt), .ref (ad 15)] = F0 m 49 ls [.int (sdI y), .int (nI cnt), .ref (ad 15)] from by rw [sdI, if_neg c_40]]
      refine ry_iast (D := (dC, dI)) (j := cnt) hx hb hK hP hD hS 3 0 rfl rfl (by omega) (by decide) d_Nd_add_49 (fun H locs hP hD hS => ?_)
      have hP : va_P (dC, dI) classes [((ad 12), .inr (3, [.ref (ad 13), .ref (ad 14), .ref (ad 15), .ref (ad 16), .ref (ad 17), .int (nI unk), .int (nI cnt), .int sv, .int sk, .int ck])), ((ad 13), .inl (cI, 30, .inl (upd LO cnt (sdI x)))), ((ad 14), .inl (cI, 30, .inl (upd ST cnt k))), ((ad 15), .inl (cI, 30, .inl (upd HI cnt (sdI y)))), ((ad 16), .inl (cZ, 30, .inl KP)), ((ad 17), .inl (cI, 11, .inl NB))] H := hP
      have hD : va_D A [((ad 12), .inr (3, [.ref (ad 13), .ref (ad 14), .ref (ad 15), .ref (ad 16), .ref (ad 17), .int (nI unk), .int (nI cnt), .int sv, .int sk, .int ck])), ((ad 13), .inl (cI, 30, .inl (upd LO cnt (sdI x)))), ((ad 14), .inl (cI, 30, .inl (upd ST cnt k))), ((ad 15), .inl (cI, 30, .inl (upd HI cnt (sdI y)))), ((ad 16), .inl (cZ, 30, .inl KP)), ((ad 17), .inl (cI, 11, .inl NB))] := hD
      refine lv_aload_n hx hb d_Nd_add_50 rfl (lv_at hl 0 rfl) ?_
      refine lv_dup hx hb d_Nd_add_51 rfl ?_
      refine va_get (D := (dC, dI)) (ci := 3) (v := .int (nI cnt)) (C := R_Nd) (T := F_Nd) (N := 10) hx hb htb ul_Nd hown hK hP 0 rfl rfl 6 (by decide) (htb _ mw_84) (fun _ h9 => h9) rfl d_Nd_add_52 ?_
      refine lv_iconst (v := 1) hx hb d_Nd_add_55 (by decide) ?_
      refine lv_iadd hx hb d_Nd_add_56 ?_
      rw [nI_1]
      refine va_put (D := (dC, dI)) (ci := 3) (v := .int (nI (cnt + 1))) (ty := .int) (C := R_Nd) (T := F_Nd) (N := 10) hx hb htb ul_Nd t_Nd t_Nd_ok n_Nd hown hK hP hD hS 0 rfl rfl 6 (by decide) (htb _ mw_84) (fun _ h9 => h9) rfl (by decide +kernel) rfl rfl (Nat.le_of_ble_eq_true rfl) d_Nd_add_57 (fun H locs hP hD hS => ?_)
      have hP : va_P (dC, dI) classes [((ad 12), .inr (3, [.ref (ad 13), .ref (ad 14), .ref (ad 15), .ref (ad 16), .ref (ad 17), .int (nI unk), .int (nI (cnt + 1)), .int sv, .int sk, .int ck])), ((ad 13), .inl (cI, 30, .inl (upd LO cnt (sdI x)))), ((ad 14), .inl (cI, 30, .inl (upd ST cnt k))), ((ad 15), .inl (cI, 30, .inl (upd HI cnt (sdI y)))), ((ad 16), .inl (cZ, 30, .inl KP)), ((ad 17), .inl (cI, 11, .inl NB))] H := hP
      have hD : va_D A [((ad 12), .inr (3, [.ref (ad 13), .ref (ad 14), .ref (ad 15), .ref (ad 16), .ref (ad 17), .int (nI unk), .int (nI (cnt + 1)), .int sv, .int sk, .int ck])), ((ad 13), .inl (cI, 30, .inl (upd LO cnt (sdI x)))), ((ad 14), .inl (cI, 30, .inl (upd ST cnt k))), ((ad 15), .inl (cI, 30, .inl (upd HI cnt (sdI y)))), ((ad 16), .inl (cZ, 30, .inl KP)), ((ad 17), .inl (cI, 11, .inl NB))] := hD
      refine lv_aload_n hx hb d_Nd_add_60 rfl (lv_at hl 0 rfl) ?_
      refine wy_callV (n := 0) (wr := []) (As := []) (rest := []) ⟨hx, hb, hml, hown, htb⟩ (c_Nd_forget l dC dI cI cL cZ ad (upd LO cnt (sdI x)) (upd ST cnt k) (upd HI cnt (sdI y)) KP NB unk (cnt + 1) sv sk ck hunk (by omega) H.size) (gV mw_203 mw_205 mp_6 mw_4 mc_Nd_forget) rfl rfl (by decide +kernel) ⟨Nat.le_of_ble_eq_true rfl, Nat.le_of_ble_eq_true rfl⟩ hP hD hS hA hK [0, 1, 2, 3, 4, 5] [] rfl rfl (by decide) (by decide) (hP.sub [0, 1, 2, 3, 4, 5] rfl) ((hD.sub [0, 1, 2, 3, 4, 5] (by decide) rfl).weaken (fun _ _ _ _ => trivial)) (ci := 3) (q0 := 0) rfl rfl rfl rfl hl.1 rfl (Nat.le_of_ble_eq_true rfl) d_Nd_add_61 ⟨Nat.le_of_ble_eq_true rfl, Nat.le_of_ble_eq_true rfl⟩ (fun r u H locs hpost hP hD hS => ?_)
      have hP : va_P (dC, dI) classes [((ad 12), .inr (3, [.ref (ad 13), .ref (ad 14), .ref (ad 15), .ref (ad 16), .ref (ad 17), .int (nI unk), .int (nI (cnt + 1)), .int sv, .int 0, .int 0])), ((ad 13), .inl (cI, 30, .inl (upd LO cnt (sdI x)))), ((ad 14), .inl (cI, 30, .inl (upd ST cnt k))), ((ad 15), .inl (cI, 30, .inl (upd HI cnt (sdI y)))), ((ad 16), .inl (cZ, 30, .inl KP)), ((ad 17), .inl (cI, 11, .inl NB))] H := hP
      have hD : va_D A [((ad 12), .inr (3, [.ref (ad 13), .ref (ad 14), .ref (ad 15), .ref (ad 16), .ref (ad 17), .int (nI unk), .int (nI (cnt + 1)), .int sv, .int 0, .int 0])), ((ad 13), .inl (cI, 30, .inl (upd LO cnt (sdI x)))), ((ad 14), .inl (cI, 30, .inl (upd ST cnt k))), ((ad 15), .inl (cI, 30, .inl (upd HI cnt (sdI y)))), ((ad 16), .inl (cZ, 30, .inl KP)), ((ad 17), .inl (cI, 11, .inl NB))] := hD
      refine W.eq (g2 := F0 m 64 ls []) rfl ?_
      refine lv_aload_n hx hb d_Nd_add_64 rfl (lv_at hl 0 rfl) ?_
      refine va_get (D := (dC, dI)) (ci := 3) (v := .int (nI (cnt + 1))) (C := R_Nd) (T := F_Nd) (N := 10) hx hb htb ul_Nd hown hK hP 0 rfl rfl 6 (by decide) (htb _ mw_84) (fun _ h9 => h9) rfl d_Nd_add_65 ?_
      refine lv_iconst (v := 1) hx hb d_Nd_add_68 (by decide) ?_
      refine lv_isub hx hb d_Nd_add_69 ?_
      rw [nI_pred]
      exact W.iret (v := (nI cnt)) hx hb hr (fun t ht hW => ⟨⟨(nI cnt), (), rfl, rfl, by rw [ht]; exact hP, va_K.moved hW.alike hK, hD⟩, hS.F ht⟩) hS.2.2 d_Nd_add_70
    · refine lv_bipush (v := 10) hx hb d_Nd_add_43 (by decide) ?_
      refine lv_goto (tgt := 49) hx hb d_Nd_add_45 (by decide) ?_
      rw [show (10 : Int32) = sdI y from by rw [sdI, if_pos c_40]]
      refine ry_iast (D := (dC, dI)) (j := cnt) hx hb hK hP hD hS 3 0 rfl rfl (by omega) (by decide) d_Nd_add_49 (fun H locs hP hD hS => ?_)
      have hP : va_P (dC, dI) classes [((ad 12), .inr (3, [.ref (ad 13), .ref (ad 14), .ref (ad 15), .ref (ad 16), .ref (ad 17), .int (nI unk), .int (nI cnt), .int sv, .int sk, .int ck])), ((ad 13), .inl (cI, 30, .inl (upd LO cnt (sdI x)))), ((ad 14), .inl (cI, 30, .inl (upd ST cnt k))), ((ad 15), .inl (cI, 30, .inl (upd HI cnt (sdI y)))), ((ad 16), .inl (cZ, 30, .inl KP)), ((ad 17), .inl (cI, 11, .inl NB))] H := hP
      have hD : va_D A [((ad 12), .inr (3, [.ref (ad 13), .ref (ad 14), .ref (ad 15), .ref (ad 16), .ref (ad 17), .int (nI unk), .int (nI cnt), .int sv, .int sk, .int ck])), ((ad 13), .inl (cI, 30, .inl (upd LO cnt (sdI x)))), ((ad 14), .inl (cI, 30, .inl (upd ST cnt k))), ((ad 15), .inl (cI, 30, .inl (upd HI cnt (sdI y)))), ((ad 16), .inl (cZ, 30, .inl KP)), ((ad 17), .inl (cI, 11, .inl NB))] := hD
      refine lv_aload_n hx hb d_Nd_add_50 rfl (lv_at hl 0 rfl) ?_
      refine lv_dup hx hb d_Nd_add_51 rfl ?_
      refine va_get (D := (dC, dI)) (ci := 3) (v := .int (nI cnt)) (C := R_Nd) (T := F_Nd) (N := 10) hx hb htb ul_Nd hown hK hP 0 rfl rfl 6 (by decide) (htb _ mw_84) (fun _ h9 => h9) rfl d_Nd_add_52 ?_
      refine lv_iconst (v := 1) hx hb d_Nd_add_55 (by decide) ?_
      refine lv_iadd hx hb d_Nd_add_56 ?_
      rw [nI_1]
      refine va_put (D := (dC, dI)) (ci := 3) (v := .int (nI (cnt + 1))) (ty := .int) (C := R_Nd) (T := F_Nd) (N := 10) hx hb htb ul_Nd t_Nd t_Nd_ok n_Nd hown hK hP hD hS 0 rfl rfl 6 (by decide) (htb _ mw_84) (fun _ h9 => h9) rfl (by decide +kernel) rfl rfl (Nat.le_of_ble_eq_true rfl) d_Nd_add_57 (fun H locs hP hD hS => ?_)
      have hP : va_P (dC, dI) classes [((ad 12), .inr (3, [.ref (ad 13), .ref (ad 14), .ref (ad 15), .ref (ad 16), .ref (ad 17), .int (nI unk), .int (nI (cnt + 1)), .int sv, .int sk, .int ck])), ((ad 13), .inl (cI, 30, .inl (upd LO cnt (sdI x)))), ((ad 14), .inl (cI, 30, .inl (upd ST cnt k))), ((ad 15), .inl (cI, 30, .inl (upd HI cnt (sdI y)))), ((ad 16), .inl (cZ, 30, .inl KP)), ((ad 17), .inl (cI, 11, .inl NB))] H := hP
      have hD : va_D A [((ad 12), .inr (3, [.ref (ad 13), .ref (ad 14), .ref (ad 15), .ref (ad 16), .ref (ad 17), .int (nI unk), .int (nI (cnt + 1)), .int sv, .int sk, .int ck])), ((ad 13), .inl (cI, 30, .inl (upd LO cnt (sdI x)))), ((ad 14), .inl (cI, 30, .inl (upd ST cnt k))), ((ad 15), .inl (cI, 30, .inl (upd HI cnt (sdI y)))), ((ad 16), .inl (cZ, 30, .inl KP)), ((ad 17), .inl (cI, 11, .inl NB))] := hD
      refine lv_aload_n hx hb d_Nd_add_60 rfl (lv_at hl 0 rfl) ?_
      refine wy_callV (n := 0) (wr := []) (As := []) (rest := []) ⟨hx, hb, hml, hown, htb⟩ (c_Nd_forget l dC dI cI cL cZ ad (upd LO cnt (sdI x)) (upd ST cnt k) (upd HI cnt (sdI y)) KP NB unk (cnt + 1) sv sk ck hunk (by omega) H.size) (gV mw_203 mw_205 mp_6 mw_4 mc_Nd_forget) rfl rfl (by decide +kernel) ⟨Nat.le_of_ble_eq_true rfl, Nat.le_of_ble_eq_true rfl⟩ hP hD hS hA hK [0, 1, 2, 3, 4, 5] [] rfl rfl (by decide) (by decide) (hP.sub [0, 1, 2, 3, 4, 5] rfl) ((hD.sub [0, 1, 2, 3, 4, 5] (by decide) rfl).weaken (fun _ _ _ _ => trivial)) (ci := 3) (q0 := 0) rfl rfl rfl rfl hl.1 rfl (Nat.le_of_ble_eq_true rfl) d_Nd_add_61 ⟨Nat.le_of_ble_eq_true rfl, Nat.le_of_ble_eq_true rfl⟩ (fun r u H locs hpost hP hD hS => ?_)
      have hP : va_P (dC, dI) classes [((ad 12), .inr (3, [.ref (ad 13), .ref (ad 14), .ref (ad 15), .ref (ad 16), .ref (ad 17), .int (nI unk), .int (nI (cnt + 1)), .int sv, .int 0, .int 0])), ((ad 13), .inl (cI, 30, .inl (upd LO cnt (sdI x)))), ((ad 14), .inl (cI, 30, .inl (upd ST cnt k))), ((ad 15), .inl (cI, 30, .inl (upd HI cnt (sdI y)))), ((ad 16), .inl (cZ, 30, .inl KP)), ((ad 17), .inl (cI, 11, .inl NB))] H := hP
      have hD : va_D A [((ad 12), .inr (3, [.ref (ad 13), .ref (ad 14), .ref (ad 15), .ref (ad 16), .ref (ad 17), .int (nI unk), .int (nI (cnt + 1)), .int sv, .int 0, .int 0])), ((ad 13), .inl (cI, 30, .inl (upd LO cnt (sdI x)))), ((ad 14), .inl (cI, 30, .inl (upd ST cnt k))), ((ad 15), .inl (cI, 30, .inl (upd HI cnt (sdI y)))), ((ad 16), .inl (cZ, 30, .inl KP)), ((ad 17), .inl (cI, 11, .inl NB))] := hD
      refine W.eq (g2 := F0 m 64 ls []) rfl ?_
      refine lv_aload_n hx hb d_Nd_add_64 rfl (lv_at hl 0 rfl) ?_
      refine va_get (D := (dC, dI)) (ci := 3) (v := .int (nI (cnt + 1))) (C := R_Nd) (T := F_Nd) (N := 10) hx hb htb ul_Nd hown hK hP 0 rfl rfl 6 (by decide) (htb _ mw_84) (fun _ h9 => h9) rfl d_Nd_add_65 ?_
      refine lv_iconst (v := 1) hx hb d_Nd_add_68 (by decide) ?_
      refine lv_isub hx hb d_Nd_add_69 ?_
      rw [nI_pred]
      exact W.iret (v := (nI cnt)) hx hb hr (fun t ht hW => ⟨⟨(nI cnt), (), rfl, rfl, by rw [ht]; exact hP, va_K.moved hW.alike hK, hD⟩, hS.F ht⟩) hS.2.2 d_Nd_add_70
  · refine lv_bipush (v := 10) hx hb d_Nd_add_13 (by decide) ?_
    refine lv_goto (tgt := 19) hx hb d_Nd_add_15 (by decide) ?_
    rw [show (10 : Int32) = sdI x from by rw [sdI, if_pos c_10]]
    refine ry_iast (D := (dC, dI)) (j := cnt) hx hb hK hP hD hS 1 0 rfl rfl (by omega) (by decide) d_Nd_add_19 (fun H locs hP hD hS => ?_)
    have hP : va_P (dC, dI) classes [((ad 12), .inr (3, [.ref (ad 13), .ref (ad 14), .ref (ad 15), .ref (ad 16), .ref (ad 17), .int (nI unk), .int (nI cnt), .int sv, .int sk, .int ck])), ((ad 13), .inl (cI, 30, .inl (upd LO cnt (sdI x)))), ((ad 14), .inl (cI, 30, .inl ST)), ((ad 15), .inl (cI, 30, .inl HI)), ((ad 16), .inl (cZ, 30, .inl KP)), ((ad 17), .inl (cI, 11, .inl NB))] H := hP
    have hD : va_D A [((ad 12), .inr (3, [.ref (ad 13), .ref (ad 14), .ref (ad 15), .ref (ad 16), .ref (ad 17), .int (nI unk), .int (nI cnt), .int sv, .int sk, .int ck])), ((ad 13), .inl (cI, 30, .inl (upd LO cnt (sdI x)))), ((ad 14), .inl (cI, 30, .inl ST)), ((ad 15), .inl (cI, 30, .inl HI)), ((ad 16), .inl (cZ, 30, .inl KP)), ((ad 17), .inl (cI, 11, .inl NB))] := hD
    refine lv_aload_n hx hb d_Nd_add_20 rfl (lv_at hl 0 rfl) ?_
    refine va_get (D := (dC, dI)) (ci := 3) (v := .ref (ad 14)) (C := R_Nd) (T := F_Nd) (N := 10) hx hb htb ul_Nd hown hK hP 0 rfl rfl 1 (by decide) (htb _ mw_79) (fun _ h9 => h9) rfl d_Nd_add_21 ?_
    refine lv_aload_n hx hb d_Nd_add_24 rfl (lv_at hl 0 rfl) ?_
    refine va_get (D := (dC, dI)) (ci := 3) (v := .int (nI cnt)) (C := R_Nd) (T := F_Nd) (N := 10) hx hb htb ul_Nd hown hK hP 0 rfl rfl 6 (by decide) (htb _ mw_84) (fun _ h9 => h9) rfl d_Nd_add_25 ?_
    refine lv_iload_n hx hb d_Nd_add_28 rfl (lv_at hl 2 rfl) ?_
    refine ry_iast (D := (dC, dI)) (j := cnt) hx hb hK hP hD hS 2 0 rfl rfl (by omega) (by decide) d_Nd_add_29 (fun H locs hP hD hS => ?_)
    have hP : va_P (dC, dI) classes [((ad 12), .inr (3, [.ref (ad 13), .ref (ad 14), .ref (ad 15), .ref (ad 16), .ref (ad 17), .int (nI unk), .int (nI cnt), .int sv, .int sk, .int ck])), ((ad 13), .inl (cI, 30, .inl (upd LO cnt (sdI x)))), ((ad 14), .inl (cI, 30, .inl (upd ST cnt k))), ((ad 15), .inl (cI, 30, .inl HI)), ((ad 16), .inl (cZ, 30, .inl KP)), ((ad 17), .inl (cI, 11, .inl NB))] H := hP
    have hD : va_D A [((ad 12), .inr (3, [.ref (ad 13), .ref (ad 14), .ref (ad 15), .ref (ad 16), .ref (ad 17), .int (nI unk), .int (nI cnt), .int sv, .int sk, .int ck])), ((ad 13), .inl (cI, 30, .inl (upd LO cnt (sdI x)))), ((ad 14), .inl (cI, 30, .inl (upd ST cnt k))), ((ad 15), .inl (cI, 30, .inl HI)), ((ad 16), .inl (cZ, 30, .inl KP)), ((ad 17), .inl (cI, 11, .inl NB))] := hD
    refine lv_aload_n hx hb d_Nd_add_30 rfl (lv_at hl 0 rfl) ?_
    refine va_get (D := (dC, dI)) (ci := 3) (v := .ref (ad 15)) (C := R_Nd) (T := F_Nd) (N := 10) hx hb htb ul_Nd hown hK hP 0 rfl rfl 2 (by decide) (htb _ mw_80) (fun _ h9 => h9) rfl d_Nd_add_31 ?_
    refine lv_aload_n hx hb d_Nd_add_34 rfl (lv_at hl 0 rfl) ?_
    refine va_get (D := (dC, dI)) (ci := 3) (v := .int (nI cnt)) (C := R_Nd) (T := F_Nd) (N := 10) hx hb htb ul_Nd hown hK hP 0 rfl rfl 6 (by decide) (htb _ mw_84) (fun _ h9 => h9) rfl d_Nd_add_35 ?_
    refine lv_iload_n hx hb d_Nd_add_38 rfl (lv_at hl 3 rfl) ?_
    refine lv_iconst (v := (-1)) hx hb d_Nd_add_39 (by decide) ?_
    refine lv_icmp_ne (tgt := 48) hx hb d_Nd_add_40 (by decide) (fun c_40 => ?_) (fun c_40 => ?_)
    · refine lv_iload_n hx hb d_Nd_add_48 rfl (lv_at hl 3 rfl) ?_
      rw [show F0 m 49 ls [.int y, .int (nI cnt), .ref (ad 15)] = F0 m 49 ls [.int (sdI y), .int (nI cnt), .ref (ad 15)] from by rw [sdI, if_neg c_40]]
      refine ry_iast (D := (dC, dI)) (j := cnt) hx hb hK hP hD hS 3 0 rfl rfl (by omega) (by decide) d_Nd_add_49 (fun H locs hP hD hS => ?_)
      have hP : va_P (dC, dI) classes [((ad 12), .inr (3, [.ref (ad 13), .ref (ad 14), .ref (ad 15), .ref (ad 16), .ref (ad 17), .int (nI unk), .int (nI cnt), .int sv, .int sk, .int ck])), ((ad 13), .inl (cI, 30, .inl (upd LO cnt (sdI x)))), ((ad 14), .inl (cI, 30, .inl (upd ST cnt k))), ((ad 15), .inl (cI, 30, .inl (upd HI cnt (sdI y)))), ((ad 16), .inl (cZ, 30, .inl KP)), ((ad 17), .inl (cI, 11, .inl NB))] H := hP
      have hD : va_D A [((ad 12), .inr (3, [.ref (ad 13), .ref (ad 14), .ref (ad 15), .ref (ad 16), .ref (ad 17), .int (nI unk), .int (nI cnt), .int sv, .int sk, .int ck])), ((ad 13), .inl (cI, 30, .inl (upd LO cnt (sdI x)))), ((ad 14), .inl (cI, 30, .inl (upd ST cnt k))), ((ad 15), .inl (cI, 30, .inl (upd HI cnt (sdI y)))), ((ad 16), .inl (cZ, 30, .inl KP)), ((ad 17), .inl (cI, 11, .inl NB))] := hD
      refine lv_aload_n hx hb d_Nd_add_50 rfl (lv_at hl 0 rfl) ?_
      refine lv_dup hx hb d_Nd_add_51 rfl ?_
      refine va_get (D := (dC, dI)) (ci := 3) (v := .int (nI cnt)) (C := R_Nd) (T := F_Nd) (N := 10) hx hb htb ul_Nd hown hK hP 0 rfl rfl 6 (by decide) (htb _ mw_84) (fun _ h9 => h9) rfl d_Nd_add_52 ?_
      refine lv_iconst (v := 1) hx hb d_Nd_add_55 (by decide) ?_
      refine lv_iadd hx hb d_Nd_add_56 ?_
      rw [nI_1]
      refine va_put (D := (dC, dI)) (ci := 3) (v := .int (nI (cnt + 1))) (ty := .int) (C := R_Nd) (T := F_Nd) (N := 10) hx hb htb ul_Nd t_Nd t_Nd_ok n_Nd hown hK hP hD hS 0 rfl rfl 6 (by decide) (htb _ mw_84) (fun _ h9 => h9) rfl (by decide +kernel) rfl rfl (Nat.le_of_ble_eq_true rfl) d_Nd_add_57 (fun H locs hP hD hS => ?_)
      have hP : va_P (dC, dI) classes [((ad 12), .inr (3, [.ref (ad 13), .ref (ad 14), .ref (ad 15), .ref (ad 16), .ref (ad 17), .int (nI unk), .int (nI (cnt + 1)), .int sv, .int sk, .int ck])), ((ad 13), .inl (cI, 30, .inl (upd LO cnt (sdI x)))), ((ad 14), .inl (cI, 30, .inl (upd ST cnt k))), ((ad 15), .inl (cI, 30, .inl (upd HI cnt (sdI y)))), ((ad 16), .inl (cZ, 30, .inl KP)), ((ad 17), .inl (cI, 11, .inl NB))] H := hP
      have hD : va_D A [((ad 12), .inr (3, [.ref (ad 13), .ref (ad 14), .ref (ad 15), .ref (ad 16), .ref (ad 17), .int (nI unk), .int (nI (cnt + 1)), .int sv, .int sk, .int ck])), ((ad 13), .inl (cI, 30, .inl (upd LO cnt (sdI x)))), ((ad 14), .inl (cI, 30, .inl (upd ST cnt k))), ((ad 15), .inl (cI, 30, .inl (upd HI cnt (sdI y)))), ((ad 16), .inl (cZ, 30, .inl KP)), ((ad 17), .inl (cI, 11, .inl NB))] := hD
      refine lv_aload_n hx hb d_Nd_add_60 rfl (lv_at hl 0 rfl) ?_
      refine wy_callV (n := 0) (wr := []) (As := []) (rest := []) ⟨hx, hb, hml, hown, htb⟩ (c_Nd_forget l dC dI cI cL cZ ad (upd LO cnt (sdI x)) (upd ST cnt k) (upd HI cnt (sdI y)) KP NB unk (cnt + 1) sv sk ck hunk (by omega) H.size) (gV mw_203 mw_205 mp_6 mw_4 mc_Nd_forget) rfl rfl (by decide +kernel) ⟨Nat.le_of_ble_eq_true rfl, Nat.le_of_ble_eq_true rfl⟩ hP hD hS hA hK [0, 1, 2, 3, 4, 5] [] rfl rfl (by decide) (by decide) (hP.sub [0, 1, 2, 3, 4, 5] rfl) ((hD.sub [0, 1, 2, 3, 4, 5] (by decide) rfl).weaken (fun _ _ _ _ => trivial)) (ci := 3) (q0 := 0) rfl rfl rfl rfl hl.1 rfl (Nat.le_of_ble_eq_true rfl) d_Nd_add_61 ⟨Nat.le_of_ble_eq_true rfl, Nat.le_of_ble_eq_true rfl⟩ (fun r u H locs hpost hP hD hS => ?_)
      have hP : va_P (dC, dI) classes [((ad 12), .inr (3, [.ref (ad 13), .ref (ad 14), .ref (ad 15), .ref (ad 16), .ref (ad 17), .int (nI unk), .int (nI (cnt + 1)), .int sv, .int 0, .int 0])), ((ad 13), .inl (cI, 30, .inl (upd LO cnt (sdI x)))), ((ad 14), .inl (cI, 30, .inl (upd ST cnt k))), ((ad 15), .inl (cI, 30, .inl (upd HI cnt (sdI y)))), ((ad 16), .inl (cZ, 30, .inl KP)), ((ad 17), .inl (cI, 11, .inl NB))] H := hP
      have hD : va_D A [((ad 12), .inr (3, [.ref (ad 13), .ref (ad 14), .ref (ad 15), .ref (ad 16), .ref (ad 17), .int (nI unk), .int (nI (cnt + 1)), .int sv, .int 0, .int 0])), ((ad 13), .inl (cI, 30, .inl (upd LO cnt (sdI x)))), ((ad 14), .inl (cI, 30, .inl (upd ST cnt k))), ((ad 15), .inl (cI, 30, .inl (upd HI cnt (sdI y)))), ((ad 16), .inl (cZ, 30, .inl KP)), ((ad 17), .inl (cI, 11, .inl NB))] := hD
      refine W.eq (g2 := F0 m 64 ls []) rfl ?_
      refine lv_aload_n hx hb d_Nd_add_64 rfl (lv_at hl 0 rfl) ?_
      refine va_get (D := (dC, dI)) (ci := 3) (v := .int (nI (cnt + 1))) (C := R_Nd) (T := F_Nd) (N := 10) hx hb htb ul_Nd hown hK hP 0 rfl rfl 6 (by decide) (htb _ mw_84) (fun _ h9 => h9) rfl d_Nd_add_65 ?_
      refine lv_iconst (v := 1) hx hb d_Nd_add_68 (by decide) ?_
      refine lv_isub hx hb d_Nd_add_69 ?_
      rw [nI_pred]
      exact W.iret (v := (nI cnt)) hx hb hr (fun t ht hW => ⟨⟨(nI cnt), (), rfl, rfl, by rw [ht]; exact hP, va_K.moved hW.alike hK, hD⟩, hS.F ht⟩) hS.2.2 d_Nd_add_70
    · refine lv_bipush (v := 10) hx hb d_Nd_add_43 (by decide) ?_
      refine lv_goto (tgt := 49) hx hb d_Nd_add_45 (by decide) ?_
      rw [show (10 : Int32) = sdI y from by rw [sdI, if_pos c_40]]
      refine ry_iast (D := (dC, dI)) (j := cnt) hx hb hK hP hD hS 3 0 rfl rfl (by omega) (by decide) d_Nd_add_49 (fun H locs hP hD hS => ?_)
      have hP : va_P (dC, dI) classes [((ad 12), .inr (3, [.ref (ad 13), .ref (ad 14), .ref (ad 15), .ref (ad 16), .ref (ad 17), .int (nI unk), .int (nI cnt), .int sv, .int sk, .int ck])), ((ad 13), .inl (cI, 30, .inl (upd LO cnt (sdI x)))), ((ad 14), .inl (cI, 30, .inl (upd ST cnt k))), ((ad 15), .inl (cI, 30, .inl (upd HI cnt (sdI y)))), ((ad 16), .inl (cZ, 30, .inl KP)), ((ad 17), .inl (cI, 11, .inl NB))] H := hP
      have hD : va_D A [((ad 12), .inr (3, [.ref (ad 13), .ref (ad 14), .ref (ad 15), .ref (ad 16), .ref (ad 17), .int (nI unk), .int (nI cnt), .int sv, .int sk, .int ck])), ((ad 13), .inl (cI, 30, .inl (upd LO cnt (sdI x)))), ((ad 14), .inl (cI, 30, .inl (upd ST cnt k))), ((ad 15), .inl (cI, 30, .inl (upd HI cnt (sdI y)))), ((ad 16), .inl (cZ, 30, .inl KP)), ((ad 17), .inl (cI, 11, .inl NB))] := hD
      refine lv_aload_n hx hb d_Nd_add_50 rfl (lv_at hl 0 rfl) ?_
      refine lv_dup hx hb d_Nd_add_51 rfl ?_
      refine va_get (D := (dC, dI)) (ci := 3) (v := .int (nI cnt)) (C := R_Nd) (T := F_Nd) (N := 10) hx hb htb ul_Nd hown hK hP 0 rfl rfl 6 (by decide) (htb _ mw_84) (fun _ h9 => h9) rfl d_Nd_add_52 ?_
      refine lv_iconst (v := 1) hx hb d_Nd_add_55 (by decide) ?_
      refine lv_iadd hx hb d_Nd_add_56 ?_
      rw [nI_1]
      refine va_put (D := (dC, dI)) (ci := 3) (v := .int (nI (cnt + 1))) (ty := .int) (C := R_Nd) (T := F_Nd) (N := 10) hx hb htb ul_Nd t_Nd t_Nd_ok n_Nd hown hK hP hD hS 0 rfl rfl 6 (by decide) (htb _ mw_84) (fun _ h9 => h9) rfl (by decide +kernel) rfl rfl (Nat.le_of_ble_eq_true rfl) d_Nd_add_57 (fun H locs hP hD hS => ?_)
      have hP : va_P (dC, dI) classes [((ad 12), .inr (3, [.ref (ad 13), .ref (ad 14), .ref (ad 15), .ref (ad 16), .ref (ad 17), .int (nI unk), .int (nI (cnt + 1)), .int sv, .int sk, .int ck])), ((ad 13), .inl (cI, 30, .inl (upd LO cnt (sdI x)))), ((ad 14), .inl (cI, 30, .inl (upd ST cnt k))), ((ad 15), .inl (cI, 30, .inl (upd HI cnt (sdI y)))), ((ad 16), .inl (cZ, 30, .inl KP)), ((ad 17), .inl (cI, 11, .inl NB))] H := hP
      have hD : va_D A [((ad 12), .inr (3, [.ref (ad 13), .ref (ad 14), .ref (ad 15), .ref (ad 16), .ref (ad 17), .int (nI unk), .int (nI (cnt + 1)), .int sv, .int sk, .int ck])), ((ad 13), .inl (cI, 30, .inl (upd LO cnt (sdI x)))), ((ad 14), .inl (cI, 30, .inl (upd ST cnt k))), ((ad 15), .inl (cI, 30, .inl (upd HI cnt (sdI y)))), ((ad 16), .inl (cZ, 30, .inl KP)), ((ad 17), .inl (cI, 11, .inl NB))] := hD
      refine lv_aload_n hx hb d_Nd_add_60 rfl (lv_at hl 0 rfl) ?_
      refine wy_callV (n := 0) (wr := []) (As := []) (rest := []) ⟨hx, hb, hml, hown, htb⟩ (c_Nd_forget l dC dI cI cL cZ ad (upd LO cnt (sdI x)) (upd ST cnt k) (upd HI cnt (sdI y)) KP NB unk (cnt + 1) sv sk ck hunk (by omega) H.size) (gV mw_203 mw_205 mp_6 mw_4 mc_Nd_forget) rfl rfl (by decide +kernel) ⟨Nat.le_of_ble_eq_true rfl, Nat.le_of_ble_eq_true rfl⟩ hP hD hS hA hK [0, 1, 2, 3, 4, 5] [] rfl rfl (by decide) (by decide) (hP.sub [0, 1, 2, 3, 4, 5] rfl) ((hD.sub [0, 1, 2, 3, 4, 5] (by decide) rfl).weaken (fun _ _ _ _ => trivial)) (ci := 3) (q0 := 0) rfl rfl rfl rfl hl.1 rfl (Nat.le_of_ble_eq_true rfl) d_Nd_add_61 ⟨Nat.le_of_ble_eq_true rfl, Nat.le_of_ble_eq_true rfl⟩ (fun r u H locs hpost hP hD hS => ?_)
      have hP : va_P (dC, dI) classes [((ad 12), .inr (3, [.ref (ad 13), .ref (ad 14), .ref (ad 15), .ref (ad 16), .ref (ad 17), .int (nI unk), .int (nI (cnt + 1)), .int sv, .int 0, .int 0])), ((ad 13), .inl (cI, 30, .inl (upd LO cnt (sdI x)))), ((ad 14), .inl (cI, 30, .inl (upd ST cnt k))), ((ad 15), .inl (cI, 30, .inl (upd HI cnt (sdI y)))), ((ad 16), .inl (cZ, 30, .inl KP)), ((ad 17), .inl (cI, 11, .inl NB))] H := hP
      have hD : va_D A [((ad 12), .inr (3, [.ref (ad 13), .ref (ad 14), .ref (ad 15), .ref (ad 16), .ref (ad 17), .int (nI unk), .int (nI (cnt + 1)), .int sv, .int 0, .int 0])), ((ad 13), .inl (cI, 30, .inl (upd LO cnt (sdI x)))), ((ad 14), .inl (cI, 30, .inl (upd ST cnt k))), ((ad 15), .inl (cI, 30, .inl (upd HI cnt (sdI y)))), ((ad 16), .inl (cZ, 30, .inl KP)), ((ad 17), .inl (cI, 11, .inl NB))] := hD
      refine W.eq (g2 := F0 m 64 ls []) rfl ?_
      refine lv_aload_n hx hb d_Nd_add_64 rfl (lv_at hl 0 rfl) ?_
      refine va_get (D := (dC, dI)) (ci := 3) (v := .int (nI (cnt + 1))) (C := R_Nd) (T := F_Nd) (N := 10) hx hb htb ul_Nd hown hK hP 0 rfl rfl 6 (by decide) (htb _ mw_84) (fun _ h9 => h9) rfl d_Nd_add_65 ?_
      refine lv_iconst (v := 1) hx hb d_Nd_add_68 (by decide) ?_
      refine lv_isub hx hb d_Nd_add_69 ?_
      rw [nI_pred]
      exact W.iret (v := (nI cnt)) hx hb hr (fun t ht hW => ⟨⟨(nI cnt), (), rfl, rfl, by rw [ht]; exact hP, va_K.moved hW.alike hK, hD⟩, hS.F ht⟩) hS.2.2 d_Nd_add_70
