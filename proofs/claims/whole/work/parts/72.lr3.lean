set_option maxHeartbeats 4000000 in
set_option maxRecDepth 100000 in
theorem c0_LR_unknown (l : Launch) (htr : ∀ e, l.admits e → e.platform.stackTraces = false) (dC : Nat → ClassId) (dI : Nat → Nat → Nat) (cI cL cZ : ClassId) (ad : Nat → Nat) (LO ST HI KP NB : Nat → Int32) (unk cnt : Nat) (sv sk ck : Int32) (hunk : unk ≤ 10) (hcnt : cnt ≤ 30) (h0 : unk = 10) (sz : Nat) : wx_Met l y_LR_unknown (cw_LR_unknown :: tb) (rmH 8 1 6) (va_Pc [.ref (ad 0)] (wz_P (dC, dI) classes (wLN cI cZ ad LO ST HI KP NB unk cnt sv sk ck) (tyI cI cL cZ) sz)) (wx_Q ry_i (fun r (u : Unit) => False) (fun X (u : Unit) => X = "java/lang/IllegalStateException") (wy_B (dC, dI) classes (tyI cI cL cZ) (va_A (wLN cI cZ ad LO ST HI KP NB unk cnt sv sk ck) sz) (fun u : Unit => (wLN cI cZ ad LO ST HI KP NB unk cnt sv sk ck))) (va_A (wLN cI cZ ad LO ST HI KP NB unk cnt sv sk ck) sz)) (va_A (wLN cI cZ ad LO ST HI KP NB unk cnt sv sk ck) sz) := by
  refine wx_ofW (cc := b_LR_unknown) (maxL := 1) (ret := (some .int)) (by decide +kernel) rfl ?_
  intro p e s m args below meth c s₁ B hml0 ht0 hv
  have C0 := cx_of B hml0 rfl
  obtain ⟨hx, hb, hr, hml, hown, htb, hlocks⟩ := id C0
  obtain ⟨rfl, ⟨hsz, hP, hK, hD0⟩, hth, hst⟩ := hv
  subst hsz
  have hD := hD0.self (sz := s.heap.size)
  generalize hAe : va_A (wLN cI cZ ad LO ST HI KP NB unk cnt sv sk ck) s.heap.size = A at hD hth ⊢
  have hA : ∀ q : Nat, s.heap.size ≤ q → A q := fun q h => by rw [← hAe]; exact Or.inr h
  have hS : va_S A s.heap s.heap [] := va_S.rf
  have hl := lv_entry ([.ref (ad 0)]) (n := 1) (Nat.le_of_ble_eq_true rfl)
  rw [lg_entry_eq]
  generalize (lg_sl ([.ref (ad 0)]) ++ List.replicate (1 - (lg_sl ([.ref (ad 0)])).length) Slot.unset).toArray = ls at hl ⊢
  have hl : lv_has ls 1 [(0, .ref (ad 0))] := hl
  have hP : va_P (dC, dI) classes [((ad 0), .inr (0, [.ref (ad 1), .ref (ad 9), .ref (ad 12)])), ((ad 12), .inr (3, [.ref (ad 13), .ref (ad 14), .ref (ad 15), .ref (ad 16), .ref (ad 17), .int (nI unk), .int (nI cnt), .int sv, .int sk, .int ck])), ((ad 13), .inl (cI, 30, .inl LO)), ((ad 14), .inl (cI, 30, .inl ST)), ((ad 15), .inl (cI, 30, .inl HI)), ((ad 16), .inl (cZ, 30, .inl KP)), ((ad 17), .inl (cI, 11, .inl NB))] s.heap := hP
  have hD : va_D A [((ad 0), .inr (0, [.ref (ad 1), .ref (ad 9), .ref (ad 12)])), ((ad 12), .inr (3, [.ref (ad 13), .ref (ad 14), .ref (ad 15), .ref (ad 16), .ref (ad 17), .int (nI unk), .int (nI cnt), .int sv, .int sk, .int ck])), ((ad 13), .inl (cI, 30, .inl LO)), ((ad 14), .inl (cI, 30, .inl ST)), ((ad 15), .inl (cI, 30, .inl HI)), ((ad 16), .inl (cZ, 30, .inl KP)), ((ad 17), .inl (cI, 11, .inl NB))] := hD
  refine lv_aload_n hx hb d_LR_unknown_0 rfl (lv_at hl 0 rfl) ?_
  refine va_get (D := (dC, dI)) (ci := 0) (v := .ref (ad 12)) (C := R_LR) (T := F_LR) (N := 3) hx hb htb ul_LR hown hK hP 0 rfl rfl 2 (by decide) (htb _ mw_112) (fun _ h9 => h9) rfl d_LR_unknown_1 ?_
  refine ry_callV (n := 0) (As := []) (rest := []) ⟨hx, hb, hml, hown, htb⟩ (c_Nd_unknowns l dC dI cI cL cZ ad LO ST HI KP NB unk cnt sv sk ck hunk hcnt) (gV mw_215 mw_216 mw_217 mw_4 mc_Nd_unknowns) rfl rfl (by decide +kernel) ⟨Nat.le_of_ble_eq_true rfl, Nat.le_of_ble_eq_true rfl⟩ (hP.sub [1, 2, 3, 4, 5, 6] rfl) hK (ci := 3) (q0 := 0) rfl rfl rfl rfl hl.1 rfl (Nat.le_of_ble_eq_true rfl) d_LR_unknown_4 ⟨Nat.zero_le _, Nat.zero_le _⟩ (fun r_1 hr_1 => ?_)
  subst hr_1
  refine W.eq (g2 := F0 m 7 ls [.int (nI unk)]) rfl ?_
  refine lv_bipush (v := 10) hx hb d_LR_unknown_7 (by decide) ?_
  refine lv_icmp_lt (tgt := 22) hx hb d_LR_unknown_9 (by decide) (fun c_9 => ?_) (fun c_9 => ?_)
  · exact absurd ((nI_ltI (b := 10) (by omega) (by decide)).mp c_9) (by omega)
  · exact wz_throw hx hb htr hown htb (Or.inr (Or.inl rfl)) mw_515 mw_312 mw_10 mw_517 hth hst.2.2.2.2.2.1 ht0 hlocks (by rw [hml]; exact hl.1) d_LR_unknown_12 d_LR_unknown_15 d_LR_unknown_16 d_LR_unknown_18 d_LR_unknown_21 ⟨Nat.le_of_ble_eq_true rfl, Nat.le_of_ble_eq_true rfl, Nat.le_of_ble_eq_true rfl, Nat.le_of_ble_eq_true rfl⟩ () rfl hP hK hD

set_option maxHeartbeats 4000000 in
set_option maxRecDepth 100000 in
theorem c_LR_unknown (l : Launch) (dC : Nat → ClassId) (dI : Nat → Nat → Nat) (cI cL cZ : ClassId) (ad : Nat → Nat) (LO ST HI KP NB : Nat → Int32) (unk cnt : Nat) (sv sk ck : Int32) (hunk : unk ≤ 10) (hcnt : cnt ≤ 30) (h1 : unk < 10) (sz : Nat) : Met l y_LR_unknown (cw_LR_unknown :: tb) (rmH 8 0 0) (va_Pc [.ref (ad 0)] (wy_P (dC, dI) classes (wLN cI cZ ad LO ST HI KP NB unk cnt sv sk ck) (tyI cI cL cZ) sz)) (wy_Q ry_i (fun r (u : Unit) => r = nI unk) (wy_B (dC, dI) classes (tyI cI cL cZ) (va_A (wLN cI cZ ad LO ST HI KP NB unk cnt sv sk ck) sz) (fun u : Unit => (wLN cI cZ ad LO ST HI KP NB (unk + 1) cnt sv sk ck))) (va_A (wLN cI cZ ad LO ST HI KP NB unk cnt sv sk ck) sz)) 0 0 (va_A (wLN cI cZ ad LO ST HI KP NB unk cnt sv sk ck) sz) := by
  refine Met.ofW (cc := b_LR_unknown) (maxL := 1) (ret := (some .int)) (by decide +kernel) rfl ?_
  intro p e s m args below meth c s₁ B hml0 hv
  have C0 := cx_of B hml0 rfl
  obtain ⟨hx, hb, hr, hml, hown, htb, hlocks⟩ := id C0
  obtain ⟨rfl, hsz, hP, hK, hD0⟩ := hv
  subst hsz
  have hD := hD0.self (sz := s.heap.size)
  generalize hAe : va_A (wLN cI cZ ad LO ST HI KP NB unk cnt sv sk ck) s.heap.size = A at hD ⊢
  have hA : ∀ q : Nat, s.heap.size ≤ q → A q := fun q h => by rw [← hAe]; exact Or.inr h
  have hS : va_S A s.heap s.heap [] := va_S.rf
  have hl := lv_entry ([.ref (ad 0)]) (n := 1) (Nat.le_of_ble_eq_true rfl)
  rw [lg_entry_eq]
  generalize (lg_sl ([.ref (ad 0)]) ++ List.replicate (1 - (lg_sl ([.ref (ad 0)])).length) Slot.unset).toArray = ls at hl ⊢
  have hl : lv_has ls 1 [(0, .ref (ad 0))] := hl
  have hP : va_P (dC, dI) classes [((ad 0), .inr (0, [.ref (ad 1), .ref (ad 9), .ref (ad 12)])), ((ad 12), .inr (3, [.ref (ad 13), .ref (ad 14), .ref (ad 15), .ref (ad 16), .ref (ad 17), .int (nI unk), .int (nI cnt), .int sv, .int sk, .int ck])), ((ad 13), .inl (cI, 30, .inl LO)), ((ad 14), .inl (cI, 30, .inl ST)), ((ad 15), .inl (cI, 30, .inl HI)), ((ad 16), .inl (cZ, 30, .inl KP)), ((ad 17), .inl (cI, 11, .inl NB))] s.heap := hP
  have hD : va_D A [((ad 0), .inr (0, [.ref (ad 1), .ref (ad 9), .ref (ad 12)])), ((ad 12), .inr (3, [.ref (ad 13), .ref (ad 14), .ref (ad 15), .ref (ad 16), .ref (ad 17), .int (nI unk), .int (nI cnt), .int sv, .int sk, .int ck])), ((ad 13), .inl (cI, 30, .inl LO)), ((ad 14), .inl (cI, 30, .inl ST)), ((ad 15), .inl (cI, 30, .inl HI)), ((ad 16), .inl (cZ, 30, .inl KP)), ((ad 17), .inl (cI, 11, .inl NB))] := hD
  have hA0 := hA
  refine lv_aload_n hx hb d_LR_unknown_0 rfl (lv_at hl 0 rfl) ?_
  refine va_get (D := (dC, dI)) (ci := 0) (v := .ref (ad 12)) (C := R_LR) (T := F_LR) (N := 3) hx hb htb ul_LR hown hK hP 0 rfl rfl 2 (by decide) (htb _ mw_112) (fun _ h9 => h9) rfl d_LR_unknown_1 ?_
  refine ry_callV (n := 0) (As := []) (rest := []) ⟨hx, hb, hml, hown, htb⟩ (c_Nd_unknowns l dC dI cI cL cZ ad LO ST HI KP NB unk cnt sv sk ck hunk hcnt) (gV mw_215 mw_216 mw_217 mw_4 mc_Nd_unknowns) rfl rfl (by decide +kernel) ⟨Nat.le_of_ble_eq_true rfl, Nat.le_of_ble_eq_true rfl⟩ (hP.sub [1, 2, 3, 4, 5, 6] rfl) hK (ci := 3) (q0 := 0) rfl rfl rfl rfl hl.1 rfl (Nat.le_of_ble_eq_true rfl) d_LR_unknown_4 ⟨Nat.zero_le _, Nat.zero_le _⟩ (fun r_1 hr_1 => ?_)
  subst hr_1
  refine W.eq (g2 := F0 m 7 ls [.int (nI unk)]) rfl ?_
  refine lv_bipush (v := 10) hx hb d_LR_unknown_7 (by decide) ?_
  refine lv_icmp_lt (tgt := 22) hx hb d_LR_unknown_9 (by decide) (fun c_9 => ?_) (fun c_9 => ?_)
  · refine lv_aload_n hx hb d_LR_unknown_22 rfl (lv_at hl 0 rfl) ?_
    refine va_get (D := (dC, dI)) (ci := 0) (v := .ref (ad 12)) (C := R_LR) (T := F_LR) (N := 3) hx hb htb ul_LR hown hK hP 0 rfl rfl 2 (by decide) (htb _ mw_112) (fun _ h9 => h9) rfl d_LR_unknown_23 ?_
    refine wy_callV (n := 0) (wr := [((ad 0), .inr (0, [.ref (ad 1), .ref (ad 9), .ref (ad 12)]))]) (As := []) (rest := []) ⟨hx, hb, hml, hown, htb⟩ (c_Nd_addUnknown l dC dI cI cL cZ ad LO ST HI KP NB unk cnt sv sk ck hunk hcnt h1 s.heap.size) (gV mw_518 mw_519 mw_520 mw_4 mc_Nd_addUnknown) rfl rfl (by decide +kernel) ⟨Nat.le_of_ble_eq_true rfl, Nat.le_of_ble_eq_true rfl⟩ hP hD hS hA hK [1, 2, 3, 4, 5, 6] [0] rfl rfl (by decide) (by decide) (hP.sub [1, 2, 3, 4, 5, 6] rfl) ((hD.sub [1, 2, 3, 4, 5, 6] (by decide) rfl).weaken (fun _ _ _ _ => trivial)) (ci := 3) (q0 := 0) rfl rfl rfl rfl hl.1 rfl (Nat.le_of_ble_eq_true rfl) d_LR_unknown_26 ⟨Nat.le_of_ble_eq_true rfl, Nat.le_of_ble_eq_true rfl⟩ (fun r u H locs hpost hP hD hS => ?_)
    subst hpost
    have hP : va_P (dC, dI) classes [((ad 0), .inr (0, [.ref (ad 1), .ref (ad 9), .ref (ad 12)])), ((ad 12), .inr (3, [.ref (ad 13), .ref (ad 14), .ref (ad 15), .ref (ad 16), .ref (ad 17), .int (nI (unk + 1)), .int (nI cnt), .int sv, .int sk, .int ck])), ((ad 13), .inl (cI, 30, .inl LO)), ((ad 14), .inl (cI, 30, .inl ST)), ((ad 15), .inl (cI, 30, .inl HI)), ((ad 16), .inl (cZ, 30, .inl KP)), ((ad 17), .inl (cI, 11, .inl NB))] H := hP
    have hD : va_D A [((ad 0), .inr (0, [.ref (ad 1), .ref (ad 9), .ref (ad 12)])), ((ad 12), .inr (3, [.ref (ad 13), .ref (ad 14), .ref (ad 15), .ref (ad 16), .ref (ad 17), .int (nI (unk + 1)), .int (nI cnt), .int sv, .int sk, .int ck])), ((ad 13), .inl (cI, 30, .inl LO)), ((ad 14), .inl (cI, 30, .inl ST)), ((ad 15), .inl (cI, 30, .inl HI)), ((ad 16), .inl (cZ, 30, .inl KP)), ((ad 17), .inl (cI, 11, .inl NB))] := hD
    refine W.eq (g2 := F0 m 29 ls [.int (nI unk)]) rfl ?_
    exact W.iret (v := (nI unk)) hx hb hr (fun t ht hW => ⟨⟨(nI unk), (), rfl, rfl, by rw [ht]; exact hP, va_K.moved hW.alike hK, hD⟩, hS.F ht⟩) hS.2.2 d_LR_unknown_29
  · exact absurd ((nI_ltI (b := 10) (by omega) (by decide)).mpr h1) c_9

set_option maxHeartbeats 4000000 in
set_option maxRecDepth 100000 in
theorem c1_LR_need (l : Launch) (htr : ∀ e, l.admits e → e.platform.stackTraces = false) (dC : Nat → ClassId) (dI : Nat → Nat → Nat) (cI cL cZ : ClassId) (ad : Nat → Nat) (LO ST HI KP NB : Nat → Int32) (unk cnt : Nat) (sv sk ck : Int32) (hunk : unk ≤ 10) (hcnt : cnt ≤ 30) (x k y : Int32) (hsd : ¬ ((x = -1 ∨ hs x unk = 1) ∧ (y = -1 ∨ hs y unk = 1))) (sz : Nat) : wx_Met l y_LR_need (cw_LR_need :: tb) (rmH 8 1 6) (va_Pc [.ref (ad 0), .int x, .int k, .int y] (wz_P (dC, dI) classes (wLN cI cZ ad LO ST HI KP NB unk cnt sv sk ck) (tyI cI cL cZ) sz)) (wx_Q ry_i (fun r (u : Unit) => False) (fun X (u : Unit) => X = "java/lang/IndexOutOfBoundsException") (wy_B (dC, dI) classes (tyI cI cL cZ) (va_A (wLN cI cZ ad LO ST HI KP NB unk cnt sv sk ck) sz) (fun u : Unit => (wLN cI cZ ad LO ST HI KP NB unk cnt sv sk ck))) (va_A (wLN cI cZ ad LO ST HI KP NB unk cnt sv sk ck) sz)) (va_A (wLN cI cZ ad LO ST HI KP NB unk cnt sv sk ck) sz) := by
  refine wx_ofW (cc := b_LR_need) (maxL := 4) (ret := (some .int)) (by decide +kernel) rfl ?_
  intro p e s m args below meth c s₁ B hml0 ht0 hv
  have C0 := cx_of B hml0 rfl
  obtain ⟨hx, hb, hr, hml, hown, htb, hlocks⟩ := id C0
  obtain ⟨rfl, ⟨hsz, hP, hK, hD0⟩, hth, hst⟩ := hv
  subst hsz
  have hD := hD0.self (sz := s.heap.size)
  generalize hAe : va_A (wLN cI cZ ad LO ST HI KP NB unk cnt sv sk ck) s.heap.size = A at hD hth ⊢
  have hA : ∀ q : Nat, s.heap.size ≤ q → A q := fun q h => by rw [← hAe]; exact Or.inr h
  have hS : va_S A s.heap s.heap [] := va_S.rf
  have hl := lv_entry ([.ref (ad 0), .int x, .int k, .int y]) (n := 4) (Nat.le_of_ble_eq_true rfl)
  rw [lg_entry_eq]
  generalize (lg_sl ([.ref (ad 0), .int x, .int k, .int y]) ++ List.replicate (4 - (lg_sl ([.ref (ad 0), .int x, .int k, .int y])).length) Slot.unset).toArray = ls at hl ⊢
  have hl : lv_has ls 4 [(0, .ref (ad 0)), (1, .int x), (2, .int k), (3, .int y)] := hl
  have hP : va_P (dC, dI) classes [((ad 0), .inr (0, [.ref (ad 1), .ref (ad 9), .ref (ad 12)])), ((ad 12), .inr (3, [.ref (ad 13), .ref (ad 14), .ref (ad 15), .ref (ad 16), .ref (ad 17), .int (nI unk), .int (nI cnt), .int sv, .int sk, .int ck])), ((ad 13), .inl (cI, 30, .inl LO)), ((ad 14), .inl (cI, 30, .inl ST)), ((ad 15), .inl (cI, 30, .inl HI)), ((ad 16), .inl (cZ, 30, .inl KP)), ((ad 17), .inl (cI, 11, .inl NB))] s.heap := hP
  have hD : va_D A [((ad 0), .inr (0, [.ref (ad 1), .ref (ad 9), .ref (ad 12)])), ((ad 12), .inr (3, [.ref (ad 13), .ref (ad 14), .ref (ad 15), .ref (ad 16), .ref (ad 17), .int (nI unk), .int (nI cnt), .int sv, .int sk, .int ck])), ((ad 13), .inl (cI, 30, .inl LO)), ((ad 14), .inl (cI, 30, .inl ST)), ((ad 15), .inl (cI, 30, .inl HI)), ((ad 16), .inl (cZ, 30, .inl KP)), ((ad 17), .inl (cI, 11, .inl NB))] := hD
  refine lv_aload_n hx hb d_LR_need_0 rfl (lv_at hl 0 rfl) ?_
  refine va_get (D := (dC, dI)) (ci := 0) (v := .ref (ad 12)) (C := R_LR) (T := F_LR) (N := 3) hx hb htb ul_LR hown hK hP 0 rfl rfl 2 (by decide) (htb _ mw_112) (fun _ h9 => h9) rfl d_LR_need_1 ?_
  refine lv_iload_n hx hb d_LR_need_4 rfl (lv_at hl 1 rfl) ?_
  refine ry_callV (n := 1) (As := [.int x]) (rest := []) ⟨hx, hb, hml, hown, htb⟩ (c_Nd_isSide l dC dI cI cL cZ ad LO ST HI KP NB unk cnt sv sk ck hunk hcnt x) (gV mw_529 mw_530 mw_531 mw_4 mc_Nd_isSide) rfl rfl (by decide +kernel) ⟨Nat.le_of_ble_eq_true rfl, Nat.le_of_ble_eq_true rfl⟩ (hP.sub [1, 2, 3, 4, 5, 6] rfl) hK (ci := 3) (q0 := 0) rfl rfl rfl rfl hl.1 rfl (Nat.le_of_ble_eq_true rfl) d_LR_need_5 ⟨Nat.zero_le _, Nat.zero_le _⟩ (fun r_1 hr_1 => ?_)
  subst hr_1
  refine W.eq (g2 := F0 m 8 ls [.int (if x = -1 ∨ hs x unk = 1 then 1 else 0)]) rfl ?_
  refine lv_if_eq (tgt := 22) hx hb d_LR_need_8 (by decide) (fun c_8 => ?_) (fun c_8 => ?_)
  · exact wz_throw hx hb htr hown htb (Or.inr (Or.inr rfl)) mw_372 mw_373 mw_13 mw_382 hth hst.2.2.2.2.2.2.1 ht0 hlocks (by rw [hml]; exact hl.1) d_LR_need_22 d_LR_need_25 d_LR_need_26 d_LR_need_28 d_LR_need_31 ⟨Nat.le_of_ble_eq_true rfl, Nat.le_of_ble_eq_true rfl, Nat.le_of_ble_eq_true rfl, Nat.le_of_ble_eq_true rfl⟩ () rfl hP hK hD
  · refine lv_aload_n hx hb d_LR_need_11 rfl (lv_at hl 0 rfl) ?_
    refine va_get (D := (dC, dI)) (ci := 0) (v := .ref (ad 12)) (C := R_LR) (T := F_LR) (N := 3) hx hb htb ul_LR hown hK hP 0 rfl rfl 2 (by decide) (htb _ mw_112) (fun _ h9 => h9) rfl d_LR_need_12 ?_
    refine lv_iload_n hx hb d_LR_need_15 rfl (lv_at hl 3 rfl) ?_
    refine ry_callV (n := 1) (As := [.int y]) (rest := []) ⟨hx, hb, hml, hown, htb⟩ (c_Nd_isSide l dC dI cI cL cZ ad LO ST HI KP NB unk cnt sv sk ck hunk hcnt y) (gV mw_529 mw_530 mw_531 mw_4 mc_Nd_isSide) rfl rfl (by decide +kernel) ⟨Nat.le_of_ble_eq_true rfl, Nat.le_of_ble_eq_true rfl⟩ (hP.sub [1, 2, 3, 4, 5, 6] rfl) hK (ci := 3) (q0 := 0) rfl rfl rfl rfl hl.1 rfl (Nat.le_of_ble_eq_true rfl) d_LR_need_16 ⟨Nat.zero_le _, Nat.zero_le _⟩ (fun r_2 hr_2 => ?_)
    subst hr_2
    refine W.eq (g2 := F0 m 19 ls [.int (if y = -1 ∨ hs y unk = 1 then 1 else 0)]) rfl ?_
    refine lv_if_ne (tgt := 32) hx hb d_LR_need_19 (by decide) (fun c_19 => ?_) (fun c_19 => ?_)
    · exact absurd ⟨if_t c_8, if_t c_19⟩ hsd
    · exact wz_throw hx hb htr hown htb (Or.inr (Or.inr rfl)) mw_372 mw_373 mw_13 mw_382 hth hst.2.2.2.2.2.2.1 ht0 hlocks (by rw [hml]; exact hl.1) d_LR_need_22 d_LR_need_25 d_LR_need_26 d_LR_need_28 d_LR_need_31 ⟨Nat.le_of_ble_eq_true rfl, Nat.le_of_ble_eq_true rfl, Nat.le_of_ble_eq_true rfl, Nat.le_of_ble_eq_true rfl⟩ () rfl hP hK hD

set_option maxHeartbeats 4000000 in
set_option maxRecDepth 100000 in
theorem c2_LR_need (l : Launch) (htr : ∀ e, l.admits e → e.platform.stackTraces = false) (dC : Nat → ClassId) (dI : Nat → Nat → Nat) (cI cL cZ : ClassId) (ad : Nat → Nat) (LO ST HI KP NB : Nat → Int32) (unk cnt : Nat) (sv sk ck : Int32) (hunk : unk ≤ 10) (hcnt : cnt ≤ 30) (x k y : Int32) (hs1 : (x = -1 ∨ hs x unk = 1)) (hs2 : (y = -1 ∨ hs y unk = 1)) (hk : k < -20 ∨ 20 < k) (sz : Nat) : wx_Met l y_LR_need (cw_LR_need :: tb) (rmH 8 1 6) (va_Pc [.ref (ad 0), .int x, .int k, .int y] (wz_P (dC, dI) classes (wLN cI cZ ad LO ST HI KP NB unk cnt sv sk ck) (tyI cI cL cZ) sz)) (wx_Q ry_i (fun r (u : Unit) => False) (fun X (u : Unit) => X = "java/lang/IllegalArgumentException") (wy_B (dC, dI) classes (tyI cI cL cZ) (va_A (wLN cI cZ ad LO ST HI KP NB unk cnt sv sk ck) sz) (fun u : Unit => (wLN cI cZ ad LO ST HI KP NB unk cnt sv sk ck))) (va_A (wLN cI cZ ad LO ST HI KP NB unk cnt sv sk ck) sz)) (va_A (wLN cI cZ ad LO ST HI KP NB unk cnt sv sk ck) sz) := by
  refine wx_ofW (cc := b_LR_need) (maxL := 4) (ret := (some .int)) (by decide +kernel) rfl ?_
  intro p e s m args below meth c s₁ B hml0 ht0 hv
  have C0 := cx_of B hml0 rfl
  obtain ⟨hx, hb, hr, hml, hown, htb, hlocks⟩ := id C0
  obtain ⟨rfl, ⟨hsz, hP, hK, hD0⟩, hth, hst⟩ := hv
  subst hsz
  have hD := hD0.self (sz := s.heap.size)
  generalize hAe : va_A (wLN cI cZ ad LO ST HI KP NB unk cnt sv sk ck) s.heap.size = A at hD hth ⊢
  have hA : ∀ q : Nat, s.heap.size ≤ q → A q := fun q h => by rw [← hAe]; exact Or.inr h
  have hS : va_S A s.heap s.heap [] := va_S.rf
  have hl := lv_entry ([.ref (ad 0), .int x, .int k, .int y]) (n := 4) (Nat.le_of_ble_eq_true rfl)
  rw [lg_entry_eq]
  generalize (lg_sl ([.ref (ad 0), .int x, .int k, .int y]) ++ List.replicate (4 - (lg_sl ([.ref (ad 0), .int x, .int k, .int y])).length) Slot.unset).toArray = ls at hl ⊢
  have hl : lv_has ls 4 [(0, .ref (ad 0)), (1, .int x), (2, .int k), (3, .int y)] := hl
  have hP : va_P (dC, dI) classes [((ad 0), .inr (0, [.ref (ad 1), .ref (ad 9), .ref (ad 12)])), ((ad 12), .inr (3, [.ref (ad 13), .ref (ad 14), .ref (ad 15), .ref (ad 16), .ref (ad 17), .int (nI unk), .int (nI cnt), .int sv, .int sk, .int ck])), ((ad 13), .inl (cI, 30, .inl LO)), ((ad 14), .inl (cI, 30, .inl ST)), ((ad 15), .inl (cI, 30, .inl HI)), ((ad 16), .inl (cZ, 30, .inl KP)), ((ad 17), .inl (cI, 11, .inl NB))] s.heap := hP
  have hD : va_D A [((ad 0), .inr (0, [.ref (ad 1), .ref (ad 9), .ref (ad 12)])), ((ad 12), .inr (3, [.ref (ad 13), .ref (ad 14), .ref (ad 15), .ref (ad 16), .ref (ad 17), .int (nI unk), .int (nI cnt), .int sv, .int sk, .int ck])), ((ad 13), .inl (cI, 30, .inl LO)), ((ad 14), .inl (cI, 30, .inl ST)), ((ad 15), .inl (cI, 30, .inl HI)), ((ad 16), .inl (cZ, 30, .inl KP)), ((ad 17), .inl (cI, 11, .inl NB))] := hD
  refine lv_aload_n hx hb d_LR_need_0 rfl (lv_at hl 0 rfl) ?_
  refine va_get (D := (dC, dI)) (ci := 0) (v := .ref (ad 12)) (C := R_LR) (T := F_LR) (N := 3) hx hb htb ul_LR hown hK hP 0 rfl rfl 2 (by decide) (htb _ mw_112) (fun _ h9 => h9) rfl d_LR_need_1 ?_
  refine lv_iload_n hx hb d_LR_need_4 rfl (lv_at hl 1 rfl) ?_
  refine ry_callV (n := 1) (As := [.int x]) (rest := []) ⟨hx, hb, hml, hown, htb⟩ (c_Nd_isSide l dC dI cI cL cZ ad LO ST HI KP NB unk cnt sv sk ck hunk hcnt x) (gV mw_529 mw_530 mw_531 mw_4 mc_Nd_isSide) rfl rfl (by decide +kernel) ⟨Nat.le_of_ble_eq_true rfl, Nat.le_of_ble_eq_true rfl⟩ (hP.sub [1, 2, 3, 4, 5, 6] rfl) hK (ci := 3) (q0 := 0) rfl rfl rfl rfl hl.1 rfl (Nat.le_of_ble_eq_true rfl) d_LR_need_5 ⟨Nat.zero_le _, Nat.zero_le _⟩ (fun r_1 hr_1 => ?_)
  subst hr_1
  refine W.eq (g2 := F0 m 8 ls [.int (if x = -1 ∨ hs x unk = 1 then 1 else 0)]) rfl ?_
  refine lv_if_eq (tgt := 22) hx hb d_LR_need_8 (by decide) (fun c_8 => ?_) (fun c_8 => ?_)
  · exact absurd c_8 (by rw [if_pos hs1]; decide)
  · refine lv_aload_n hx hb d_LR_need_11 rfl (lv_at hl 0 rfl) ?_
    refine va_get (D := (dC, dI)) (ci := 0) (v := .ref (ad 12)) (C := R_LR) (T := F_LR) (N := 3) hx hb htb ul_LR hown hK hP 0 rfl rfl 2 (by decide) (htb _ mw_112) (fun _ h9 => h9) rfl d_LR_need_12 ?_
    refine lv_iload_n hx hb d_LR_need_15 rfl (lv_at hl 3 rfl) ?_
    refine ry_callV (n := 1) (As := [.int y]) (rest := []) ⟨hx, hb, hml, hown, htb⟩ (c_Nd_isSide l dC dI cI cL cZ ad LO ST HI KP NB unk cnt sv sk ck hunk hcnt y) (gV mw_529 mw_530 mw_531 mw_4 mc_Nd_isSide) rfl rfl (by decide +kernel) ⟨Nat.le_of_ble_eq_true rfl, Nat.le_of_ble_eq_true rfl⟩ (hP.sub [1, 2, 3, 4, 5, 6] rfl) hK (ci := 3) (q0 := 0) rfl rfl rfl rfl hl.1 rfl (Nat.le_of_ble_eq_true rfl) d_LR_need_16 ⟨Nat.zero_le _, Nat.zero_le _⟩ (fun r_2 hr_2 => ?_)
    subst hr_2
    refine W.eq (g2 := F0 m 19 ls [.int (if y = -1 ∨ hs y unk = 1 then 1 else 0)]) rfl ?_
    refine lv_if_ne (tgt := 32) hx hb d_LR_need_19 (by decide) (fun c_19 => ?_) (fun c_19 => ?_)
    · refine lv_iload_n hx hb d_LR_need_32 rfl (lv_at hl 2 rfl) ?_
      refine lv_bipush (v := (-20)) hx hb d_LR_need_33 (by decide) ?_
      refine lv_icmp_lt (tgt := 44) hx hb d_LR_need_35 (by decide) (fun c_35 => ?_) (fun c_35 => ?_)
      · exact wz_throw hx hb htr hown htb (Or.inl rfl) mw_534 mw_244 mw_9 mw_536 hth hst.2.2.2.2.2.2.2.1 ht0 hlocks (by rw [hml]; exact hl.1) d_LR_need_44 d_LR_need_47 d_LR_need_48 d_LR_need_50 d_LR_need_53 ⟨Nat.le_of_ble_eq_true rfl, Nat.le_of_ble_eq_true rfl, Nat.le_of_ble_eq_true rfl, Nat.le_of_ble_eq_true rfl⟩ () rfl hP hK hD
      · refine lv_iload_n hx hb d_LR_need_38 rfl (lv_at hl 2 rfl) ?_
        refine lv_bipush (v := 20) hx hb d_LR_need_39 (by decide) ?_
        refine lv_icmp_le (tgt := 54) hx hb d_LR_need_41 (by decide) (fun c_41 => ?_) (fun c_41 => ?_)
        · exact absurd hk (fun z => z.elim c_35 (fun z => absurd c_41 (Int32.not_le.mpr z)))
        · exact wz_throw hx hb htr hown htb (Or.inl rfl) mw_534 mw_244 mw_9 mw_536 hth hst.2.2.2.2.2.2.2.1 ht0 hlocks (by rw [hml]; exact hl.1) d_LR_need_44 d_LR_need_47 d_LR_need_48 d_LR_need_50 d_LR_need_53 ⟨Nat.le_of_ble_eq_true rfl, Nat.le_of_ble_eq_true rfl, Nat.le_of_ble_eq_true rfl, Nat.le_of_ble_eq_true rfl⟩ () rfl hP hK hD
    · exact absurd c_19 (by rw [if_pos hs2]; decide)

set_option maxHeartbeats 4000000 in
set_option maxRecDepth 100000 in
theorem c3_LR_need (l : Launch) (htr : ∀ e, l.admits e → e.platform.stackTraces = false) (dC : Nat → ClassId) (dI : Nat → Nat → Nat) (cI cL cZ : ClassId) (ad : Nat → Nat) (LO ST HI KP NB : Nat → Int32) (unk cnt : Nat) (sv sk ck : Int32) (hunk : unk ≤ 10) (hcnt : cnt ≤ 30) (x k y : Int32) (hs1 : (x = -1 ∨ hs x unk = 1)) (hs2 : (y = -1 ∨ hs y unk = 1)) (hk : -20 ≤ k ∧ k ≤ 20) (h0 : cnt = 30) (sz : Nat) : wx_Met l y_LR_need (cw_LR_need :: tb) (rmH 8 1 6) (va_Pc [.ref (ad 0), .int x, .int k, .int y] (wz_P (dC, dI) classes (wLN cI cZ ad LO ST HI KP NB unk cnt sv sk ck) (tyI cI cL cZ) sz)) (wx_Q ry_i (fun r (u : Unit) => False) (fun X (u : Unit) => X = "java/lang/IllegalStateException") (wy_B (dC, dI) classes (tyI cI cL cZ) (va_A (wLN cI cZ ad LO ST HI KP NB unk cnt sv sk ck) sz) (fun u : Unit => (wLN cI cZ ad LO ST HI KP NB unk cnt sv sk ck))) (va_A (wLN cI cZ ad LO ST HI KP NB unk cnt sv sk ck) sz)) (va_A (wLN cI cZ ad LO ST HI KP NB unk cnt sv sk ck) sz) := by
  refine wx_ofW (cc := b_LR_need) (maxL := 4) (ret := (some .int)) (by decide +kernel) rfl ?_
  intro p e s m args below meth c s₁ B hml0 ht0 hv
  have C0 := cx_of B hml0 rfl
  obtain ⟨hx, hb, hr, hml, hown, htb, hlocks⟩ := id C0
  obtain ⟨rfl, ⟨hsz, hP, hK, hD0⟩, hth, hst⟩ := hv
  subst hsz
  have hD := hD0.self (sz := s.heap.size)
  generalize hAe : va_A (wLN cI cZ ad LO ST HI KP NB unk cnt sv sk ck) s.heap.size = A at hD hth ⊢
  have hA : ∀ q : Nat, s.heap.size ≤ q → A q := fun q h => by rw [← hAe]; exact Or.inr h
  have hS : va_S A s.heap s.heap [] := va_S.rf
  have hl := lv_entry ([.ref (ad 0), .int x, .int k, .int y]) (n := 4) (Nat.le_of_ble_eq_true rfl)
  rw [lg_entry_eq]
  generalize (lg_sl ([.ref (ad 0), .int x, .int k, .int y]) ++ List.replicate (4 - (lg_sl ([.ref (ad 0), .int x, .int k, .int y])).length) Slot.unset).toArray = ls at hl ⊢
  have hl : lv_has ls 4 [(0, .ref (ad 0)), (1, .int x), (2, .int k), (3, .int y)] := hl
  have hP : va_P (dC, dI) classes [((ad 0), .inr (0, [.ref (ad 1), .ref (ad 9), .ref (ad 12)])), ((ad 12), .inr (3, [.ref (ad 13), .ref (ad 14), .ref (ad 15), .ref (ad 16), .ref (ad 17), .int (nI unk), .int (nI cnt), .int sv, .int sk, .int ck])), ((ad 13), .inl (cI, 30, .inl LO)), ((ad 14), .inl (cI, 30, .inl ST)), ((ad 15), .inl (cI, 30, .inl HI)), ((ad 16), .inl (cZ, 30, .inl KP)), ((ad 17), .inl (cI, 11, .inl NB))] s.heap := hP
  have hD : va_D A [((ad 0), .inr (0, [.ref (ad 1), .ref (ad 9), .ref (ad 12)])), ((ad 12), .inr (3, [.ref (ad 13), .ref (ad 14), .ref (ad 15), .ref (ad 16), .ref (ad 17), .int (nI unk), .int (nI cnt), .int sv, .int sk, .int ck])), ((ad 13), .inl (cI, 30, .inl LO)), ((ad 14), .inl (cI, 30, .inl ST)), ((ad 15), .inl (cI, 30, .inl HI)), ((ad 16), .inl (cZ, 30, .inl KP)), ((ad 17), .inl (cI, 11, .inl NB))] := hD
  refine lv_aload_n hx hb d_LR_need_0 rfl (lv_at hl 0 rfl) ?_
  refine va_get (D := (dC, dI)) (ci := 0) (v := .ref (ad 12)) (C := R_LR) (T := F_LR) (N := 3) hx hb htb ul_LR hown hK hP 0 rfl rfl 2 (by decide) (htb _ mw_112) (fun _ h9 => h9) rfl d_LR_need_1 ?_
  refine lv_iload_n hx hb d_LR_need_4 rfl (lv_at hl 1 rfl) ?_
  refine ry_callV (n := 1) (As := [.int x]) (rest := []) ⟨hx, hb, hml, hown, htb⟩ (c_Nd_isSide l dC dI cI cL cZ ad LO ST HI KP NB unk cnt sv sk ck hunk hcnt x) (gV mw_529 mw_530 mw_531 mw_4 mc_Nd_isSide) rfl rfl (by decide +kernel) ⟨Nat.le_of_ble_eq_true rfl, Nat.le_of_ble_eq_true rfl⟩ (hP.sub [1, 2, 3, 4, 5, 6] rfl) hK (ci := 3) (q0 := 0) rfl rfl rfl rfl hl.1 rfl (Nat.le_of_ble_eq_true rfl) d_LR_need_5 ⟨Nat.zero_le _, Nat.zero_le _⟩ (fun r_1 hr_1 => ?_)
  subst hr_1
  refine W.eq (g2 := F0 m 8 ls [.int (if x = -1 ∨ hs x unk = 1 then 1 else 0)]) rfl ?_
  refine lv_if_eq (tgt := 22) hx hb d_LR_need_8 (by decide) (fun c_8 => ?_) (fun c_8 => ?_)
  · exact absurd c_8 (by rw [if_pos hs1]; decide)
  · refine lv_aload_n hx hb d_LR_need_11 rfl (lv_at hl 0 rfl) ?_
    refine va_get (D := (dC, dI)) (ci := 0) (v := .ref (ad 12)) (C := R_LR) (T := F_LR) (N := 3) hx hb htb ul_LR hown hK hP 0 rfl rfl 2 (by decide) (htb _ mw_112) (fun _ h9 => h9) rfl d_LR_need_12 ?_
    refine lv_iload_n hx hb d_LR_need_15 rfl (lv_at hl 3 rfl) ?_
    refine ry_callV (n := 1) (As := [.int y]) (rest := []) ⟨hx, hb, hml, hown, htb⟩ (c_Nd_isSide l dC dI cI cL cZ ad LO ST HI KP NB unk cnt sv sk ck hunk hcnt y) (gV mw_529 mw_530 mw_531 mw_4 mc_Nd_isSide) rfl rfl (by decide +kernel) ⟨Nat.le_of_ble_eq_true rfl, Nat.le_of_ble_eq_true rfl⟩ (hP.sub [1, 2, 3, 4, 5, 6] rfl) hK (ci := 3) (q0 := 0) rfl rfl rfl rfl hl.1 rfl (Nat.le_of_ble_eq_true rfl) d_LR_need_16 ⟨Nat.zero_le _, Nat.zero_le _⟩ (fun r_2 hr_2 => ?_)
    subst hr_2
    refine W.eq (g2 := F0 m 19 ls [.int (if y = -1 ∨ hs y unk = 1 then 1 else 0)]) rfl ?_
    refine lv_if_ne (tgt := 32) hx hb d_LR_need_19 (by decide) (fun c_19 => ?_) (fun c_19 => ?_)
    · refine lv_iload_n hx hb d_LR_need_32 rfl (lv_at hl 2 rfl) ?_
      refine lv_bipush (v := (-20)) hx hb d_LR_need_33 (by decide) ?_
      refine lv_icmp_lt (tgt := 44) hx hb d_LR_need_35 (by decide) (fun c_35 => ?_) (fun c_35 => ?_)
      · exact absurd c_35 (Int32.not_lt.mpr hk.1)
      · refine lv_iload_n hx hb d_LR_need_38 rfl (lv_at hl 2 rfl) ?_
        refine lv_bipush (v := 20) hx hb d_LR_need_39 (by decide) ?_
        refine lv_icmp_le (tgt := 54) hx hb d_LR_need_41 (by decide) (fun c_41 => ?_) (fun c_41 => ?_)
        · refine lv_aload_n hx hb d_LR_need_54 rfl (lv_at hl 0 rfl) ?_
          refine va_get (D := (dC, dI)) (ci := 0) (v := .ref (ad 12)) (C := R_LR) (T := F_LR) (N := 3) hx hb htb ul_LR hown hK hP 0 rfl rfl 2 (by decide) (htb _ mw_112) (fun _ h9 => h9) rfl d_LR_need_55 ?_
          refine ry_callV (n := 0) (As := []) (rest := []) ⟨hx, hb, hml, hown, htb⟩ (c_Nd_size l dC dI cI cL cZ ad LO ST HI KP NB unk cnt sv sk ck hunk hcnt) (gV mw_219 mw_220 mw_221 mw_4 mc_Nd_size) rfl rfl (by decide +kernel) ⟨Nat.le_of_ble_eq_true rfl, Nat.le_of_ble_eq_true rfl⟩ (hP.sub [1, 2, 3, 4, 5, 6] rfl) hK (ci := 3) (q0 := 0) rfl rfl rfl rfl hl.1 rfl (Nat.le_of_ble_eq_true rfl) d_LR_need_58 ⟨Nat.zero_le _, Nat.zero_le _⟩ (fun r_3 hr_3 => ?_)
          subst hr_3
          refine W.eq (g2 := F0 m 61 ls [.int (nI cnt)]) rfl ?_
          refine lv_bipush (v := 30) hx hb d_LR_need_61 (by decide) ?_
          refine lv_icmp_lt (tgt := 76) hx hb d_LR_need_63 (by decide) (fun c_63 => ?_) (fun c_63 => ?_)
          · exact absurd ((nI_ltI (b := 30) (by omega) (by decide)).mp c_63) (by omega)
          · exact wz_throw hx hb htr hown htb (Or.inr (Or.inl rfl)) mw_515 mw_312 mw_10 mw_517 hth hst.2.2.2.2.2.2.2.2 ht0 hlocks (by rw [hml]; exact hl.1) d_LR_need_66 d_LR_need_69 d_LR_need_70 d_LR_need_72 d_LR_need_75 ⟨Nat.le_of_ble_eq_true rfl, Nat.le_of_ble_eq_true rfl, Nat.le_of_ble_eq_true rfl, Nat.le_of_ble_eq_true rfl⟩ () rfl hP hK hD
        · exact absurd hk.2 c_41
    · exact absurd c_19 (by rw [if_pos hs2]; decide)

set_option maxHeartbeats 4000000 in
set_option maxRecDepth 100000 in
theorem c_LR_need (l : Launch) (dC : Nat → ClassId) (dI : Nat → Nat → Nat) (cI cL cZ : ClassId) (ad : Nat → Nat) (LO ST HI KP NB : Nat → Int32) (unk cnt : Nat) (sv sk ck : Int32) (hunk : unk ≤ 10) (hcnt : cnt ≤ 30) (x k y : Int32) (hs1 : (x = -1 ∨ hs x unk = 1)) (hs2 : (y = -1 ∨ hs y unk = 1)) (hk : -20 ≤ k ∧ k ≤ 20) (h1 : cnt < 30) (sz : Nat) : Met l y_LR_need (cw_LR_need :: tb) (rmH 8 0 0) (va_Pc [.ref (ad 0), .int x, .int k, .int y] (wy_P (dC, dI) classes (wLN cI cZ ad LO ST HI KP NB unk cnt sv sk ck) (tyI cI cL cZ) sz)) (wy_Q ry_i (fun r (u : Unit) => r = nI cnt) (wy_B (dC, dI) classes (tyI cI cL cZ) (va_A (wLN cI cZ ad LO ST HI KP NB unk cnt sv sk ck) sz) (fun u : Unit => (wLN cI cZ ad (upd LO cnt (sdI x)) (upd ST cnt k) (upd HI cnt (sdI y)) KP NB unk (cnt + 1) sv 0 0))) (va_A (wLN cI cZ ad LO ST HI KP NB unk cnt sv sk ck) sz)) 0 0 (va_A (wLN cI cZ ad LO ST HI KP NB unk cnt sv sk ck) sz) := by
  refine Met.ofW (cc := b_LR_need) (maxL := 4) (ret := (some .int)) (by decide +kernel) rfl ?_
  intro p e s m args below meth c s₁ B hml0 hv
  have C0 := cx_of B hml0 rfl
  obtain ⟨hx, hb, hr, hml, hown, htb, hlocks⟩ := id C0
  obtain ⟨rfl, hsz, hP, hK, hD0⟩ := hv
  subst hsz
  have hD := hD0.self (sz := s.heap.size)
  generalize hAe : va_A (wLN cI cZ ad LO ST HI KP NB unk cnt sv sk ck) s.heap.size = A at hD ⊢
  have hA : ∀ q : Nat, s.heap.size ≤ q → A q := fun q h => by rw [← hAe]; exact Or.inr h
  have hS : va_S A s.heap s.heap [] := va_S.rf
  have hl := lv_entry ([.ref (ad 0), .int x, .int k, .int y]) (n := 4) (Nat.le_of_ble_eq_true rfl)
  rw [lg_entry_eq]
  generalize (lg_sl ([.ref (ad 0), .int x, .int k, .int y]) ++ List.replicate (4 - (lg_sl ([.ref (ad 0), .int x, .int k, .int y])).length) Slot.unset).toArray = ls at hl ⊢
  have hl : lv_has ls 4 [(0, .ref (ad 0)), (1, .int x), (2, .int k), (3, .int y)] := hl
  have hP : va_P (dC, dI) classes [((ad 0), .inr (0, [.ref (ad 1), .ref (ad 9), .ref (ad 12)])), ((ad 12), .inr (3, [.ref (ad 13), .ref (ad 14), .ref (ad 15), .ref (ad 16), .ref (ad 17), .int (nI unk), .int (nI cnt), .int sv, .int sk, .int ck])), ((ad 13), .inl (cI, 30, .inl LO)), ((ad 14), .inl (cI, 30, .inl ST)), ((ad 15), .inl (cI, 30, .inl HI)), ((ad 16), .inl (cZ, 30, .inl KP)), ((ad 17), .inl (cI, 11, .inl NB))] s.heap := hP
  have hD : va_D A [((ad 0), .inr (0, [.ref (ad 1), .ref (ad 9), .ref (ad 12)])), ((ad 12), .inr (3, [.ref (ad 13), .ref (ad 14), .ref (ad 15), .ref (ad 16), .ref (ad 17), .int (nI unk), .int (nI cnt), .int sv, .int sk, .int ck])), ((ad 13), .inl (cI, 30, .inl LO)), ((ad 14), .inl (cI, 30, .inl ST)), ((ad 15), .inl (cI, 30, .inl HI)), ((ad 16), .inl (cZ, 30, .inl KP)), ((ad 17), .inl (cI, 11, .inl NB))] := hD
  have hA0 := hA
  refine lv_aload_n hx hb d_LR_need_0 rfl (lv_at hl 0 rfl) ?_
  refine va_get (D := (dC, dI)) (ci := 0) (v := .ref (ad 12)) (C := R_LR) (T := F_LR) (N := 3) hx hb htb ul_LR hown hK hP 0 rfl rfl 2 (by decide) (htb _ mw_112) (fun _ h9 => h9) rfl d_LR_need_1 ?_
  refine lv_iload_n hx hb d_LR_need_4 rfl (lv_at hl 1 rfl) ?_
  refine ry_callV (n := 1) (As := [.int x]) (rest := []) ⟨hx, hb, hml, hown, htb⟩ (c_Nd_isSide l dC dI cI cL cZ ad LO ST HI KP NB unk cnt sv sk ck hunk hcnt x) (gV mw_529 mw_530 mw_531 mw_4 mc_Nd_isSide) rfl rfl (by decide +kernel) ⟨Nat.le_of_ble_eq_true rfl, Nat.le_of_ble_eq_true rfl⟩ (hP.sub [1, 2, 3, 4, 5, 6] rfl) hK (ci := 3) (q0 := 0) rfl rfl rfl rfl hl.1 rfl (Nat.le_of_ble_eq_true rfl) d_LR_need_5 ⟨Nat.zero_le _, Nat.zero_le _⟩ (fun r_1 hr_1 => ?_)
  subst hr_1
  refine W.eq (g2 := F0 m 8 ls [.int (if x = -1 ∨ hs x unk = 1 then 1 else 0)]) rfl ?_
  refine lv_if_eq (tgt := 22) hx hb d_LR_need_8 (by decide) (fun c_8 => ?_) (fun c_8 => ?_)
  · exact absurd c_8 (by rw [if_pos hs1]; decide)
  · refine lv_aload_n hx hb d_LR_need_11 rfl (lv_at hl 0 rfl) ?_
    refine va_get (D := (dC, dI)) (ci := 0) (v := .ref (ad 12)) (C := R_LR) (T := F_LR) (N := 3) hx hb htb ul_LR hown hK hP 0 rfl rfl 2 (by decide) (htb _ mw_112) (fun _ h9 => h9) rfl d_LR_need_12 ?_
    refine lv_iload_n hx hb d_LR_need_15 rfl (lv_at hl 3 rfl) ?_
    refine ry_callV (n := 1) (As := [.int y]) (rest := []) ⟨hx, hb, hml, hown, htb⟩ (c_Nd_isSide l dC dI cI cL cZ ad LO ST HI KP NB unk cnt sv sk ck hunk hcnt y) (gV mw_529 mw_530 mw_531 mw_4 mc_Nd_isSide) rfl rfl (by decide +kernel) ⟨Nat.le_of_ble_eq_true rfl, Nat.le_of_ble_eq_true rfl⟩ (hP.sub [1, 2, 3, 4, 5, 6] rfl) hK (ci := 3) (q0 := 0) rfl rfl rfl rfl hl.1 rfl (Nat.le_of_ble_eq_true rfl) d_LR_need_16 ⟨Nat.zero_le _, Nat.zero_le _⟩ (fun r_2 hr_2 => ?_)
    subst hr_2
    refine W.eq (g2 := F0 m 19 ls [.int (if y = -1 ∨ hs y unk = 1 then 1 else 0)]) rfl ?_
    refine lv_if_ne (tgt := 32) hx hb d_LR_need_19 (by decide) (fun c_19 => ?_) (fun c_19 => ?_)
    · refine lv_iload_n hx hb d_LR_need_32 rfl (lv_at hl 2 rfl) ?_
      refine lv_bipush (v := (-20)) hx hb d_LR_need_33 (by decide) ?_
      refine lv_icmp_lt (tgt := 44) hx hb d_LR_need_35 (by decide) (fun c_35 => ?_) (fun c_35 => ?_)
      · exact absurd c_35 (Int32.not_lt.mpr hk.1)
      · refine lv_iload_n hx hb d_LR_need_38 rfl (lv_at hl 2 rfl) ?_
        refine lv_bipush (v := 20) hx hb d_LR_need_39 (by decide) ?_
        refine lv_icmp_le (tgt := 54) hx hb d_LR_need_41 (by decide) (fun c_41 => ?_) (fun c_41 => ?_)
        · refine lv_aload_n hx hb d_LR_need_54 rfl (lv_at hl 0 rfl) ?_
          refine va_get (D := (dC, dI)) (ci := 0) (v := .ref (ad 12)) (C := R_LR) (T := F_LR) (N := 3) hx hb htb ul_LR hown hK hP 0 rfl rfl 2 (by decide) (htb _ mw_112) (fun _ h9 => h9) rfl d_LR_need_55 ?_
          refine ry_callV (n := 0) (As := []) (rest := []) ⟨hx, hb, hml, hown, htb⟩ (c_Nd_size l dC dI cI cL cZ ad LO ST HI KP NB unk cnt sv sk ck hunk hcnt) (gV mw_219 mw_220 mw_221 mw_4 mc_Nd_size) rfl rfl (by decide +kernel) ⟨Nat.le_of_ble_eq_true rfl, Nat.le_of_ble_eq_true rfl⟩ (hP.sub [1, 2, 3, 4, 5, 6] rfl) hK (ci := 3) (q0 := 0) rfl rfl rfl rfl hl.1 rfl (Nat.le_of_ble_eq_true rfl) d_LR_need_58 ⟨Nat.zero_le _, Nat.zero_le _⟩ (fun r_3 hr_3 => ?_)
          subst hr_3
          refine W.eq (g2 := F0 m 61 ls [.int (nI cnt)]) rfl ?_
          refine lv_bipush (v := 30) hx hb d_LR_need_61 (by decide) ?_
          refine lv_icmp_lt (tgt := 76) hx hb d_LR_need_63 (by decide) (fun c_63 => ?_) (fun c_63 => ?_)
          · refine lv_aload_n hx hb d_LR_need_76 rfl (lv_at hl 0 rfl) ?_
            refine va_get (D := (dC, dI)) (ci := 0) (v := .ref (ad 12)) (C := R_LR) (T := F_LR) (N := 3) hx hb htb ul_LR hown hK hP 0 rfl rfl 2 (by decide) (htb _ mw_112) (fun _ h9 => h9) rfl d_LR_need_77 ?_
            refine lv_iload_n hx hb d_LR_need_80 rfl (lv_at hl 1 rfl) ?_
            refine lv_iload_n hx hb d_LR_need_81 rfl (lv_at hl 2 rfl) ?_
            refine lv_iload_n hx hb d_LR_need_82 rfl (lv_at hl 3 rfl) ?_
            refine wy_callV (n := 3) (wr := [((ad 0), .inr (0, [.ref (ad 1), .ref (ad 9), .ref (ad 12)]))]) (As := [.int x, .int k, .int y]) (rest := []) ⟨hx, hb, hml, hown, htb⟩ (c_Nd_add l dC dI cI cL cZ ad LO ST HI KP NB unk cnt sv sk ck hunk hcnt x k y h1 s.heap.size) (gV mw_538 mw_539 mw_540 mw_4 mc_Nd_add) rfl rfl (by decide +kernel) ⟨Nat.le_of_ble_eq_true rfl, Nat.le_of_ble_eq_true rfl⟩ hP hD hS hA hK [1, 2, 3, 4, 5, 6] [0] rfl rfl (by decide) (by decide) (hP.sub [1, 2, 3, 4, 5, 6] rfl) ((hD.sub [1, 2, 3, 4, 5, 6] (by decide) rfl).weaken (fun _ _ _ _ => trivial)) (ci := 3) (q0 := 0) rfl rfl rfl rfl hl.1 rfl (Nat.le_of_ble_eq_true rfl) d_LR_need_83 ⟨Nat.le_of_ble_eq_true rfl, Nat.le_of_ble_eq_true rfl⟩ (fun r u H locs hpost hP hD hS => ?_)
            subst hpost
            have hP : va_P (dC, dI) classes [((ad 0), .inr (0, [.ref (ad 1), .ref (ad 9), .ref (ad 12)])), ((ad 12), .inr (3, [.ref (ad 13), .ref (ad 14), .ref (ad 15), .ref (ad 16), .ref (ad 17), .int (nI unk), .int (nI (cnt + 1)), .int sv, .int 0, .int 0])), ((ad 13), .inl (cI, 30, .inl (upd LO cnt (sdI x)))), ((ad 14), .inl (cI, 30, .inl (upd ST cnt k))), ((ad 15), .inl (cI, 30, .inl (upd HI cnt (sdI y)))), ((ad 16), .inl (cZ, 30, .inl KP)), ((ad 17), .inl (cI, 11, .inl NB))] H := hP
            have hD : va_D A [((ad 0), .inr (0, [.ref (ad 1), .ref (ad 9), .ref (ad 12)])), ((ad 12), .inr (3, [.ref (ad 13), .ref (ad 14), .ref (ad 15), .ref (ad 16), .ref (ad 17), .int (nI unk), .int (nI (cnt + 1)), .int sv, .int 0, .int 0])), ((ad 13), .inl (cI, 30, .inl (upd LO cnt (sdI x)))), ((ad 14), .inl (cI, 30, .inl (upd ST cnt k))), ((ad 15), .inl (cI, 30, .inl (upd HI cnt (sdI y)))), ((ad 16), .inl (cZ, 30, .inl KP)), ((ad 17), .inl (cI, 11, .inl NB))] := hD
            refine W.eq (g2 := F0 m 86 ls [.int (nI cnt)]) rfl ?_
            exact W.iret (v := (nI cnt)) hx hb hr (fun t ht hW => ⟨⟨(nI cnt), (), rfl, rfl, by rw [ht]; exact hP, va_K.moved hW.alike hK, hD⟩, hS.F ht⟩) hS.2.2 d_LR_need_86
          · exact absurd ((nI_ltI (b := 30) (by omega) (by decide)).mpr h1) c_63
        · exact absurd hk.2 c_41
    · exact absurd c_19 (by rw [if_pos hs2]; decide)

set_option maxHeartbeats 4000000 in
set_option maxRecDepth 100000 in
theorem c_LR_isSolved (l : Launch) (dC : Nat → ClassId) (dI : Nat → Nat → Nat) (cI cL cZ : ClassId) (ad : Nat → Nat) (LO ST HI KP NB : Nat → Int32) (unk cnt : Nat) (sv sk ck : Int32) (hunk : unk ≤ 10) (hcnt : cnt ≤ 30) (lo hi : Nat → Nat) (hlo : ∀ j, j < cnt → LO j = nI (lo j) ∧ lo j < 11) (hhi : ∀ j, j < cnt → HI j = nI (hi j) ∧ hi j < 11) (hC : NdC lo hi ST cnt (KP, NB, sv, sk, ck)) (sz : Nat) : Met l y_LR_isSolved (cw_LR_isSolved :: tb) (rmH 8 0 0) (va_Pc [.ref (ad 0)] (wy_P (dC, dI) classes (wLN cI cZ ad LO ST HI KP NB unk cnt sv sk ck) (tyI cI cL cZ) sz)) (wy_Q ry_i (fun r (u : NdS) => NdC lo hi ST cnt u ∧ r = SV lo hi ST cnt) (wy_B (dC, dI) classes (tyI cI cL cZ) (va_A (wLN cI cZ ad LO ST HI KP NB unk cnt sv sk ck) sz) (fun u : NdS => (wLN cI cZ ad LO ST HI u.1 u.2.1 unk cnt u.2.2.1 u.2.2.2.1 u.2.2.2.2))) (va_A (wLN cI cZ ad LO ST HI KP NB unk cnt sv sk ck) sz)) 0 0 (va_A (wLN cI cZ ad LO ST HI KP NB unk cnt sv sk ck) sz) := by
  refine Met.ofW (cc := b_LR_isSolved) (maxL := 1) (ret := (some .boolean)) (by decide +kernel) rfl ?_
  intro p e s m args below meth c s₁ B hml0 hv
  have C0 := cx_of B hml0 rfl
  obtain ⟨hx, hb, hr, hml, hown, htb, hlocks⟩ := id C0
  obtain ⟨rfl, hsz, hP, hK, hD0⟩ := hv
  subst hsz
  have hD := hD0.self (sz := s.heap.size)
  generalize hAe : va_A (wLN cI cZ ad LO ST HI KP NB unk cnt sv sk ck) s.heap.size = A at hD ⊢
  have hA : ∀ q : Nat, s.heap.size ≤ q → A q := fun q h => by rw [← hAe]; exact Or.inr h
  have hS : va_S A s.heap s.heap [] := va_S.rf
  have hl := lv_entry ([.ref (ad 0)]) (n := 1) (Nat.le_of_ble_eq_true rfl)
  rw [lg_entry_eq]
  generalize (lg_sl ([.ref (ad 0)]) ++ List.replicate (1 - (lg_sl ([.ref (ad 0)])).length) Slot.unset).toArray = ls at hl ⊢
  have hl : lv_has ls 1 [(0, .ref (ad 0))] := hl
  have hP : va_P (dC, dI) classes [((ad 0), .inr (0, [.ref (ad 1), .ref (ad 9), .ref (ad 12)])), ((ad 12), .inr (3, [.ref (ad 13), .ref (ad 14), .ref (ad 15), .ref (ad 16), .ref (ad 17), .int (nI unk), .int (nI cnt), .int sv, .int sk, .int ck])), ((ad 13), .inl (cI, 30, .inl LO)), ((ad 14), .inl (cI, 30, .inl ST)), ((ad 15), .inl (cI, 30, .inl HI)), ((ad 16), .inl (cZ, 30, .inl KP)), ((ad 17), .inl (cI, 11, .inl NB))] s.heap := hP
  have hD : va_D A [((ad 0), .inr (0, [.ref (ad 1), .ref (ad 9), .ref (ad 12)])), ((ad 12), .inr (3, [.ref (ad 13), .ref (ad 14), .ref (ad 15), .ref (ad 16), .ref (ad 17), .int (nI unk), .int (nI cnt), .int sv, .int sk, .int ck])), ((ad 13), .inl (cI, 30, .inl LO)), ((ad 14), .inl (cI, 30, .inl ST)), ((ad 15), .inl (cI, 30, .inl HI)), ((ad 16), .inl (cZ, 30, .inl KP)), ((ad 17), .inl (cI, 11, .inl NB))] := hD
  have hA0 := hA
  have hlo2 : ∀ j, j < cnt → lo j < 11 := fun j hj => (hlo j hj).2
  have hhi2 : ∀ j, j < cnt → hi j < 11 := fun j hj => (hhi j hj).2
  have hC1 : sk = 0 → ck = 0 := hC.1
  have hC2 : ¬ sk = 0 → sv = SV lo hi ST cnt ∧ (¬ sv = 0 → ∀ j, j < 10 → NB j = NV lo hi ST cnt j) ∧ (ck = 0 → ∀ j, j < cnt → KP j = 1) := hC.2.1
  have hC3 : ¬ ck = 0 → ∀ j, j < cnt → KP j = KV lo hi ST cnt j := hC.2.2
  refine lv_aload_n hx hb d_LR_isSolved_0 rfl (lv_at hl 0 rfl) ?_
  refine va_get (D := (dC, dI)) (ci := 0) (v := .ref (ad 12)) (C := R_LR) (T := F_LR) (N := 3) hx hb htb ul_LR hown hK hP 0 rfl rfl 2 (by decide) (htb _ mw_112) (fun _ h9 => h9) rfl d_LR_isSolved_1 ?_
  by_cases h0 : sk = 0
  · refine wy_callV (n := 0) (wr := [((ad 0), .inr (0, [.ref (ad 1), .ref (ad 9), .ref (ad 12)]))]) (As := []) (rest := []) ⟨hx, hb, hml, hown, htb⟩ (c_Nd_areSolved l dC dI cI cL cZ ad LO ST HI KP NB unk cnt sv sk ck hunk hcnt lo hi hlo hhi h0 s.heap.size) (gV mw_151 mw_152 mw_153 mw_4 mc_Nd_areSolved) rfl rfl (by decide +kernel) ⟨Nat.le_of_ble_eq_true rfl, Nat.le_of_ble_eq_true rfl⟩ hP hD hS hA hK [1, 2, 3, 4, 5, 6] [0] rfl rfl (by decide) (by decide) (hP.sub [1, 2, 3, 4, 5, 6] rfl) ((hD.sub [1, 2, 3, 4, 5, 6] (by decide) rfl).weaken (fun _ _ _ _ => trivial)) (ci := 3) (q0 := 0) rfl rfl rfl rfl hl.1 rfl (Nat.le_of_ble_eq_true rfl) d_LR_isSolved_4 ⟨Nat.le_of_ble_eq_true rfl, Nat.le_of_ble_eq_true rfl⟩ (fun r u H locs hpost hP hD hS => ?_)
    subst hpost
    have hP : va_P (dC, dI) classes [((ad 0), .inr (0, [.ref (ad 1), .ref (ad 9), .ref (ad 12)])), ((ad 12), .inr (3, [.ref (ad 13), .ref (ad 14), .ref (ad 15), .ref (ad 16), .ref (ad 17), .int (nI unk), .int (nI cnt), .int (cks lo hi ST (fl cnt 1 KP) cnt NB).1, .int 1, .int ck])), ((ad 13), .inl (cI, 30, .inl LO)), ((ad 14), .inl (cI, 30, .inl ST)), ((ad 15), .inl (cI, 30, .inl HI)), ((ad 16), .inl (cZ, 30, .inl (fl cnt 1 KP))), ((ad 17), .inl (cI, 11, .inl (cks lo hi ST (fl cnt 1 KP) cnt NB).2))] H := hP
    have hD : va_D A [((ad 0), .inr (0, [.ref (ad 1), .ref (ad 9), .ref (ad 12)])), ((ad 12), .inr (3, [.ref (ad 13), .ref (ad 14), .ref (ad 15), .ref (ad 16), .ref (ad 17), .int (nI unk), .int (nI cnt), .int (cks lo hi ST (fl cnt 1 KP) cnt NB).1, .int 1, .int ck])), ((ad 13), .inl (cI, 30, .inl LO)), ((ad 14), .inl (cI, 30, .inl ST)), ((ad 15), .inl (cI, 30, .inl HI)), ((ad 16), .inl (cZ, 30, .inl (fl cnt 1 KP))), ((ad 17), .inl (cI, 11, .inl (cks lo hi ST (fl cnt 1 KP) cnt NB).2))] := hD
    refine W.eq (g2 := F0 m 7 ls [.int (cks lo hi ST (fl cnt 1 KP) cnt NB).1]) rfl ?_
    exact W.zret (v := (cks lo hi ST (fl cnt 1 KP) cnt NB).1) hx hb hr (bn cks_b) (fun t ht hW => ⟨⟨(cks lo hi ST (fl cnt 1 KP) cnt NB).1, ((fl cnt 1 KP), (cks lo hi ST (fl cnt 1 KP) cnt NB).2, (cks lo hi ST (fl cnt 1 KP) cnt NB).1, 1, ck), rfl, ⟨(by rw [hC1 h0]; exact NdC.solved hlo2 hhi2 KP NB), cks_SV hlo2 hhi2 KP NB⟩, by rw [ht]; exact hP, va_K.moved hW.alike hK, hD⟩, hS.F ht⟩) hS.2.2 d_LR_isSolved_7
  · have hsv : sv = 0 ∨ sv = 1 := by rw [(hC2 h0).1]; exact SV_b
    refine ry_callV (n := 0) (As := []) (rest := []) ⟨hx, hb, hml, hown, htb⟩ (c1_Nd_areSolved l dC dI cI cL cZ ad LO ST HI KP NB unk cnt sv sk ck hunk hcnt h0 hsv) (gV mw_151 mw_152 mw_153 mw_4 mc_Nd_areSolved) rfl rfl (by decide +kernel) ⟨Nat.le_of_ble_eq_true rfl, Nat.le_of_ble_eq_true rfl⟩ (hP.sub [1, 2, 3, 4, 5, 6] rfl) hK (ci := 3) (q0 := 0) rfl rfl rfl rfl hl.1 rfl (Nat.le_of_ble_eq_true rfl) d_LR_isSolved_4 ⟨Nat.zero_le _, Nat.zero_le _⟩ (fun r_1 hr_1 => ?_)
    rw [hr_1]
    refine W.eq (g2 := F0 m 7 ls [.int sv]) rfl ?_
    exact W.zret (v := sv) hx hb hr (bn hsv) (fun t ht hW => ⟨⟨sv, (KP, NB, sv, sk, ck), rfl, ⟨hC, (hC2 h0).1⟩, by rw [ht]; exact hP, va_K.moved hW.alike hK, hD⟩, hS.F ht⟩) hS.2.2 d_LR_isSolved_7

set_option maxHeartbeats 4000000 in
set_option maxRecDepth 100000 in
theorem c0_LR_solution (l : Launch) (dC : Nat → ClassId) (dI : Nat → Nat → Nat) (cI cL cZ : ClassId) (ad : Nat → Nat) (LO ST HI KP NB : Nat → Int32) (unk cnt : Nat) (sv sk ck : Int32) (hunk : unk ≤ 10) (hcnt : cnt ≤ 30) (x : Int32) (hxx : hs x unk = 0) : Met l y_LR_solution (cw_LR_solution :: tb) (rmH 8 0 0) (va_Pc [.ref (ad 0), .int x] (ry_P (dC, dI) classes (wLN cI cZ ad LO ST HI KP NB unk cnt sv sk ck) (tyI cI cL cZ))) (ry_S ry_i (fun r => r = -1)) 0 0 (fun _ => False) := by
  refine Met.ofW (cc := b_LR_solution) (maxL := 2) (ret := (some .int)) (by decide +kernel) rfl ?_
  intro p e s m args below meth c s₁ B hml0 hv
  have C0 := cx_of B hml0 rfl
  obtain ⟨hx, hb, hr, hml, hown, htb, hlocks⟩ := id C0
  obtain ⟨rfl, hP, hK⟩ := hv
  have hl := lv_entry ([.ref (ad 0), .int x]) (n := 2) (Nat.le_of_ble_eq_true rfl)
  rw [lg_entry_eq]
  generalize (lg_sl ([.ref (ad 0), .int x]) ++ List.replicate (2 - (lg_sl ([.ref (ad 0), .int x])).length) Slot.unset).toArray = ls at hl ⊢
  have hl : lv_has ls 2 [(0, .ref (ad 0)), (1, .int x)] := hl
  have hP : va_P (dC, dI) classes [((ad 0), .inr (0, [.ref (ad 1), .ref (ad 9), .ref (ad 12)])), ((ad 12), .inr (3, [.ref (ad 13), .ref (ad 14), .ref (ad 15), .ref (ad 16), .ref (ad 17), .int (nI unk), .int (nI cnt), .int sv, .int sk, .int ck])), ((ad 13), .inl (cI, 30, .inl LO)), ((ad 14), .inl (cI, 30, .inl ST)), ((ad 15), .inl (cI, 30, .inl HI)), ((ad 16), .inl (cZ, 30, .inl KP)), ((ad 17), .inl (cI, 11, .inl NB))] s.heap := hP
  refine lv_aload_n hx hb d_LR_solution_0 rfl (lv_at hl 0 rfl) ?_
  refine va_get (D := (dC, dI)) (ci := 0) (v := .ref (ad 12)) (C := R_LR) (T := F_LR) (N := 3) hx hb htb ul_LR hown hK hP 0 rfl rfl 2 (by decide) (htb _ mw_112) (fun _ h9 => h9) rfl d_LR_solution_1 ?_
  refine lv_iload_n hx hb d_LR_solution_4 rfl (lv_at hl 1 rfl) ?_
  refine ry_callV (n := 1) (As := [.int x]) (rest := []) ⟨hx, hb, hml, hown, htb⟩ (c0_Nd_leastNumber l dC dI cI cL cZ ad LO ST HI KP NB unk cnt sv sk ck hunk hcnt x hxx) (gV mw_174 mw_175 mw_176 mw_4 mc_Nd_leastNumber) rfl rfl (by decide +kernel) ⟨Nat.le_of_ble_eq_true rfl, Nat.le_of_ble_eq_true rfl⟩ (hP.sub [1, 2, 3, 4, 5, 6] rfl) hK (ci := 3) (q0 := 0) rfl rfl rfl rfl hl.1 rfl (Nat.le_of_ble_eq_true rfl) d_LR_solution_5 ⟨Nat.zero_le _, Nat.zero_le _⟩ (fun r_1 hr_1 => ?_)
  subst hr_1
  refine W.eq (g2 := F0 m 8 ls [.int (-1)]) rfl ?_
  exact W.iret (v := (-1)) hx hb hr (fun t ht hW => ⟨(-1), rfl, rfl, ht⟩) (fun _ h => by cases h) d_LR_solution_8

set_option maxHeartbeats 4000000 in
set_option maxRecDepth 100000 in
theorem c_LR_solution (l : Launch) (dC : Nat → ClassId) (dI : Nat → Nat → Nat) (cI cL cZ : ClassId) (ad : Nat → Nat) (LO ST HI KP NB : Nat → Int32) (unk cnt : Nat) (sv sk ck : Int32) (hunk : unk ≤ 10) (hcnt : cnt ≤ 30) (lo hi : Nat → Nat) (hlo : ∀ j, j < cnt → LO j = nI (lo j) ∧ lo j < 11) (hhi : ∀ j, j < cnt → HI j = nI (hi j) ∧ hi j < 11) (hC : NdC lo hi ST cnt (KP, NB, sv, sk, ck)) (j : Nat) (hj : j < unk) (hxx : hs (nI j) unk = 1) (sz : Nat) : Met l y_LR_solution (cw_LR_solution :: tb) (rmH 8 0 0) (va_Pc [.ref (ad 0), .int (nI j)] (wy_P (dC, dI) classes (wLN cI cZ ad LO ST HI KP NB unk cnt sv sk ck) (tyI cI cL cZ) sz)) (wy_Q ry_i (fun r (u : NdS) => NdC lo hi ST cnt u ∧ r = if SV lo hi ST cnt = 0 then -1 else NV lo hi ST cnt j) (wy_B (dC, dI) classes (tyI cI cL cZ) (va_A (wLN cI cZ ad LO ST HI KP NB unk cnt sv sk ck) sz) (fun u : NdS => (wLN cI cZ ad LO ST HI u.1 u.2.1 unk cnt u.2.2.1 u.2.2.2.1 u.2.2.2.2))) (va_A (wLN cI cZ ad LO ST HI KP NB unk cnt sv sk ck) sz)) 0 0 (va_A (wLN cI cZ ad LO ST HI KP NB unk cnt sv sk ck) sz) := by
  refine Met.ofW (cc := b_LR_solution) (maxL := 2) (ret := (some .int)) (by decide +kernel) rfl ?_
  intro p e s m args below meth c s₁ B hml0 hv
  have C0 := cx_of B hml0 rfl
  obtain ⟨hx, hb, hr, hml, hown, htb, hlocks⟩ := id C0
  obtain ⟨rfl, hsz, hP, hK, hD0⟩ := hv
  subst hsz
  have hD := hD0.self (sz := s.heap.size)
  generalize hAe : va_A (wLN cI cZ ad LO ST HI KP NB unk cnt sv sk ck) s.heap.size = A at hD ⊢
  have hA : ∀ q : Nat, s.heap.size ≤ q → A q := fun q h => by rw [← hAe]; exact Or.inr h
  have hS : va_S A s.heap s.heap [] := va_S.rf
  have hl := lv_entry ([.ref (ad 0), .int (nI j)]) (n := 2) (Nat.le_of_ble_eq_true rfl)
  rw [lg_entry_eq]
  generalize (lg_sl ([.ref (ad 0), .int (nI j)]) ++ List.replicate (2 - (lg_sl ([.ref (ad 0), .int (nI j)])).length) Slot.unset).toArray = ls at hl ⊢
  have hl : lv_has ls 2 [(0, .ref (ad 0)), (1, .int (nI j))] := hl
  have hP : va_P (dC, dI) classes [((ad 0), .inr (0, [.ref (ad 1), .ref (ad 9), .ref (ad 12)])), ((ad 12), .inr (3, [.ref (ad 13), .ref (ad 14), .ref (ad 15), .ref (ad 16), .ref (ad 17), .int (nI unk), .int (nI cnt), .int sv, .int sk, .int ck])), ((ad 13), .inl (cI, 30, .inl LO)), ((ad 14), .inl (cI, 30, .inl ST)), ((ad 15), .inl (cI, 30, .inl HI)), ((ad 16), .inl (cZ, 30, .inl KP)), ((ad 17), .inl (cI, 11, .inl NB))] s.heap := hP
  have hD : va_D A [((ad 0), .inr (0, [.ref (ad 1), .ref (ad 9), .ref (ad 12)])), ((ad 12), .inr (3, [.ref (ad 13), .ref (ad 14), .ref (ad 15), .ref (ad 16), .ref (ad 17), .int (nI unk), .int (nI cnt), .int sv, .int sk, .int ck])), ((ad 13), .inl (cI, 30, .inl LO)), ((ad 14), .inl (cI, 30, .inl ST)), ((ad 15), .inl (cI, 30, .inl HI)), ((ad 16), .inl (cZ, 30, .inl KP)), ((ad 17), .inl (cI, 11, .inl NB))] := hD
  have hA0 := hA
  have hlo2 : ∀ j, j < cnt → lo j < 11 := fun j hj => (hlo j hj).2
  have hhi2 : ∀ j, j < cnt → hi j < 11 := fun j hj => (hhi j hj).2
  have hC1 : sk = 0 → ck = 0 := hC.1
  have hC2 : ¬ sk = 0 → sv = SV lo hi ST cnt ∧ (¬ sv = 0 → ∀ j, j < 10 → NB j = NV lo hi ST cnt j) ∧ (ck = 0 → ∀ j, j < cnt → KP j = 1) := hC.2.1
  have hC3 : ¬ ck = 0 → ∀ j, j < cnt → KP j = KV lo hi ST cnt j := hC.2.2
  refine lv_aload_n hx hb d_LR_solution_0 rfl (lv_at hl 0 rfl) ?_
  refine va_get (D := (dC, dI)) (ci := 0) (v := .ref (ad 12)) (C := R_LR) (T := F_LR) (N := 3) hx hb htb ul_LR hown hK hP 0 rfl rfl 2 (by decide) (htb _ mw_112) (fun _ h9 => h9) rfl d_LR_solution_1 ?_
  refine lv_iload_n hx hb d_LR_solution_4 rfl (lv_at hl 1 rfl) ?_
  by_cases h0 : sk = 0
  · refine wy_callV (n := 1) (wr := [((ad 0), .inr (0, [.ref (ad 1), .ref (ad 9), .ref (ad 12)]))]) (As := [.int (nI j)]) (rest := []) ⟨hx, hb, hml, hown, htb⟩ (c_Nd_leastNumber l dC dI cI cL cZ ad LO ST HI KP NB unk cnt sv sk ck hunk hcnt lo hi hlo hhi j hj hxx h0 s.heap.size) (gV mw_174 mw_175 mw_176 mw_4 mc_Nd_leastNumber) rfl rfl (by decide +kernel) ⟨Nat.le_of_ble_eq_true rfl, Nat.le_of_ble_eq_true rfl⟩ hP hD hS hA hK [1, 2, 3, 4, 5, 6] [0] rfl rfl (by decide) (by decide) (hP.sub [1, 2, 3, 4, 5, 6] rfl) ((hD.sub [1, 2, 3, 4, 5, 6] (by decide) rfl).weaken (fun _ _ _ _ => trivial)) (ci := 3) (q0 := 0) rfl rfl rfl rfl hl.1 rfl (Nat.le_of_ble_eq_true rfl) d_LR_solution_5 ⟨Nat.le_of_ble_eq_true rfl, Nat.le_of_ble_eq_true rfl⟩ (fun r u H locs hpost hP hD hS => ?_)
    subst hpost
    have hP : va_P (dC, dI) classes [((ad 0), .inr (0, [.ref (ad 1), .ref (ad 9), .ref (ad 12)])), ((ad 12), .inr (3, [.ref (ad 13), .ref (ad 14), .ref (ad 15), .ref (ad 16), .ref (ad 17), .int (nI unk), .int (nI cnt), .int (cks lo hi ST (fl cnt 1 KP) cnt NB).1, .int 1, .int ck])), ((ad 13), .inl (cI, 30, .inl LO)), ((ad 14), .inl (cI, 30, .inl ST)), ((ad 15), .inl (cI, 30, .inl HI)), ((ad 16), .inl (cZ, 30, .inl (fl cnt 1 KP))), ((ad 17), .inl (cI, 11, .inl (cks lo hi ST (fl cnt 1 KP) cnt NB).2))] H := hP
    have hD : va_D A [((ad 0), .inr (0, [.ref (ad 1), .ref (ad 9), .ref (ad 12)])), ((ad 12), .inr (3, [.ref (ad 13), .ref (ad 14), .ref (ad 15), .ref (ad 16), .ref (ad 17), .int (nI unk), .int (nI cnt), .int (cks lo hi ST (fl cnt 1 KP) cnt NB).1, .int 1, .int ck])), ((ad 13), .inl (cI, 30, .inl LO)), ((ad 14), .inl (cI, 30, .inl ST)), ((ad 15), .inl (cI, 30, .inl HI)), ((ad 16), .inl (cZ, 30, .inl (fl cnt 1 KP))), ((ad 17), .inl (cI, 11, .inl (cks lo hi ST (fl cnt 1 KP) cnt NB).2))] := hD
    refine W.eq (g2 := F0 m 8 ls [.int (if (cks lo hi ST (fl cnt 1 KP) cnt NB).1 = 0 then -1 else (cks lo hi ST (fl cnt 1 KP) cnt NB).2 j)]) rfl ?_
    exact W.iret (v := (if (cks lo hi ST (fl cnt 1 KP) cnt NB).1 = 0 then -1 else (cks lo hi ST (fl cnt 1 KP) cnt NB).2 j)) hx hb hr (fun t ht hW => ⟨⟨(if (cks lo hi ST (fl cnt 1 KP) cnt NB).1 = 0 then -1 else (cks lo hi ST (fl cnt 1 KP) cnt NB).2 j), ((fl cnt 1 KP), (cks lo hi ST (fl cnt 1 KP) cnt NB).2, (cks lo hi ST (fl cnt 1 KP) cnt NB).1, 1, ck), rfl, ⟨(by rw [hC1 h0]; exact NdC.solved hlo2 hhi2 KP NB), by rw [cks_SV hlo2 hhi2 KP NB, cks_NV hlo2 hhi2 KP NB j (by omega)]⟩, by rw [ht]; exact hP, va_K.moved hW.alike hK, hD⟩, hS.F ht⟩) hS.2.2 d_LR_solution_8
  · have hsv : sv = 0 ∨ sv = 1 := by rw [(hC2 h0).1]; exact SV_b
    refine ry_callV (n := 1) (As := [.int (nI j)]) (rest := []) ⟨hx, hb, hml, hown, htb⟩ (c1_Nd_leastNumber l dC dI cI cL cZ ad LO ST HI KP NB unk cnt sv sk ck hunk hcnt j hj hxx h0 hsv) (gV mw_174 mw_175 mw_176 mw_4 mc_Nd_leastNumber) rfl rfl (by decide +kernel) ⟨Nat.le_of_ble_eq_true rfl, Nat.le_of_ble_eq_true rfl⟩ (hP.sub [1, 2, 3, 4, 5, 6] rfl) hK (ci := 3) (q0 := 0) rfl rfl rfl rfl hl.1 rfl (Nat.le_of_ble_eq_true rfl) d_LR_solution_5 ⟨Nat.zero_le _, Nat.zero_le _⟩ (fun r_1 hr_1 => ?_)
    subst hr_1
    refine W.eq (g2 := F0 m 8 ls [.int (if sv = 0 then -1 else NB j)]) rfl ?_
    exact W.iret (v := (if sv = 0 then -1 else NB j)) hx hb hr (fun t ht hW => ⟨⟨(if sv = 0 then -1 else NB j), (KP, NB, sv, sk, ck), rfl, ⟨hC, nd_sol (hC2 h0).1 (fun z => (hC2 h0).2.1 z j (by omega))⟩, by rw [ht]; exact hP, va_K.moved hW.alike hK, hD⟩, hS.F ht⟩) hS.2.2 d_LR_solution_8

set_option maxHeartbeats 4000000 in
set_option maxRecDepth 100000 in
theorem c0_LR_isClash (l : Launch) (dC : Nat → ClassId) (dI : Nat → Nat → Nat) (cI cL cZ : ClassId) (ad : Nat → Nat) (LO ST HI KP NB : Nat → Int32) (unk cnt : Nat) (sv sk ck : Int32) (hunk : unk ≤ 10) (hcnt : cnt ≤ 30) (x : Int32) (hxx : hs x cnt = 0) : Met l y_LR_isClash (cw_LR_isClash :: tb) (rmH 8 0 0) (va_Pc [.ref (ad 0), .int x] (ry_P (dC, dI) classes (wLN cI cZ ad LO ST HI KP NB unk cnt sv sk ck) (tyI cI cL cZ))) (ry_S ry_i (fun r => r = 0)) 0 0 (fun _ => False) := by
  refine Met.ofW (cc := b_LR_isClash) (maxL := 2) (ret := (some .boolean)) (by decide +kernel) rfl ?_
  intro p e s m args below meth c s₁ B hml0 hv
  have C0 := cx_of B hml0 rfl
  obtain ⟨hx, hb, hr, hml, hown, htb, hlocks⟩ := id C0
  obtain ⟨rfl, hP, hK⟩ := hv
  have hl := lv_entry ([.ref (ad 0), .int x]) (n := 2) (Nat.le_of_ble_eq_true rfl)
  rw [lg_entry_eq]
  generalize (lg_sl ([.ref (ad 0), .int x]) ++ List.replicate (2 - (lg_sl ([.ref (ad 0), .int x])).length) Slot.unset).toArray = ls at hl ⊢
  have hl : lv_has ls 2 [(0, .ref (ad 0)), (1, .int x)] := hl
  have hP : va_P (dC, dI) classes [((ad 0), .inr (0, [.ref (ad 1), .ref (ad 9), .ref (ad 12)])), ((ad 12), .inr (3, [.ref (ad 13), .ref (ad 14), .ref (ad 15), .ref (ad 16), .ref (ad 17), .int (nI unk), .int (nI cnt), .int sv, .int sk, .int ck])), ((ad 13), .inl (cI, 30, .inl LO)), ((ad 14), .inl (cI, 30, .inl ST)), ((ad 15), .inl (cI, 30, .inl HI)), ((ad 16), .inl (cZ, 30, .inl KP)), ((ad 17), .inl (cI, 11, .inl NB))] s.heap := hP
  refine lv_aload_n hx hb d_LR_isClash_0 rfl (lv_at hl 0 rfl) ?_
  refine va_get (D := (dC, dI)) (ci := 0) (v := .ref (ad 12)) (C := R_LR) (T := F_LR) (N := 3) hx hb htb ul_LR hown hK hP 0 rfl rfl 2 (by decide) (htb _ mw_112) (fun _ h9 => h9) rfl d_LR_isClash_1 ?_
  refine lv_iload_n hx hb d_LR_isClash_4 rfl (lv_at hl 1 rfl) ?_
  refine ry_callV (n := 1) (As := [.int x]) (rest := []) ⟨hx, hb, hml, hown, htb⟩ (c0_Nd_isInClash l dC dI cI cL cZ ad LO ST HI KP NB unk cnt sv sk ck hunk hcnt x hxx) (gV mw_187 mw_188 mw_189 mw_4 mc_Nd_isInClash) rfl rfl (by decide +kernel) ⟨Nat.le_of_ble_eq_true rfl, Nat.le_of_ble_eq_true rfl⟩ (hP.sub [1, 2, 3, 4, 5, 6] rfl) hK (ci := 3) (q0 := 0) rfl rfl rfl rfl hl.1 rfl (Nat.le_of_ble_eq_true rfl) d_LR_isClash_5 ⟨Nat.zero_le _, Nat.zero_le _⟩ (fun r_1 hr_1 => ?_)
  rw [hr_1]
  refine W.eq (g2 := F0 m 8 ls [.int 0]) rfl ?_
  exact W.zret (v := 0) hx hb hr rfl (fun t ht hW => ⟨0, rfl, rfl, ht⟩) (fun _ h => by cases h) d_LR_isClash_8

set_option maxHeartbeats 4000000 in
set_option maxRecDepth 100000 in
theorem c_LR_isClash (l : Launch) (dC : Nat → ClassId) (dI : Nat → Nat → Nat) (cI cL cZ : ClassId) (ad : Nat → Nat) (LO ST HI KP NB : Nat → Int32) (unk cnt : Nat) (sv sk ck : Int32) (hunk : unk ≤ 10) (hcnt : cnt ≤ 30) (lo hi : Nat → Nat) (hlo : ∀ j, j < cnt → LO j = nI (lo j) ∧ lo j < 11) (hhi : ∀ j, j < cnt → HI j = nI (hi j) ∧ hi j < 11) (hC : NdC lo hi ST cnt (KP, NB, sv, sk, ck)) (j : Nat) (hj : j < cnt) (sz : Nat) : Met l y_LR_isClash (cw_LR_isClash :: tb) (rmH 8 0 0) (va_Pc [.ref (ad 0), .int (nI j)] (wy_P (dC, dI) classes (wLN cI cZ ad LO ST HI KP NB unk cnt sv sk ck) (tyI cI cL cZ) sz)) (wy_Q ry_i (fun r (u : NdS) => NdC lo hi ST cnt u ∧ r = if SV lo hi ST cnt = 0 then KV lo hi ST cnt j else 0) (wy_B (dC, dI) classes (tyI cI cL cZ) (va_A (wLN cI cZ ad LO ST HI KP NB unk cnt sv sk ck) sz) (fun u : NdS => (wLN cI cZ ad LO ST HI u.1 u.2.1 unk cnt u.2.2.1 u.2.2.2.1 u.2.2.2.2))) (va_A (wLN cI cZ ad LO ST HI KP NB unk cnt sv sk ck) sz)) 0 0 (va_A (wLN cI cZ ad LO ST HI KP NB unk cnt sv sk ck) sz) := by
  refine Met.ofW (cc := b_LR_isClash) (maxL := 2) (ret := (some .boolean)) (by decide +kernel) rfl ?_
  intro p e s m args below meth c s₁ B hml0 hv
  have C0 := cx_of B hml0 rfl
  obtain ⟨hx, hb, hr, hml, hown, htb, hlocks⟩ := id C0
  obtain ⟨rfl, hsz, hP, hK, hD0⟩ := hv
  subst hsz
  have hD := hD0.self (sz := s.heap.size)
  generalize hAe : va_A (wLN cI cZ ad LO ST HI KP NB unk cnt sv sk ck) s.heap.size = A at hD ⊢
  have hA : ∀ q : Nat, s.heap.size ≤ q → A q := fun q h => by rw [← hAe]; exact Or.inr h
  have hS : va_S A s.heap s.heap [] := va_S.rf
  have hl := lv_entry ([.ref (ad 0), .int (nI j)]) (n := 2) (Nat.le_of_ble_eq_true rfl)
  rw [lg_entry_eq]
  generalize (lg_sl ([.ref (ad 0), .int (nI j)]) ++ List.replicate (2 - (lg_sl ([.ref (ad 0), .int (nI j)])).length) Slot.unset).toArray = ls at hl ⊢
  have hl : lv_has ls 2 [(0, .ref (ad 0)), (1, .int (nI j))] := hl
  have hP : va_P (dC, dI) classes [((ad 0), .inr (0, [.ref (ad 1), .ref (ad 9), .ref (ad 12)])), ((ad 12), .inr (3, [.ref (ad 13), .ref (ad 14), .ref (ad 15), .ref (ad 16), .ref (ad 17), .int (nI unk), .int (nI cnt), .int sv, .int sk, .int ck])), ((ad 13), .inl (cI, 30, .inl LO)), ((ad 14), .inl (cI, 30, .inl ST)), ((ad 15), .inl (cI, 30, .inl HI)), ((ad 16), .inl (cZ, 30, .inl KP)), ((ad 17), .inl (cI, 11, .inl NB))] s.heap := hP
  have hD : va_D A [((ad 0), .inr (0, [.ref (ad 1), .ref (ad 9), .ref (ad 12)])), ((ad 12), .inr (3, [.ref (ad 13), .ref (ad 14), .ref (ad 15), .ref (ad 16), .ref (ad 17), .int (nI unk), .int (nI cnt), .int sv, .int sk, .int ck])), ((ad 13), .inl (cI, 30, .inl LO)), ((ad 14), .inl (cI, 30, .inl ST)), ((ad 15), .inl (cI, 30, .inl HI)), ((ad 16), .inl (cZ, 30, .inl KP)), ((ad 17), .inl (cI, 11, .inl NB))] := hD
  have hA0 := hA
  have hlo2 : ∀ j, j < cnt → lo j < 11 := fun j hj => (hlo j hj).2
  have hhi2 : ∀ j, j < cnt → hi j < 11 := fun j hj => (hhi j hj).2
  have hC1 : sk = 0 → ck = 0 := hC.1
  have hC2 : ¬ sk = 0 → sv = SV lo hi ST cnt ∧ (¬ sv = 0 → ∀ j, j < 10 → NB j = NV lo hi ST cnt j) ∧ (ck = 0 → ∀ j, j < cnt → KP j = 1) := hC.2.1
  have hC3 : ¬ ck = 0 → ∀ j, j < cnt → KP j = KV lo hi ST cnt j := hC.2.2
  refine lv_aload_n hx hb d_LR_isClash_0 rfl (lv_at hl 0 rfl) ?_
  refine va_get (D := (dC, dI)) (ci := 0) (v := .ref (ad 12)) (C := R_LR) (T := F_LR) (N := 3) hx hb htb ul_LR hown hK hP 0 rfl rfl 2 (by decide) (htb _ mw_112) (fun _ h9 => h9) rfl d_LR_isClash_1 ?_
  refine lv_iload_n hx hb d_LR_isClash_4 rfl (lv_at hl 1 rfl) ?_
  by_cases h0 : sk = 0
  · by_cases h1 : ¬ (cks lo hi ST (fl cnt 1 KP) cnt NB).1 = 0
    · refine wy_callV (n := 1) (wr := [((ad 0), .inr (0, [.ref (ad 1), .ref (ad 9), .ref (ad 12)]))]) (As := [.int (nI j)]) (rest := []) ⟨hx, hb, hml, hown, htb⟩ (c4_Nd_isInClash l dC dI cI cL cZ ad LO ST HI KP NB unk cnt sv sk ck hunk hcnt lo hi hlo hhi j hj h0 h1 s.heap.size) (gV mw_187 mw_188 mw_189 mw_4 mc_Nd_isInClash) rfl rfl (by decide +kernel) ⟨Nat.le_of_ble_eq_true rfl, Nat.le_of_ble_eq_true rfl⟩ hP hD hS hA hK [1, 2, 3, 4, 5, 6] [0] rfl rfl (by decide) (by decide) (hP.sub [1, 2, 3, 4, 5, 6] rfl) ((hD.sub [1, 2, 3, 4, 5, 6] (by decide) rfl).weaken (fun _ _ _ _ => trivial)) (ci := 3) (q0 := 0) rfl rfl rfl rfl hl.1 rfl (Nat.le_of_ble_eq_true rfl) d_LR_isClash_5 ⟨Nat.le_of_ble_eq_true rfl, Nat.le_of_ble_eq_true rfl⟩ (fun r u H locs hpost hP hD hS => ?_)
      subst hpost
      have hP : va_P (dC, dI) classes [((ad 0), .inr (0, [.ref (ad 1), .ref (ad 9), .ref (ad 12)])), ((ad 12), .inr (3, [.ref (ad 13), .ref (ad 14), .ref (ad 15), .ref (ad 16), .ref (ad 17), .int (nI unk), .int (nI cnt), .int (cks lo hi ST (fl cnt 1 KP) cnt NB).1, .int 1, .int ck])), ((ad 13), .inl (cI, 30, .inl LO)), ((ad 14), .inl (cI, 30, .inl ST)), ((ad 15), .inl (cI, 30, .inl HI)), ((ad 16), .inl (cZ, 30, .inl (fl cnt 1 KP))), ((ad 17), .inl (cI, 11, .inl (cks lo hi ST (fl cnt 1 KP) cnt NB).2))] H := hP
      have hD : va_D A [((ad 0), .inr (0, [.ref (ad 1), .ref (ad 9), .ref (ad 12)])), ((ad 12), .inr (3, [.ref (ad 13), .ref (ad 14), .ref (ad 15), .ref (ad 16), .ref (ad 17), .int (nI unk), .int (nI cnt), .int (cks lo hi ST (fl cnt 1 KP) cnt NB).1, .int 1, .int ck])), ((ad 13), .inl (cI, 30, .inl LO)), ((ad 14), .inl (cI, 30, .inl ST)), ((ad 15), .inl (cI, 30, .inl HI)), ((ad 16), .inl (cZ, 30, .inl (fl cnt 1 KP))), ((ad 17), .inl (cI, 11, .inl (cks lo hi ST (fl cnt 1 KP) cnt NB).2))] := hD
      refine W.eq (g2 := F0 m 8 ls [.int 0]) rfl ?_
      exact W.zret (v := 0) hx hb hr rfl (fun t ht hW => ⟨⟨0, ((fl cnt 1 KP), (cks lo hi ST (fl cnt 1 KP) cnt NB).2, (cks lo hi ST (fl cnt 1 KP) cnt NB).1, 1, ck), rfl, ⟨(by rw [hC1 h0]; exact NdC.solved hlo2 hhi2 KP NB), by rw [if_neg (by rw [← cks_SV hlo2 hhi2 KP NB]; exact h1)]⟩, by rw [ht]; exact hP, va_K.moved hW.alike hK, hD⟩, hS.F ht⟩) hS.2.2 d_LR_isClash_8
    · have h1 := Classical.not_not.mp h1
      have hkp : ∀ j, j < cnt → (kco lo hi ST cnt cnt (fl cnt 1 KP) (cks lo hi ST (fl cnt 1 KP) cnt NB).2).1 j = 0 ∨ (kco lo hi ST cnt cnt (fl cnt 1 KP) (cks lo hi ST (fl cnt 1 KP) cnt NB).2).1 j = 1 := kco_b cnt _ _ (fl_1 cnt KP)
      refine wy_callV (n := 1) (wr := [((ad 0), .inr (0, [.ref (ad 1), .ref (ad 9), .ref (ad 12)]))]) (As := [.int (nI j)]) (rest := []) ⟨hx, hb, hml, hown, htb⟩ (c5_Nd_isInClash l dC dI cI cL cZ ad LO ST HI KP NB unk cnt sv sk ck hunk hcnt lo hi hlo hhi j hj h0 h1 (hC1 h0) hkp s.heap.size) (gV mw_187 mw_188 mw_189 mw_4 mc_Nd_isInClash) rfl rfl (by decide +kernel) ⟨Nat.le_of_ble_eq_true rfl, Nat.le_of_ble_eq_true rfl⟩ hP hD hS hA hK [1, 2, 3, 4, 5, 6] [0] rfl rfl (by decide) (by decide) (hP.sub [1, 2, 3, 4, 5, 6] rfl) ((hD.sub [1, 2, 3, 4, 5, 6] (by decide) rfl).weaken (fun _ _ _ _ => trivial)) (ci := 3) (q0 := 0) rfl rfl rfl rfl hl.1 rfl (Nat.le_of_ble_eq_true rfl) d_LR_isClash_5 ⟨Nat.le_of_ble_eq_true rfl, Nat.le_of_ble_eq_true rfl⟩ (fun r u H locs hpost hP hD hS => ?_)
      subst hpost
      have hP : va_P (dC, dI) classes [((ad 0), .inr (0, [.ref (ad 1), .ref (ad 9), .ref (ad 12)])), ((ad 12), .inr (3, [.ref (ad 13), .ref (ad 14), .ref (ad 15), .ref (ad 16), .ref (ad 17), .int (nI unk), .int (nI cnt), .int (cks lo hi ST (fl cnt 1 KP) cnt NB).1, .int 1, .int 1])), ((ad 13), .inl (cI, 30, .inl LO)), ((ad 14), .inl (cI, 30, .inl ST)), ((ad 15), .inl (cI, 30, .inl HI)), ((ad 16), .inl (cZ, 30, .inl (kco lo hi ST cnt cnt (fl cnt 1 KP) (cks lo hi ST (fl cnt 1 KP) cnt NB).2).1)), ((ad 17), .inl (cI, 11, .inl (kco lo hi ST cnt cnt (fl cnt 1 KP) (cks lo hi ST (fl cnt 1 KP) cnt NB).2).2))] H := hP
      have hD : va_D A [((ad 0), .inr (0, [.ref (ad 1), .ref (ad 9), .ref (ad 12)])), ((ad 12), .inr (3, [.ref (ad 13), .ref (ad 14), .ref (ad 15), .ref (ad 16), .ref (ad 17), .int (nI unk), .int (nI cnt), .int (cks lo hi ST (fl cnt 1 KP) cnt NB).1, .int 1, .int 1])), ((ad 13), .inl (cI, 30, .inl LO)), ((ad 14), .inl (cI, 30, .inl ST)), ((ad 15), .inl (cI, 30, .inl HI)), ((ad 16), .inl (cZ, 30, .inl (kco lo hi ST cnt cnt (fl cnt 1 KP) (cks lo hi ST (fl cnt 1 KP) cnt NB).2).1)), ((ad 17), .inl (cI, 11, .inl (kco lo hi ST cnt cnt (fl cnt 1 KP) (cks lo hi ST (fl cnt 1 KP) cnt NB).2).2))] := hD
      refine W.eq (g2 := F0 m 8 ls [.int ((kco lo hi ST cnt cnt (fl cnt 1 KP) (cks lo hi ST (fl cnt 1 KP) cnt NB).2).1 j)]) rfl ?_
      exact W.zret (v := ((kco lo hi ST cnt cnt (fl cnt 1 KP) (cks lo hi ST (fl cnt 1 KP) cnt NB).2).1 j)) hx hb hr (bn (hkp j hj)) (fun t ht hW => ⟨⟨((kco lo hi ST cnt cnt (fl cnt 1 KP) (cks lo hi ST (fl cnt 1 KP) cnt NB).2).1 j), ((kco lo hi ST cnt cnt (fl cnt 1 KP) (cks lo hi ST (fl cnt 1 KP) cnt NB).2).1, (kco lo hi ST cnt cnt (fl cnt 1 KP) (cks lo hi ST (fl cnt 1 KP) cnt NB).2).2, (cks lo hi ST (fl cnt 1 KP) cnt NB).1, 1, 1), rfl, ⟨NdC.clash hlo2 hhi2 (by decide) (cks_SV hlo2 hhi2 KP NB) h1 (fun j hj => by rw [fl, if_pos hj]), by rw [if_pos (by rw [← cks_SV hlo2 hhi2 KP NB]; exact h1)]; exact kco_KV hlo2 hhi2 (fun j hj => by rw [fl, if_pos hj]) j hj⟩, by rw [ht]; exact hP, va_K.moved hW.alike hK, hD⟩, hS.F ht⟩) hS.2.2 d_LR_isClash_8
  · have hsv : sv = 0 ∨ sv = 1 := by rw [(hC2 h0).1]; exact SV_b
    by_cases h1 : ¬ sv = 0
    · refine ry_callV (n := 1) (As := [.int (nI j)]) (rest := []) ⟨hx, hb, hml, hown, htb⟩ (c1_Nd_isInClash l dC dI cI cL cZ ad LO ST HI KP NB unk cnt sv sk ck hunk hcnt j hj h0 hsv h1) (gV mw_187 mw_188 mw_189 mw_4 mc_Nd_isInClash) rfl rfl (by decide +kernel) ⟨Nat.le_of_ble_eq_true rfl, Nat.le_of_ble_eq_true rfl⟩ (hP.sub [1, 2, 3, 4, 5, 6] rfl) hK (ci := 3) (q0 := 0) rfl rfl rfl rfl hl.1 rfl (Nat.le_of_ble_eq_true rfl) d_LR_isClash_5 ⟨Nat.zero_le _, Nat.zero_le _⟩ (fun r_1 hr_1 => ?_)
      rw [hr_1]
      refine W.eq (g2 := F0 m 8 ls [.int 0]) rfl ?_
      exact W.zret (v := 0) hx hb hr rfl (fun t ht hW => ⟨⟨0, (KP, NB, sv, sk, ck), rfl, ⟨hC, by rw [if_neg (by rw [← (hC2 h0).1]; exact h1)]⟩, by rw [ht]; exact hP, va_K.moved hW.alike hK, hD⟩, hS.F ht⟩) hS.2.2 d_LR_isClash_8
    · have h1 := Classical.not_not.mp h1
      by_cases h2 : ¬ ck = 0
      · have hkp : ∀ j, j < cnt → KP j = 0 ∨ KP j = 1 := fun j hj => by rw [hC3 h2 j hj]; exact KV_b j hj
        refine ry_callV (n := 1) (As := [.int (nI j)]) (rest := []) ⟨hx, hb, hml, hown, htb⟩ (c2_Nd_isInClash l dC dI cI cL cZ ad LO ST HI KP NB unk cnt sv sk ck hunk hcnt j hj h0 hsv h1 h2 hkp) (gV mw_187 mw_188 mw_189 mw_4 mc_Nd_isInClash) rfl rfl (by decide +kernel) ⟨Nat.le_of_ble_eq_true rfl, Nat.le_of_ble_eq_true rfl⟩ (hP.sub [1, 2, 3, 4, 5, 6] rfl) hK (ci := 3) (q0 := 0) rfl rfl rfl rfl hl.1 rfl (Nat.le_of_ble_eq_true rfl) d_LR_isClash_5 ⟨Nat.zero_le _, Nat.zero_le _⟩ (fun r_2 hr_2 => ?_)
        subst hr_2
        refine W.eq (g2 := F0 m 8 ls [.int (KP j)]) rfl ?_
        exact W.zret (v := (KP j)) hx hb hr (bn (hkp j hj)) (fun t ht hW => ⟨⟨(KP j), (KP, NB, sv, sk, ck), rfl, ⟨hC, by rw [if_pos (by rw [← (hC2 h0).1]; exact h1)]; exact hC3 h2 j hj⟩, by rw [ht]; exact hP, va_K.moved hW.alike hK, hD⟩, hS.F ht⟩) hS.2.2 d_LR_isClash_8
      · have h2 := Classical.not_not.mp h2
        have hk1 := (hC2 h0).2.2 h2
        have hkp : ∀ j, j < cnt → (kco lo hi ST cnt cnt KP NB).1 j = 0 ∨ (kco lo hi ST cnt cnt KP NB).1 j = 1 := kco_b cnt _ _ (fun j hj => Or.inr (hk1 j hj))
        refine wy_callV (n := 1) (wr := [((ad 0), .inr (0, [.ref (ad 1), .ref (ad 9), .ref (ad 12)]))]) (As := [.int (nI j)]) (rest := []) ⟨hx, hb, hml, hown, htb⟩ (c3_Nd_isInClash l dC dI cI cL cZ ad LO ST HI KP NB unk cnt sv sk ck hunk hcnt lo hi hlo hhi j hj h0 hsv h1 h2 hkp s.heap.size) (gV mw_187 mw_188 mw_189 mw_4 mc_Nd_isInClash) rfl rfl (by decide +kernel) ⟨Nat.le_of_ble_eq_true rfl, Nat.le_of_ble_eq_true rfl⟩ hP hD hS hA hK [1, 2, 3, 4, 5, 6] [0] rfl rfl (by decide) (by decide) (hP.sub [1, 2, 3, 4, 5, 6] rfl) ((hD.sub [1, 2, 3, 4, 5, 6] (by decide) rfl).weaken (fun _ _ _ _ => trivial)) (ci := 3) (q0 := 0) rfl rfl rfl rfl hl.1 rfl (Nat.le_of_ble_eq_true rfl) d_LR_isClash_5 ⟨Nat.le_of_ble_eq_true rfl, Nat.le_of_ble_eq_true rfl⟩ (fun r u H locs hpost hP hD hS => ?_)
        subst hpost
        have hP : va_P (dC, dI) classes [((ad 0), .inr (0, [.ref (ad 1), .ref (ad 9), .ref (ad 12)])), ((ad 12), .inr (3, [.ref (ad 13), .ref (ad 14), .ref (ad 15), .ref (ad 16), .ref (ad 17), .int (nI unk), .int (nI cnt), .int sv, .int sk, .int 1])), ((ad 13), .inl (cI, 30, .inl LO)), ((ad 14), .inl (cI, 30, .inl ST)), ((ad 15), .inl (cI, 30, .inl HI)), ((ad 16), .inl (cZ, 30, .inl (kco lo hi ST cnt cnt KP NB).1)), ((ad 17), .inl (cI, 11, .inl (kco lo hi ST cnt cnt KP NB).2))] H := hP
        have hD : va_D A [((ad 0), .inr (0, [.ref (ad 1), .ref (ad 9), .ref (ad 12)])), ((ad 12), .inr (3, [.ref (ad 13), .ref (ad 14), .ref (ad 15), .ref (ad 16), .ref (ad 17), .int (nI unk), .int (nI cnt), .int sv, .int sk, .int 1])), ((ad 13), .inl (cI, 30, .inl LO)), ((ad 14), .inl (cI, 30, .inl ST)), ((ad 15), .inl (cI, 30, .inl HI)), ((ad 16), .inl (cZ, 30, .inl (kco lo hi ST cnt cnt KP NB).1)), ((ad 17), .inl (cI, 11, .inl (kco lo hi ST cnt cnt KP NB).2))] := hD
        refine W.eq (g2 := F0 m 8 ls [.int ((kco lo hi ST cnt cnt KP NB).1 j)]) rfl ?_
        exact W.zret (v := ((kco lo hi ST cnt cnt KP NB).1 j)) hx hb hr (bn (hkp j hj)) (fun t ht hW => ⟨⟨((kco lo hi ST cnt cnt KP NB).1 j), ((kco lo hi ST cnt cnt KP NB).1, (kco lo hi ST cnt cnt KP NB).2, sv, sk, 1), rfl, ⟨NdC.clash hlo2 hhi2 h0 (hC2 h0).1 h1 hk1, by rw [if_pos (by rw [← (hC2 h0).1]; exact h1)]; exact kco_KV hlo2 hhi2 hk1 j hj⟩, by rw [ht]; exact hP, va_K.moved hW.alike hK, hD⟩, hS.F ht⟩) hS.2.2 d_LR_isClash_8

set_option maxHeartbeats 4000000 in
set_option maxRecDepth 100000 in
theorem c0_LR_undo (l : Launch) (dC : Nat → ClassId) (dI : Nat → Nat → Nat) (cI cL cZ : ClassId) (ad : Nat → Nat) (LO ST HI KP NB : Nat → Int32) (unk cnt : Nat) (sv sk ck : Int32) (hunk : unk ≤ 10) (hcnt : cnt ≤ 30) (h0 : cnt = 0) (sz : Nat) : Met l y_LR_undo (cw_LR_undo :: tb) (rmH 8 0 0) (va_Pc [.ref (ad 0)] (wy_P (dC, dI) classes (wLN cI cZ ad LO ST HI KP NB unk cnt sv sk ck) (tyI cI cL cZ) sz)) (wy_Q ry_i (fun r (u : Unit) => r = 0) (wy_B (dC, dI) classes (tyI cI cL cZ) (va_A (wLN cI cZ ad LO ST HI KP NB unk cnt sv sk ck) sz) (fun u : Unit => (wLN cI cZ ad LO ST HI KP NB unk cnt sv sk ck))) (va_A (wLN cI cZ ad LO ST HI KP NB unk cnt sv sk ck) sz)) 0 0 (va_A (wLN cI cZ ad LO ST HI KP NB unk cnt sv sk ck) sz) := by
  refine Met.ofW (cc := b_LR_undo) (maxL := 1) (ret := (some .boolean)) (by decide +kernel) rfl ?_
  intro p e s m args below meth c s₁ B hml0 hv
  have C0 := cx_of B hml0 rfl
  obtain ⟨hx, hb, hr, hml, hown, htb, hlocks⟩ := id C0
  obtain ⟨rfl, hsz, hP, hK, hD0⟩ := hv
  subst hsz
  have hD := hD0.self (sz := s.heap.size)
  generalize hAe : va_A (wLN cI cZ ad LO ST HI KP NB unk cnt sv sk ck) s.heap.size = A at hD ⊢
  have hA : ∀ q : Nat, s.heap.size ≤ q → A q := fun q h => by rw [← hAe]; exact Or.inr h
  have hS : va_S A s.heap s.heap [] := va_S.rf
  have hl := lv_entry ([.ref (ad 0)]) (n := 1) (Nat.le_of_ble_eq_true rfl)
  rw [lg_entry_eq]
  generalize (lg_sl ([.ref (ad 0)]) ++ List.replicate (1 - (lg_sl ([.ref (ad 0)])).length) Slot.unset).toArray = ls at hl ⊢
  have hl : lv_has ls 1 [(0, .ref (ad 0))] := hl
  have hP : va_P (dC, dI) classes [((ad 0), .inr (0, [.ref (ad 1), .ref (ad 9), .ref (ad 12)])), ((ad 12), .inr (3, [.ref (ad 13), .ref (ad 14), .ref (ad 15), .ref (ad 16), .ref (ad 17), .int (nI unk), .int (nI cnt), .int sv, .int sk, .int ck])), ((ad 13), .inl (cI, 30, .inl LO)), ((ad 14), .inl (cI, 30, .inl ST)), ((ad 15), .inl (cI, 30, .inl HI)), ((ad 16), .inl (cZ, 30, .inl KP)), ((ad 17), .inl (cI, 11, .inl NB))] s.heap := hP
  have hD : va_D A [((ad 0), .inr (0, [.ref (ad 1), .ref (ad 9), .ref (ad 12)])), ((ad 12), .inr (3, [.ref (ad 13), .ref (ad 14), .ref (ad 15), .ref (ad 16), .ref (ad 17), .int (nI unk), .int (nI cnt), .int sv, .int sk, .int ck])), ((ad 13), .inl (cI, 30, .inl LO)), ((ad 14), .inl (cI, 30, .inl ST)), ((ad 15), .inl (cI, 30, .inl HI)), ((ad 16), .inl (cZ, 30, .inl KP)), ((ad 17), .inl (cI, 11, .inl NB))] := hD
  have hA0 := hA
  refine lv_aload_n hx hb d_LR_undo_0 rfl (lv_at hl 0 rfl) ?_
  refine va_get (D := (dC, dI)) (ci := 0) (v := .ref (ad 12)) (C := R_LR) (T := F_LR) (N := 3) hx hb htb ul_LR hown hK hP 0 rfl rfl 2 (by decide) (htb _ mw_112) (fun _ h9 => h9) rfl d_LR_undo_1 ?_
  refine wy_callV (n := 0) (wr := [((ad 0), .inr (0, [.ref (ad 1), .ref (ad 9), .ref (ad 12)]))]) (As := []) (rest := []) ⟨hx, hb, hml, hown, htb⟩ (c0_Nd_removeLatest l dC dI cI cL cZ ad LO ST HI KP NB unk cnt sv sk ck hunk hcnt h0 s.heap.size) (gV mw_199 mw_200 mw_201 mw_4 mc_Nd_removeLatest) rfl rfl (by decide +kernel) ⟨Nat.le_of_ble_eq_true rfl, Nat.le_of_ble_eq_true rfl⟩ hP hD hS hA hK [1, 2, 3, 4, 5, 6] [0] rfl rfl (by decide) (by decide) (hP.sub [1, 2, 3, 4, 5, 6] rfl) ((hD.sub [1, 2, 3, 4, 5, 6] (by decide) rfl).weaken (fun _ _ _ _ => trivial)) (ci := 3) (q0 := 0) rfl rfl rfl rfl hl.1 rfl (Nat.le_of_ble_eq_true rfl) d_LR_undo_4 ⟨Nat.le_of_ble_eq_true rfl, Nat.le_of_ble_eq_true rfl⟩ (fun r u H locs hpost hP hD hS => ?_)
  subst hpost
  have hP : va_P (dC, dI) classes [((ad 0), .inr (0, [.ref (ad 1), .ref (ad 9), .ref (ad 12)])), ((ad 12), .inr (3, [.ref (ad 13), .ref (ad 14), .ref (ad 15), .ref (ad 16), .ref (ad 17), .int (nI unk), .int (nI cnt), .int sv, .int sk, .int ck])), ((ad 13), .inl (cI, 30, .inl LO)), ((ad 14), .inl (cI, 30, .inl ST)), ((ad 15), .inl (cI, 30, .inl HI)), ((ad 16), .inl (cZ, 30, .inl KP)), ((ad 17), .inl (cI, 11, .inl NB))] H := hP
  have hD : va_D A [((ad 0), .inr (0, [.ref (ad 1), .ref (ad 9), .ref (ad 12)])), ((ad 12), .inr (3, [.ref (ad 13), .ref (ad 14), .ref (ad 15), .ref (ad 16), .ref (ad 17), .int (nI unk), .int (nI cnt), .int sv, .int sk, .int ck])), ((ad 13), .inl (cI, 30, .inl LO)), ((ad 14), .inl (cI, 30, .inl ST)), ((ad 15), .inl (cI, 30, .inl HI)), ((ad 16), .inl (cZ, 30, .inl KP)), ((ad 17), .inl (cI, 11, .inl NB))] := hD
  refine W.eq (g2 := F0 m 7 ls [.int 0]) rfl ?_
  exact W.zret (v := 0) hx hb hr rfl (fun t ht hW => ⟨⟨0, (), rfl, rfl, by rw [ht]; exact hP, va_K.moved hW.alike hK, hD⟩, hS.F ht⟩) hS.2.2 d_LR_undo_7

set_option maxHeartbeats 4000000 in
set_option maxRecDepth 100000 in
theorem c_LR_undo (l : Launch) (dC : Nat → ClassId) (dI : Nat → Nat → Nat) (cI cL cZ : ClassId) (ad : Nat → Nat) (LO ST HI KP NB : Nat → Int32) (unk cnt : Nat) (sv sk ck : Int32) (hunk : unk ≤ 10) (hcnt : cnt ≤ 30) (h0 : ¬ cnt = 0) (sz : Nat) : Met l y_LR_undo (cw_LR_undo :: tb) (rmH 8 0 0) (va_Pc [.ref (ad 0)] (wy_P (dC, dI) classes (wLN cI cZ ad LO ST HI KP NB unk cnt sv sk ck) (tyI cI cL cZ) sz)) (wy_Q ry_i (fun r (u : Unit) => r = 1) (wy_B (dC, dI) classes (tyI cI cL cZ) (va_A (wLN cI cZ ad LO ST HI KP NB unk cnt sv sk ck) sz) (fun u : Unit => (wLN cI cZ ad LO ST HI KP NB unk (cnt - 1) sv 0 0))) (va_A (wLN cI cZ ad LO ST HI KP NB unk cnt sv sk ck) sz)) 0 0 (va_A (wLN cI cZ ad LO ST HI KP NB unk cnt sv sk ck) sz) := by
  refine Met.ofW (cc := b_LR_undo) (maxL := 1) (ret := (some .boolean)) (by decide +kernel) rfl ?_
  intro p e s m args below meth c s₁ B hml0 hv
  have C0 := cx_of B hml0 rfl
  obtain ⟨hx, hb, hr, hml, hown, htb, hlocks⟩ := id C0
  obtain ⟨rfl, hsz, hP, hK, hD0⟩ := hv
  subst hsz
  have hD := hD0.self (sz := s.heap.size)
  generalize hAe : va_A (wLN cI cZ ad LO ST HI KP NB unk cnt sv sk ck) s.heap.size = A at hD ⊢
  have hA : ∀ q : Nat, s.heap.size ≤ q → A q := fun q h => by rw [← hAe]; exact Or.inr h
  have hS : va_S A s.heap s.heap [] := va_S.rf
  have hl := lv_entry ([.ref (ad 0)]) (n := 1) (Nat.le_of_ble_eq_true rfl)
  rw [lg_entry_eq]
  generalize (lg_sl ([.ref (ad 0)]) ++ List.replicate (1 - (lg_sl ([.ref (ad 0)])).length) Slot.unset).toArray = ls at hl ⊢
  have hl : lv_has ls 1 [(0, .ref (ad 0))] := hl
  have hP : va_P (dC, dI) classes [((ad 0), .inr (0, [.ref (ad 1), .ref (ad 9), .ref (ad 12)])), ((ad 12), .inr (3, [.ref (ad 13), .ref (ad 14), .ref (ad 15), .ref (ad 16), .ref (ad 17), .int (nI unk), .int (nI cnt), .int sv, .int sk, .int ck])), ((ad 13), .inl (cI, 30, .inl LO)), ((ad 14), .inl (cI, 30, .inl ST)), ((ad 15), .inl (cI, 30, .inl HI)), ((ad 16), .inl (cZ, 30, .inl KP)), ((ad 17), .inl (cI, 11, .inl NB))] s.heap := hP
  have hD : va_D A [((ad 0), .inr (0, [.ref (ad 1), .ref (ad 9), .ref (ad 12)])), ((ad 12), .inr (3, [.ref (ad 13), .ref (ad 14), .ref (ad 15), .ref (ad 16), .ref (ad 17), .int (nI unk), .int (nI cnt), .int sv, .int sk, .int ck])), ((ad 13), .inl (cI, 30, .inl LO)), ((ad 14), .inl (cI, 30, .inl ST)), ((ad 15), .inl (cI, 30, .inl HI)), ((ad 16), .inl (cZ, 30, .inl KP)), ((ad 17), .inl (cI, 11, .inl NB))] := hD
  have hA0 := hA
  refine lv_aload_n hx hb d_LR_undo_0 rfl (lv_at hl 0 rfl) ?_
  refine va_get (D := (dC, dI)) (ci := 0) (v := .ref (ad 12)) (C := R_LR) (T := F_LR) (N := 3) hx hb htb ul_LR hown hK hP 0 rfl rfl 2 (by decide) (htb _ mw_112) (fun _ h9 => h9) rfl d_LR_undo_1 ?_
  refine wy_callV (n := 0) (wr := [((ad 0), .inr (0, [.ref (ad 1), .ref (ad 9), .ref (ad 12)]))]) (As := []) (rest := []) ⟨hx, hb, hml, hown, htb⟩ (c_Nd_removeLatest l dC dI cI cL cZ ad LO ST HI KP NB unk cnt sv sk ck hunk hcnt h0 s.heap.size) (gV mw_199 mw_200 mw_201 mw_4 mc_Nd_removeLatest) rfl rfl (by decide +kernel) ⟨Nat.le_of_ble_eq_true rfl, Nat.le_of_ble_eq_true rfl⟩ hP hD hS hA hK [1, 2, 3, 4, 5, 6] [0] rfl rfl (by decide) (by decide) (hP.sub [1, 2, 3, 4, 5, 6] rfl) ((hD.sub [1, 2, 3, 4, 5, 6] (by decide) rfl).weaken (fun _ _ _ _ => trivial)) (ci := 3) (q0 := 0) rfl rfl rfl rfl hl.1 rfl (Nat.le_of_ble_eq_true rfl) d_LR_undo_4 ⟨Nat.le_of_ble_eq_true rfl, Nat.le_of_ble_eq_true rfl⟩ (fun r u H locs hpost hP hD hS => ?_)
  subst hpost
  have hP : va_P (dC, dI) classes [((ad 0), .inr (0, [.ref (ad 1), .ref (ad 9), .ref (ad 12)])), ((ad 12), .inr (3, [.ref (ad 13), .ref (ad 14), .ref (ad 15), .ref (ad 16), .ref (ad 17), .int (nI unk), .int (nI (cnt - 1)), .int sv, .int 0, .int 0])), ((ad 13), .inl (cI, 30, .inl LO)), ((ad 14), .inl (cI, 30, .inl ST)), ((ad 15), .inl (cI, 30, .inl HI)), ((ad 16), .inl (cZ, 30, .inl KP)), ((ad 17), .inl (cI, 11, .inl NB))] H := hP
  have hD : va_D A [((ad 0), .inr (0, [.ref (ad 1), .ref (ad 9), .ref (ad 12)])), ((ad 12), .inr (3, [.ref (ad 13), .ref (ad 14), .ref (ad 15), .ref (ad 16), .ref (ad 17), .int (nI unk), .int (nI (cnt - 1)), .int sv, .int 0, .int 0])), ((ad 13), .inl (cI, 30, .inl LO)), ((ad 14), .inl (cI, 30, .inl ST)), ((ad 15), .inl (cI, 30, .inl HI)), ((ad 16), .inl (cZ, 30, .inl KP)), ((ad 17), .inl (cI, 11, .inl NB))] := hD
  refine W.eq (g2 := F0 m 7 ls [.int 1]) rfl ?_
  exact W.zret (v := 1) hx hb hr rfl (fun t ht hW => ⟨⟨1, (), rfl, rfl, by rw [ht]; exact hP, va_K.moved hW.alike hK, hD⟩, hS.F ht⟩) hS.2.2 d_LR_undo_7

set_option maxHeartbeats 4000000 in
set_option maxRecDepth 100000 in
theorem c0_LR_about (l : Launch) (dC : Nat → ClassId) (dI : Nat → Nat → Nat) (cI cL cZ : ClassId) (ad : Nat → Nat) (K F S D U V : Nat → Int32) (PT : Nat → Int64) (n : Nat) (hn : n ≤ 120)  : Met l y_LR_about (cw_LR_about :: tb) (rmH 3 0 0) (va_Pc [.ref (ad 0), .int 0] (ry_P (dC, dI) classes (wLL cI cL ad K F S D U V PT n) (tyI cI cL cZ))) (ry_S ry_i (fun r => r = nI n)) 0 0 (fun _ => False) := by
  refine Met.ofW (cc := b_LR_about) (maxL := 2) (ret := (some .int)) (by decide +kernel) rfl ?_
  intro p e s m args below meth c s₁ B hml0 hv
  have C0 := cx_of B hml0 rfl
  obtain ⟨hx, hb, hr, hml, hown, htb, hlocks⟩ := id C0
  obtain ⟨rfl, hP, hK⟩ := hv
  have hl := lv_entry ([.ref (ad 0), .int 0]) (n := 2) (Nat.le_of_ble_eq_true rfl)
  rw [lg_entry_eq]
  generalize (lg_sl ([.ref (ad 0), .int 0]) ++ List.replicate (2 - (lg_sl ([.ref (ad 0), .int 0])).length) Slot.unset).toArray = ls at hl ⊢
  have hl : lv_has ls 2 [(0, .ref (ad 0)), (1, .int 0)] := hl
  have hP : va_P (dC, dI) classes [((ad 0), .inr (0, [.ref (ad 1), .ref (ad 9), .ref (ad 12)])), ((ad 1), .inr (1, [.ref (ad 2), .ref (ad 3), .ref (ad 4), .ref (ad 5), .ref (ad 6), .ref (ad 7), .ref (ad 8), .int (nI n)])), ((ad 2), .inl (cI, 120, .inl K)), ((ad 3), .inl (cI, 120, .inl F)), ((ad 4), .inl (cI, 120, .inl S)), ((ad 5), .inl (cI, 120, .inl D)), ((ad 6), .inl (cI, 120, .inl U)), ((ad 7), .inl (cI, 120, .inl V)), ((ad 8), .inl (cL, 3840, .inr (.inl PT)))] s.heap := hP
  refine lv_iload_n hx hb d_LR_about_0 rfl (lv_at hl 1 rfl) ?_
  refine lv_tableIn (off := 27) (tgt := 28) hx hb d_LR_about_1 (by decide) (by decide) (by decide) (by decide) ?_
  refine lv_aload_n hx hb d_LR_about_28 rfl (lv_at hl 0 rfl) ?_
  refine va_get (D := (dC, dI)) (ci := 0) (v := .ref (ad 1)) (C := R_LR) (T := F_LR) (N := 3) hx hb htb ul_LR hown hK hP 0 rfl rfl 0 (by decide) (htb _ mw_110) (fun _ h9 => h9) rfl d_LR_about_29 ?_
  refine ry_callV (n := 0) (As := []) (rest := []) ⟨hx, hb, hml, hown, htb⟩ (c_Lv_size l dC dI cI cL cZ ad K F S D U V PT n hn) (gV mw_211 mw_212 mw_213 mw_2 mc_Lv_size) rfl rfl (by decide +kernel) ⟨Nat.le_of_ble_eq_true rfl, Nat.le_of_ble_eq_true rfl⟩ (hP.sub [1, 2, 3, 4, 5, 6, 7, 8] rfl) hK (ci := 1) (q0 := 0) rfl rfl rfl rfl hl.1 rfl (Nat.le_of_ble_eq_true rfl) d_LR_about_32 ⟨Nat.zero_le _, Nat.zero_le _⟩ (fun r_1 hr_1 => ?_)
  subst hr_1
  refine W.eq (g2 := F0 m 35 ls [.int (nI n)]) rfl ?_
  exact W.iret (v := (nI n)) hx hb hr (fun t ht hW => ⟨(nI n), rfl, rfl, ht⟩) (fun _ h => by cases h) d_LR_about_35

set_option maxHeartbeats 4000000 in
set_option maxRecDepth 100000 in
theorem c1_LR_about (l : Launch) (dC : Nat → ClassId) (dI : Nat → Nat → Nat) (cI cL cZ : ClassId) (ad : Nat → Nat) (LO ST HI KP NB : Nat → Int32) (unk cnt : Nat) (sv sk ck : Int32) (hunk : unk ≤ 10) (hcnt : cnt ≤ 30)  : Met l y_LR_about (cw_LR_about :: tb) (rmH 3 0 0) (va_Pc [.ref (ad 0), .int 1] (ry_P (dC, dI) classes (wLN cI cZ ad LO ST HI KP NB unk cnt sv sk ck) (tyI cI cL cZ))) (ry_S ry_i (fun r => r = nI unk)) 0 0 (fun _ => False) := by
  refine Met.ofW (cc := b_LR_about) (maxL := 2) (ret := (some .int)) (by decide +kernel) rfl ?_
  intro p e s m args below meth c s₁ B hml0 hv
  have C0 := cx_of B hml0 rfl
  obtain ⟨hx, hb, hr, hml, hown, htb, hlocks⟩ := id C0
  obtain ⟨rfl, hP, hK⟩ := hv
  have hl := lv_entry ([.ref (ad 0), .int 1]) (n := 2) (Nat.le_of_ble_eq_true rfl)
  rw [lg_entry_eq]
  generalize (lg_sl ([.ref (ad 0), .int 1]) ++ List.replicate (2 - (lg_sl ([.ref (ad 0), .int 1])).length) Slot.unset).toArray = ls at hl ⊢
  have hl : lv_has ls 2 [(0, .ref (ad 0)), (1, .int 1)] := hl
  have hP : va_P (dC, dI) classes [((ad 0), .inr (0, [.ref (ad 1), .ref (ad 9), .ref (ad 12)])), ((ad 12), .inr (3, [.ref (ad 13), .ref (ad 14), .ref (ad 15), .ref (ad 16), .ref (ad 17), .int (nI unk), .int (nI cnt), .int sv, .int sk, .int ck])), ((ad 13), .inl (cI, 30, .inl LO)), ((ad 14), .inl (cI, 30, .inl ST)), ((ad 15), .inl (cI, 30, .inl HI)), ((ad 16), .inl (cZ, 30, .inl KP)), ((ad 17), .inl (cI, 11, .inl NB))] s.heap := hP
  refine lv_iload_n hx hb d_LR_about_0 rfl (lv_at hl 1 rfl) ?_
  refine lv_tableIn (off := 35) (tgt := 36) hx hb d_LR_about_1 (by decide) (by decide) (by decide) (by decide) ?_
  refine lv_aload_n hx hb d_LR_about_36 rfl (lv_at hl 0 rfl) ?_
  refine va_get (D := (dC, dI)) (ci := 0) (v := .ref (ad 12)) (C := R_LR) (T := F_LR) (N := 3) hx hb htb ul_LR hown hK hP 0 rfl rfl 2 (by decide) (htb _ mw_112) (fun _ h9 => h9) rfl d_LR_about_37 ?_
  refine ry_callV (n := 0) (As := []) (rest := []) ⟨hx, hb, hml, hown, htb⟩ (c_Nd_unknowns l dC dI cI cL cZ ad LO ST HI KP NB unk cnt sv sk ck hunk hcnt) (gV mw_215 mw_216 mw_217 mw_4 mc_Nd_unknowns) rfl rfl (by decide +kernel) ⟨Nat.le_of_ble_eq_true rfl, Nat.le_of_ble_eq_true rfl⟩ (hP.sub [1, 2, 3, 4, 5, 6] rfl) hK (ci := 3) (q0 := 0) rfl rfl rfl rfl hl.1 rfl (Nat.le_of_ble_eq_true rfl) d_LR_about_40 ⟨Nat.zero_le _, Nat.zero_le _⟩ (fun r_1 hr_1 => ?_)
  subst hr_1
  refine W.eq (g2 := F0 m 43 ls [.int (nI unk)]) rfl ?_
  exact W.iret (v := (nI unk)) hx hb hr (fun t ht hW => ⟨(nI unk), rfl, rfl, ht⟩) (fun _ h => by cases h) d_LR_about_43

set_option maxHeartbeats 4000000 in
set_option maxRecDepth 100000 in
theorem c2_LR_about (l : Launch) (dC : Nat → ClassId) (dI : Nat → Nat → Nat) (cI cL cZ : ClassId) (ad : Nat → Nat) (LO ST HI KP NB : Nat → Int32) (unk cnt : Nat) (sv sk ck : Int32) (hunk : unk ≤ 10) (hcnt : cnt ≤ 30)  : Met l y_LR_about (cw_LR_about :: tb) (rmH 3 0 0) (va_Pc [.ref (ad 0), .int 2] (ry_P (dC, dI) classes (wLN cI cZ ad LO ST HI KP NB unk cnt sv sk ck) (tyI cI cL cZ))) (ry_S ry_i (fun r => r = nI cnt)) 0 0 (fun _ => False) := by
  refine Met.ofW (cc := b_LR_about) (maxL := 2) (ret := (some .int)) (by decide +kernel) rfl ?_
  intro p e s m args below meth c s₁ B hml0 hv
  have C0 := cx_of B hml0 rfl
  obtain ⟨hx, hb, hr, hml, hown, htb, hlocks⟩ := id C0
  obtain ⟨rfl, hP, hK⟩ := hv
  have hl := lv_entry ([.ref (ad 0), .int 2]) (n := 2) (Nat.le_of_ble_eq_true rfl)
  rw [lg_entry_eq]
  generalize (lg_sl ([.ref (ad 0), .int 2]) ++ List.replicate (2 - (lg_sl ([.ref (ad 0), .int 2])).length) Slot.unset).toArray = ls at hl ⊢
  have hl : lv_has ls 2 [(0, .ref (ad 0)), (1, .int 2)] := hl
  have hP : va_P (dC, dI) classes [((ad 0), .inr (0, [.ref (ad 1), .ref (ad 9), .ref (ad 12)])), ((ad 12), .inr (3, [.ref (ad 13), .ref (ad 14), .ref (ad 15), .ref (ad 16), .ref (ad 17), .int (nI unk), .int (nI cnt), .int sv, .int sk, .int ck])), ((ad 13), .inl (cI, 30, .inl LO)), ((ad 14), .inl (cI, 30, .inl ST)), ((ad 15), .inl (cI, 30, .inl HI)), ((ad 16), .inl (cZ, 30, .inl KP)), ((ad 17), .inl (cI, 11, .inl NB))] s.heap := hP
  refine lv_iload_n hx hb d_LR_about_0 rfl (lv_at hl 1 rfl) ?_
  refine lv_tableIn (off := 43) (tgt := 44) hx hb d_LR_about_1 (by decide) (by decide) (by decide) (by decide) ?_
  refine lv_aload_n hx hb d_LR_about_44 rfl (lv_at hl 0 rfl) ?_
  refine va_get (D := (dC, dI)) (ci := 0) (v := .ref (ad 12)) (C := R_LR) (T := F_LR) (N := 3) hx hb htb ul_LR hown hK hP 0 rfl rfl 2 (by decide) (htb _ mw_112) (fun _ h9 => h9) rfl d_LR_about_45 ?_
  refine ry_callV (n := 0) (As := []) (rest := []) ⟨hx, hb, hml, hown, htb⟩ (c_Nd_size l dC dI cI cL cZ ad LO ST HI KP NB unk cnt sv sk ck hunk hcnt) (gV mw_219 mw_220 mw_221 mw_4 mc_Nd_size) rfl rfl (by decide +kernel) ⟨Nat.le_of_ble_eq_true rfl, Nat.le_of_ble_eq_true rfl⟩ (hP.sub [1, 2, 3, 4, 5, 6] rfl) hK (ci := 3) (q0 := 0) rfl rfl rfl rfl hl.1 rfl (Nat.le_of_ble_eq_true rfl) d_LR_about_48 ⟨Nat.zero_le _, Nat.zero_le _⟩ (fun r_1 hr_1 => ?_)
  subst hr_1
  refine W.eq (g2 := F0 m 51 ls [.int (nI cnt)]) rfl ?_
  exact W.iret (v := (nI cnt)) hx hb hr (fun t ht hW => ⟨(nI cnt), rfl, rfl, ht⟩) (fun _ h => by cases h) d_LR_about_51

set_option maxHeartbeats 4000000 in
set_option maxRecDepth 100000 in
theorem c3_LR_about (l : Launch) (dC : Nat → ClassId) (dI : Nat → Nat → Nat) (cI cL cZ : ClassId) (ad : Nat → Nat) (K F S D U V : Nat → Int32) (PT : Nat → Int64) (n : Nat) (hn : n ≤ 120) (x : Int32) (h9 : x.toInt < 0 ∨ 2 < x.toInt) : Met l y_LR_about (cw_LR_about :: tb) (rmH 3 0 0) (va_Pc [.ref (ad 0), .int x] (ry_P (dC, dI) classes (wLL cI cL ad K F S D U V PT n) (tyI cI cL cZ))) (ry_S ry_i (fun r => r = -1)) 0 0 (fun _ => False) := by
  refine Met.ofW (cc := b_LR_about) (maxL := 2) (ret := (some .int)) (by decide +kernel) rfl ?_
  intro p e s m args below meth c s₁ B hml0 hv
  have C0 := cx_of B hml0 rfl
  obtain ⟨hx, hb, hr, hml, hown, htb, hlocks⟩ := id C0
  obtain ⟨rfl, hP, hK⟩ := hv
  have hl := lv_entry ([.ref (ad 0), .int x]) (n := 2) (Nat.le_of_ble_eq_true rfl)
  rw [lg_entry_eq]
  generalize (lg_sl ([.ref (ad 0), .int x]) ++ List.replicate (2 - (lg_sl ([.ref (ad 0), .int x])).length) Slot.unset).toArray = ls at hl ⊢
  have hl : lv_has ls 2 [(0, .ref (ad 0)), (1, .int x)] := hl
  have hP : va_P (dC, dI) classes [((ad 0), .inr (0, [.ref (ad 1), .ref (ad 9), .ref (ad 12)])), ((ad 1), .inr (1, [.ref (ad 2), .ref (ad 3), .ref (ad 4), .ref (ad 5), .ref (ad 6), .ref (ad 7), .ref (ad 8), .int (nI n)])), ((ad 2), .inl (cI, 120, .inl K)), ((ad 3), .inl (cI, 120, .inl F)), ((ad 4), .inl (cI, 120, .inl S)), ((ad 5), .inl (cI, 120, .inl D)), ((ad 6), .inl (cI, 120, .inl U)), ((ad 7), .inl (cI, 120, .inl V)), ((ad 8), .inl (cL, 3840, .inr (.inl PT)))] s.heap := hP
  refine lv_iload_n hx hb d_LR_about_0 rfl (lv_at hl 1 rfl) ?_
  refine lv_tableOut (tgt := 52) hx hb d_LR_about_1 h9 (by decide) ?_
  refine lv_iconst (v := (-1)) hx hb d_LR_about_52 (by decide) ?_
  exact W.iret (v := (-1)) hx hb hr (fun t ht hW => ⟨(-1), rfl, rfl, ht⟩) (fun _ h => by cases h) d_LR_about_53
