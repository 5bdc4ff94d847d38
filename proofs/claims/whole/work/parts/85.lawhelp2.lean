set_option maxHeartbeats 4000000 in
set_option maxRecDepth 100000 in
theorem c0_Law_part (l : Launch) (htr : ∀ e, l.admits e → e.platform.stackTraces = false) (dC : Nat → ClassId) (dI : Nat → Nat → Nat) (cI cL cZ : ClassId) (ad : Nat → Nat) (J : Nat → Int64) (K F S D U V : Nat → Int32) (PT : Nat → Int64) (n : Nat) (hn : n ≤ 120) (x g p9 : Int32) (hbd : badp n x g p9) (sz : Nat) : Met l y_Law_part (cw_Law_part :: tb) (rmH 9 1 6) (va_Pc [.ref (ad 0), .int x, .int g, .int p9, .ref (ad 18)] (wh_P (dC, dI) classes (wHL cI cL ad J K F S D U V PT n) (tyI cI cL cZ) sz)) (wy_Q ry_i (fun r (u : Unit) => r = 1) (wy_B (dC, dI) classes (tyI cI cL cZ) (va_A (wHL cI cL ad J K F S D U V PT n) sz) (fun u : Unit => (wHL cI cL ad J K F S D U V PT n))) (va_A (wHL cI cL ad J K F S D U V PT n) sz)) 1 6 (va_A (wHL cI cL ad J K F S D U V PT n) sz) := by
  refine wx_ofWH (cc := b_Law_part) (maxL := 6) (ret := (some .int)) (by decide +kernel) rfl ?_
  intro p e s m args below meth c s₁ B hml0 hes hv
  have C0 := cx_of B hml0 rfl
  obtain ⟨hx, hb, hr, hml, hown, htb, hlocks⟩ := id C0
  obtain ⟨rfl, ⟨⟨hsz, hP, hK, hD0⟩, hth, hst⟩, hnc⟩ := hv
  subst hsz
  have hD := hD0.self (sz := s.heap.size)
  generalize hAe : va_A (wHL cI cL ad J K F S D U V PT n) s.heap.size = A at hD hth ⊢
  have hA : ∀ q : Nat, s.heap.size ≤ q → A q := fun q h => by rw [← hAe]; exact Or.inr h
  have hS : va_S A s.heap s.heap [] := va_S.rf
  have hl := lv_entry ([.ref (ad 0), .int x, .int g, .int p9, .ref (ad 18)]) (n := 6) (Nat.le_of_ble_eq_true rfl)
  rw [lg_entry_eq]
  generalize (lg_sl ([.ref (ad 0), .int x, .int g, .int p9, .ref (ad 18)]) ++ List.replicate (6 - (lg_sl ([.ref (ad 0), .int x, .int g, .int p9, .ref (ad 18)])).length) Slot.unset).toArray = ls at hl ⊢
  have hl : lv_has ls 6 [(0, .ref (ad 0)), (1, .int x), (2, .int g), (3, .int p9), (4, .ref (ad 18))] := hl
  have hP : va_P (dC, dI) classes [((ad 18), .inl (cL, 1, .inr (.inl J))), ((ad 0), .inr (0, [.ref (ad 1), .ref (ad 9), .ref (ad 12)])), ((ad 1), .inr (1, [.ref (ad 2), .ref (ad 3), .ref (ad 4), .ref (ad 5), .ref (ad 6), .ref (ad 7), .ref (ad 8), .int (nI n)])), ((ad 2), .inl (cI, 120, .inl K)), ((ad 3), .inl (cI, 120, .inl F)), ((ad 4), .inl (cI, 120, .inl S)), ((ad 5), .inl (cI, 120, .inl D)), ((ad 6), .inl (cI, 120, .inl U)), ((ad 7), .inl (cI, 120, .inl V)), ((ad 8), .inl (cL, 3840, .inr (.inl PT)))] s.heap := hP
  have hD : va_D A [((ad 18), .inl (cL, 1, .inr (.inl J))), ((ad 0), .inr (0, [.ref (ad 1), .ref (ad 9), .ref (ad 12)])), ((ad 1), .inr (1, [.ref (ad 2), .ref (ad 3), .ref (ad 4), .ref (ad 5), .ref (ad 6), .ref (ad 7), .ref (ad 8), .int (nI n)])), ((ad 2), .inl (cI, 120, .inl K)), ((ad 3), .inl (cI, 120, .inl F)), ((ad 4), .inl (cI, 120, .inl S)), ((ad 5), .inl (cI, 120, .inl D)), ((ad 6), .inl (cI, 120, .inl U)), ((ad 7), .inl (cI, 120, .inl V)), ((ad 8), .inl (cL, 3840, .inr (.inl PT)))] := hD
  refine lv_aload hx hb d_Law_part_0 (lv_at hl 4 rfl) ?_
  refine lv_iconst (v := 0) hx hb d_Law_part_2 (by decide) ?_
  refine lv_aload_n hx hb d_Law_part_3 rfl (lv_at hl 0 rfl) ?_
  refine lv_iload_n hx hb d_Law_part_4 rfl (lv_at hl 1 rfl) ?_
  refine lv_iload_n hx hb d_Law_part_5 rfl (lv_at hl 2 rfl) ?_
  refine lv_iload_n hx hb d_Law_part_6 rfl (lv_at hl 3 rfl) ?_
  rcases badp_c (by omega) hbd with hp | ⟨hp, hg⟩ | ⟨hp, g9, hg, rfl, hq1, hq⟩
  · refine wz_callV (n := 3) (wr := [((ad 18), .inl (cL, 1, .inr (.inl J)))]) (As := [.int x, .int g, .int p9]) (rest := [.int 0, .ref (ad 18)]) ⟨hx, hb, hml, hown, htb⟩ (c0_LR_part l htr dC dI cI cL cZ ad K F S D U V PT n hn x g p9 hp s.heap.size) (gV mw_444 mw_445 mw_446 mw_1 mc_LR_part) rfl rfl (by decide +kernel) ⟨Nat.le_of_ble_eq_true rfl, Nat.le_of_ble_eq_true rfl⟩ hth hst hP hD hS hA hK [1, 2, 3, 4, 5, 6, 7, 8, 9] [0] rfl rfl (by decide) (by decide) (hP.sub [1, 2, 3, 4, 5, 6, 7, 8, 9] rfl) ((hD.sub [1, 2, 3, 4, 5, 6, 7, 8, 9] (by decide) rfl).weaken (fun _ _ _ _ => trivial)) (ci := 0) (q0 := 0) rfl rfl rfl rfl hl.1 rfl (Nat.le_of_ble_eq_true rfl) d_Law_part_7 ⟨Nat.le_of_ble_eq_true rfl, Nat.le_of_ble_eq_true rfl⟩ (fun r u H locs hpost hP hD hS => ?_) (fun xx X u H locs hpt hex hP hD hS => ?_)
    · exact hpost.elim
    · subst hpt
      have hP : va_P (dC, dI) classes [((ad 18), .inl (cL, 1, .inr (.inl J))), ((ad 0), .inr (0, [.ref (ad 1), .ref (ad 9), .ref (ad 12)])), ((ad 1), .inr (1, [.ref (ad 2), .ref (ad 3), .ref (ad 4), .ref (ad 5), .ref (ad 6), .ref (ad 7), .ref (ad 8), .int (nI n)])), ((ad 2), .inl (cI, 120, .inl K)), ((ad 3), .inl (cI, 120, .inl F)), ((ad 4), .inl (cI, 120, .inl S)), ((ad 5), .inl (cI, 120, .inl D)), ((ad 6), .inl (cI, 120, .inl U)), ((ad 7), .inl (cI, 120, .inl V)), ((ad 8), .inl (cL, 3840, .inr (.inl PT)))] H := hP
      have hD : va_D A [((ad 18), .inl (cL, 1, .inr (.inl J))), ((ad 0), .inr (0, [.ref (ad 1), .ref (ad 9), .ref (ad 12)])), ((ad 1), .inr (1, [.ref (ad 2), .ref (ad 3), .ref (ad 4), .ref (ad 5), .ref (ad 6), .ref (ad 7), .ref (ad 8), .int (nI n)])), ((ad 2), .inl (cI, 120, .inl K)), ((ad 3), .inl (cI, 120, .inl F)), ((ad 4), .inl (cI, 120, .inl S)), ((ad 5), .inl (cI, 120, .inl D)), ((ad 6), .inl (cI, 120, .inl U)), ((ad 7), .inl (cI, 120, .inl V)), ((ad 8), .inl (cL, 3840, .inr (.inl PT)))] := hD
      refine wx_catch (own := R_Law) (X := "java/lang/IndexOutOfBoundsException") hown hes hex (Or.inl ⟨rfl, by decide, rfl, "java/lang/IndexOutOfBoundsException", htb _ mw_364, cs_of (htb _ mw_13)⟩) ?_
      refine lv_astore (lv' := [(5, .ref xx), (0, .ref (ad 0)), (1, .int x), (2, .int g), (3, .int p9), (4, .ref (ad 18))]) hx hb d_Law_part_15 hl (by decide) rfl (fun ls hl => ?_)
      refine lv_iconst (v := 1) hx hb d_Law_part_17 (by decide) ?_
      refine W.widen (k := 1) (n := 6) (Nat.le_of_ble_eq_true rfl) (Nat.le_of_ble_eq_true rfl) ?_
      exact W.iret (v := 1) hx hb hr (fun t ht hW => ⟨⟨1, (), rfl, rfl, by rw [ht]; exact hP, va_K.moved hW.alike hK, hD⟩, hS.F ht⟩) hS.2.2 d_Law_part_18
  · refine wz_callV (n := 3) (wr := [((ad 18), .inl (cL, 1, .inr (.inl J)))]) (As := [.int x, .int g, .int p9]) (rest := [.int 0, .ref (ad 18)]) ⟨hx, hb, hml, hown, htb⟩ (c1_LR_part l htr dC dI cI cL cZ ad K F S D U V PT n hn x g p9 hp hg s.heap.size) (gV mw_444 mw_445 mw_446 mw_1 mc_LR_part) rfl rfl (by decide +kernel) ⟨Nat.le_of_ble_eq_true rfl, Nat.le_of_ble_eq_true rfl⟩ hth hst hP hD hS hA hK [1, 2, 3, 4, 5, 6, 7, 8, 9] [0] rfl rfl (by decide) (by decide) (hP.sub [1, 2, 3, 4, 5, 6, 7, 8, 9] rfl) ((hD.sub [1, 2, 3, 4, 5, 6, 7, 8, 9] (by decide) rfl).weaken (fun _ _ _ _ => trivial)) (ci := 0) (q0 := 0) rfl rfl rfl rfl hl.1 rfl (Nat.le_of_ble_eq_true rfl) d_Law_part_7 ⟨Nat.le_of_ble_eq_true rfl, Nat.le_of_ble_eq_true rfl⟩ (fun r u H locs hpost hP hD hS => ?_) (fun xx X u H locs hpt hex hP hD hS => ?_)
    · exact hpost.elim
    · subst hpt
      have hP : va_P (dC, dI) classes [((ad 18), .inl (cL, 1, .inr (.inl J))), ((ad 0), .inr (0, [.ref (ad 1), .ref (ad 9), .ref (ad 12)])), ((ad 1), .inr (1, [.ref (ad 2), .ref (ad 3), .ref (ad 4), .ref (ad 5), .ref (ad 6), .ref (ad 7), .ref (ad 8), .int (nI n)])), ((ad 2), .inl (cI, 120, .inl K)), ((ad 3), .inl (cI, 120, .inl F)), ((ad 4), .inl (cI, 120, .inl S)), ((ad 5), .inl (cI, 120, .inl D)), ((ad 6), .inl (cI, 120, .inl U)), ((ad 7), .inl (cI, 120, .inl V)), ((ad 8), .inl (cL, 3840, .inr (.inl PT)))] H := hP
      have hD : va_D A [((ad 18), .inl (cL, 1, .inr (.inl J))), ((ad 0), .inr (0, [.ref (ad 1), .ref (ad 9), .ref (ad 12)])), ((ad 1), .inr (1, [.ref (ad 2), .ref (ad 3), .ref (ad 4), .ref (ad 5), .ref (ad 6), .ref (ad 7), .ref (ad 8), .int (nI n)])), ((ad 2), .inl (cI, 120, .inl K)), ((ad 3), .inl (cI, 120, .inl F)), ((ad 4), .inl (cI, 120, .inl S)), ((ad 5), .inl (cI, 120, .inl D)), ((ad 6), .inl (cI, 120, .inl U)), ((ad 7), .inl (cI, 120, .inl V)), ((ad 8), .inl (cL, 3840, .inr (.inl PT)))] := hD
      refine wx_catch (own := R_Law) (X := "java/lang/IndexOutOfBoundsException") hown hes hex (Or.inl ⟨rfl, by decide, rfl, "java/lang/IndexOutOfBoundsException", htb _ mw_364, cs_of (htb _ mw_13)⟩) ?_
      refine lv_astore (lv' := [(5, .ref xx), (0, .ref (ad 0)), (1, .int x), (2, .int g), (3, .int p9), (4, .ref (ad 18))]) hx hb d_Law_part_15 hl (by decide) rfl (fun ls hl => ?_)
      refine lv_iconst (v := 1) hx hb d_Law_part_17 (by decide) ?_
      refine W.widen (k := 1) (n := 6) (Nat.le_of_ble_eq_true rfl) (Nat.le_of_ble_eq_true rfl) ?_
      exact W.iret (v := 1) hx hb hr (fun t ht hW => ⟨⟨1, (), rfl, rfl, by rw [ht]; exact hP, va_K.moved hW.alike hK, hD⟩, hS.F ht⟩) hS.2.2 d_Law_part_18
  · refine wz_callV (n := 3) (wr := [((ad 18), .inl (cL, 1, .inr (.inl J)))]) (As := [.int x, .int (nI g9), .int p9]) (rest := [.int 0, .ref (ad 18)]) ⟨hx, hb, hml, hown, htb⟩ (c2_LR_part l htr dC dI cI cL cZ ad K F S D U V PT n hn x g9 p9 hp hg hq1 hq s.heap.size) (gV mw_444 mw_445 mw_446 mw_1 mc_LR_part) rfl rfl (by decide +kernel) ⟨Nat.le_of_ble_eq_true rfl, Nat.le_of_ble_eq_true rfl⟩ hth hst hP hD hS hA hK [1, 2, 3, 4, 5, 6, 7, 8, 9] [0] rfl rfl (by decide) (by decide) (hP.sub [1, 2, 3, 4, 5, 6, 7, 8, 9] rfl) ((hD.sub [1, 2, 3, 4, 5, 6, 7, 8, 9] (by decide) rfl).weaken (fun _ _ _ _ => trivial)) (ci := 0) (q0 := 0) rfl rfl rfl rfl hl.1 rfl (Nat.le_of_ble_eq_true rfl) d_Law_part_7 ⟨Nat.le_of_ble_eq_true rfl, Nat.le_of_ble_eq_true rfl⟩ (fun r u H locs hpost hP hD hS => ?_) (fun xx X u H locs hpt hex hP hD hS => ?_)
    · exact hpost.elim
    · subst hpt
      have hP : va_P (dC, dI) classes [((ad 18), .inl (cL, 1, .inr (.inl J))), ((ad 0), .inr (0, [.ref (ad 1), .ref (ad 9), .ref (ad 12)])), ((ad 1), .inr (1, [.ref (ad 2), .ref (ad 3), .ref (ad 4), .ref (ad 5), .ref (ad 6), .ref (ad 7), .ref (ad 8), .int (nI n)])), ((ad 2), .inl (cI, 120, .inl K)), ((ad 3), .inl (cI, 120, .inl F)), ((ad 4), .inl (cI, 120, .inl S)), ((ad 5), .inl (cI, 120, .inl D)), ((ad 6), .inl (cI, 120, .inl U)), ((ad 7), .inl (cI, 120, .inl V)), ((ad 8), .inl (cL, 3840, .inr (.inl PT)))] H := hP
      have hD : va_D A [((ad 18), .inl (cL, 1, .inr (.inl J))), ((ad 0), .inr (0, [.ref (ad 1), .ref (ad 9), .ref (ad 12)])), ((ad 1), .inr (1, [.ref (ad 2), .ref (ad 3), .ref (ad 4), .ref (ad 5), .ref (ad 6), .ref (ad 7), .ref (ad 8), .int (nI n)])), ((ad 2), .inl (cI, 120, .inl K)), ((ad 3), .inl (cI, 120, .inl F)), ((ad 4), .inl (cI, 120, .inl S)), ((ad 5), .inl (cI, 120, .inl D)), ((ad 6), .inl (cI, 120, .inl U)), ((ad 7), .inl (cI, 120, .inl V)), ((ad 8), .inl (cL, 3840, .inr (.inl PT)))] := hD
      refine wx_catch (own := R_Law) (X := "java/lang/IndexOutOfBoundsException") hown hes hex (Or.inl ⟨rfl, by decide, rfl, "java/lang/IndexOutOfBoundsException", htb _ mw_364, cs_of (htb _ mw_13)⟩) ?_
      refine lv_astore (lv' := [(5, .ref xx), (0, .ref (ad 0)), (1, .int x), (2, .int (nI g9)), (3, .int p9), (4, .ref (ad 18))]) hx hb d_Law_part_15 hl (by decide) rfl (fun ls hl => ?_)
      refine lv_iconst (v := 1) hx hb d_Law_part_17 (by decide) ?_
      refine W.widen (k := 1) (n := 6) (Nat.le_of_ble_eq_true rfl) (Nat.le_of_ble_eq_true rfl) ?_
      exact W.iret (v := 1) hx hb hr (fun t ht hW => ⟨⟨1, (), rfl, rfl, by rw [ht]; exact hP, va_K.moved hW.alike hK, hD⟩, hS.F ht⟩) hS.2.2 d_Law_part_18

set_option maxHeartbeats 4000000 in
set_option maxRecDepth 100000 in
theorem c5_Law_part (l : Launch) (htr : ∀ e, l.admits e → e.platform.stackTraces = false) (dC : Nat → ClassId) (dI : Nat → Nat → Nat) (cI cL cZ : ClassId) (ad : Nat → Nat) (J : Nat → Int64) (K F S D U V : Nat → Int32) (PT : Nat → Int64) (n : Nat) (hn : n ≤ 120) (nd : Nat → Nat × Nat × Nat) (hok : LvOk nd n K F S D U PT) (x g : Nat) (hx1 : x < n) (hp : hs (nI x) n = 1) (hg : g < 32) (sz : Nat) : Met l y_Law_part (cw_Law_part :: tb) (rmH 9 1 6) (va_Pc [.ref (ad 0), .int (nI x), .int (nI g), .int (-1), .ref (ad 18)] (wh_P (dC, dI) classes (wHL cI cL ad J K F S D U V PT n) (tyI cI cL cZ) sz)) (wy_Q ry_i (fun r (u : Nat → Int64) => r = 0 ∧ u 0 = (nI (pb g nd x 5) - 1).toInt64) (wy_B (dC, dI) classes (tyI cI cL cZ) (va_A (wHL cI cL ad J K F S D U V PT n) sz) (fun u : Nat → Int64 => (wHL cI cL ad u K F S D U V PT n))) (va_A (wHL cI cL ad J K F S D U V PT n) sz)) 1 6 (va_A (wHL cI cL ad J K F S D U V PT n) sz) := by
  refine wx_ofWH (cc := b_Law_part) (maxL := 6) (ret := (some .int)) (by decide +kernel) rfl ?_
  intro p e s m args below meth c s₁ B hml0 hes hv
  have C0 := cx_of B hml0 rfl
  obtain ⟨hx, hb, hr, hml, hown, htb, hlocks⟩ := id C0
  obtain ⟨rfl, ⟨⟨hsz, hP, hK, hD0⟩, hth, hst⟩, hnc⟩ := hv
  subst hsz
  have hD := hD0.self (sz := s.heap.size)
  generalize hAe : va_A (wHL cI cL ad J K F S D U V PT n) s.heap.size = A at hD hth ⊢
  have hA : ∀ q : Nat, s.heap.size ≤ q → A q := fun q h => by rw [← hAe]; exact Or.inr h
  have hS : va_S A s.heap s.heap [] := va_S.rf
  have hl := lv_entry ([.ref (ad 0), .int (nI x), .int (nI g), .int (-1), .ref (ad 18)]) (n := 6) (Nat.le_of_ble_eq_true rfl)
  rw [lg_entry_eq]
  generalize (lg_sl ([.ref (ad 0), .int (nI x), .int (nI g), .int (-1), .ref (ad 18)]) ++ List.replicate (6 - (lg_sl ([.ref (ad 0), .int (nI x), .int (nI g), .int (-1), .ref (ad 18)])).length) Slot.unset).toArray = ls at hl ⊢
  have hl : lv_has ls 6 [(0, .ref (ad 0)), (1, .int (nI x)), (2, .int (nI g)), (3, .int (-1)), (4, .ref (ad 18))] := hl
  have hP : va_P (dC, dI) classes [((ad 18), .inl (cL, 1, .inr (.inl J))), ((ad 0), .inr (0, [.ref (ad 1), .ref (ad 9), .ref (ad 12)])), ((ad 1), .inr (1, [.ref (ad 2), .ref (ad 3), .ref (ad 4), .ref (ad 5), .ref (ad 6), .ref (ad 7), .ref (ad 8), .int (nI n)])), ((ad 2), .inl (cI, 120, .inl K)), ((ad 3), .inl (cI, 120, .inl F)), ((ad 4), .inl (cI, 120, .inl S)), ((ad 5), .inl (cI, 120, .inl D)), ((ad 6), .inl (cI, 120, .inl U)), ((ad 7), .inl (cI, 120, .inl V)), ((ad 8), .inl (cL, 3840, .inr (.inl PT)))] s.heap := hP
  have hD : va_D A [((ad 18), .inl (cL, 1, .inr (.inl J))), ((ad 0), .inr (0, [.ref (ad 1), .ref (ad 9), .ref (ad 12)])), ((ad 1), .inr (1, [.ref (ad 2), .ref (ad 3), .ref (ad 4), .ref (ad 5), .ref (ad 6), .ref (ad 7), .ref (ad 8), .int (nI n)])), ((ad 2), .inl (cI, 120, .inl K)), ((ad 3), .inl (cI, 120, .inl F)), ((ad 4), .inl (cI, 120, .inl S)), ((ad 5), .inl (cI, 120, .inl D)), ((ad 6), .inl (cI, 120, .inl U)), ((ad 7), .inl (cI, 120, .inl V)), ((ad 8), .inl (cL, 3840, .inr (.inl PT)))] := hD
  refine lv_aload hx hb d_Law_part_0 (lv_at hl 4 rfl) ?_
  refine lv_iconst (v := 0) hx hb d_Law_part_2 (by decide) ?_
  refine lv_aload_n hx hb d_Law_part_3 rfl (lv_at hl 0 rfl) ?_
  refine lv_iload_n hx hb d_Law_part_4 rfl (lv_at hl 1 rfl) ?_
  refine lv_iload_n hx hb d_Law_part_5 rfl (lv_at hl 2 rfl) ?_
  refine lv_iload_n hx hb d_Law_part_6 rfl (lv_at hl 3 rfl) ?_
  refine ry_callV (n := 3) (As := [.int (nI x), .int (nI g), .int (-1)]) (rest := [.int 0, .ref (ad 18)]) ⟨hx, hb, hml, hown, htb⟩ (c5_LR_part l dC dI cI cL cZ ad K F S D U V PT n hn nd hok x g hx1 hp hg) (gV mw_444 mw_445 mw_446 mw_1 mc_LR_part) rfl rfl (by decide +kernel) ⟨Nat.le_of_ble_eq_true rfl, Nat.le_of_ble_eq_true rfl⟩ (hP.sub [1, 2, 3, 4, 5, 6, 7, 8, 9] rfl) hK (ci := 0) (q0 := 0) rfl rfl rfl rfl hl.1 rfl (Nat.le_of_ble_eq_true rfl) d_Law_part_7 ⟨Nat.zero_le _, Nat.zero_le _⟩ (fun r_1 hr_1 => ?_)
  subst hr_1
  refine W.eq (g2 := F0 m 10 ls [.int (nI (pb g nd x 5) - 1), .int 0, .ref (ad 18)]) rfl ?_
  refine lv_i2l hx hb d_Law_part_10 rfl ?_
  refine ry_last (D := (dC, dI)) (j := 0) hx hb hK hP hD hS 0 1 rfl rfl (by decide) (by decide) d_Law_part_11 (fun H locs hP hD hS => ?_)
  have hP : va_P (dC, dI) classes [((ad 18), .inl (cL, 1, .inr (.inl (vp_updL J 0 ((nI (pb g nd x 5) - 1) : Int32).toInt64)))), ((ad 0), .inr (0, [.ref (ad 1), .ref (ad 9), .ref (ad 12)])), ((ad 1), .inr (1, [.ref (ad 2), .ref (ad 3), .ref (ad 4), .ref (ad 5), .ref (ad 6), .ref (ad 7), .ref (ad 8), .int (nI n)])), ((ad 2), .inl (cI, 120, .inl K)), ((ad 3), .inl (cI, 120, .inl F)), ((ad 4), .inl (cI, 120, .inl S)), ((ad 5), .inl (cI, 120, .inl D)), ((ad 6), .inl (cI, 120, .inl U)), ((ad 7), .inl (cI, 120, .inl V)), ((ad 8), .inl (cL, 3840, .inr (.inl PT)))] H := hP
  have hD : va_D A [((ad 18), .inl (cL, 1, .inr (.inl (vp_updL J 0 ((nI (pb g nd x 5) - 1) : Int32).toInt64)))), ((ad 0), .inr (0, [.ref (ad 1), .ref (ad 9), .ref (ad 12)])), ((ad 1), .inr (1, [.ref (ad 2), .ref (ad 3), .ref (ad 4), .ref (ad 5), .ref (ad 6), .ref (ad 7), .ref (ad 8), .int (nI n)])), ((ad 2), .inl (cI, 120, .inl K)), ((ad 3), .inl (cI, 120, .inl F)), ((ad 4), .inl (cI, 120, .inl S)), ((ad 5), .inl (cI, 120, .inl D)), ((ad 6), .inl (cI, 120, .inl U)), ((ad 7), .inl (cI, 120, .inl V)), ((ad 8), .inl (cL, 3840, .inr (.inl PT)))] := hD
  refine lv_goto (tgt := 19) hx hb d_Law_part_12 (by decide) ?_
  refine lv_iconst (v := 0) hx hb d_Law_part_19 (by decide) ?_
  refine W.widen (k := 1) (n := 6) (Nat.le_of_ble_eq_true rfl) (Nat.le_of_ble_eq_true rfl) ?_
  exact W.iret (v := 0) hx hb hr (fun t ht hW => ⟨⟨0, (vp_updL J 0 ((nI (pb g nd x 5) - 1) : Int32).toInt64), rfl, ⟨rfl, updL_0 J _⟩, by rw [ht]; exact hP, va_K.moved hW.alike hK, hD⟩, hS.F ht⟩) hS.2.2 d_Law_part_20

set_option maxHeartbeats 4000000 in
set_option maxRecDepth 100000 in
theorem c_Law_part (l : Launch) (htr : ∀ e, l.admits e → e.platform.stackTraces = false) (dC : Nat → ClassId) (dI : Nat → Nat → Nat) (cI cL cZ : ClassId) (ad : Nat → Nat) (J : Nat → Int64) (K F S D U V : Nat → Int32) (PT : Nat → Int64) (n : Nat) (hn : n ≤ 120) (nd : Nat → Nat × Nat × Nat) (hok : LvOk nd n K F S D U PT) (x g : Nat) (hx1 : x < n) (hp : hs (nI x) n = 1) (hg : g < 32) (p9 : Nat) (hp5 : p9 < 5) (sz : Nat) : Met l y_Law_part (cw_Law_part :: tb) (rmH 9 1 6) (va_Pc [.ref (ad 0), .int (nI x), .int (nI g), .int (nI p9), .ref (ad 18)] (wh_P (dC, dI) classes (wHL cI cL ad J K F S D U V PT n) (tyI cI cL cZ) sz)) (wy_Q ry_i (fun r (u : Nat → Int64) => r = 0 ∧ u 0 = (nI (pb g nd x p9) - 1).toInt64) (wy_B (dC, dI) classes (tyI cI cL cZ) (va_A (wHL cI cL ad J K F S D U V PT n) sz) (fun u : Nat → Int64 => (wHL cI cL ad u K F S D U V PT n))) (va_A (wHL cI cL ad J K F S D U V PT n) sz)) 1 6 (va_A (wHL cI cL ad J K F S D U V PT n) sz) := by
  refine wx_ofWH (cc := b_Law_part) (maxL := 6) (ret := (some .int)) (by decide +kernel) rfl ?_
  intro p e s m args below meth c s₁ B hml0 hes hv
  have C0 := cx_of B hml0 rfl
  obtain ⟨hx, hb, hr, hml, hown, htb, hlocks⟩ := id C0
  obtain ⟨rfl, ⟨⟨hsz, hP, hK, hD0⟩, hth, hst⟩, hnc⟩ := hv
  subst hsz
  have hD := hD0.self (sz := s.heap.size)
  generalize hAe : va_A (wHL cI cL ad J K F S D U V PT n) s.heap.size = A at hD hth ⊢
  have hA : ∀ q : Nat, s.heap.size ≤ q → A q := fun q h => by rw [← hAe]; exact Or.inr h
  have hS : va_S A s.heap s.heap [] := va_S.rf
  have hl := lv_entry ([.ref (ad 0), .int (nI x), .int (nI g), .int (nI p9), .ref (ad 18)]) (n := 6) (Nat.le_of_ble_eq_true rfl)
  rw [lg_entry_eq]
  generalize (lg_sl ([.ref (ad 0), .int (nI x), .int (nI g), .int (nI p9), .ref (ad 18)]) ++ List.replicate (6 - (lg_sl ([.ref (ad 0), .int (nI x), .int (nI g), .int (nI p9), .ref (ad 18)])).length) Slot.unset).toArray = ls at hl ⊢
  have hl : lv_has ls 6 [(0, .ref (ad 0)), (1, .int (nI x)), (2, .int (nI g)), (3, .int (nI p9)), (4, .ref (ad 18))] := hl
  have hP : va_P (dC, dI) classes [((ad 18), .inl (cL, 1, .inr (.inl J))), ((ad 0), .inr (0, [.ref (ad 1), .ref (ad 9), .ref (ad 12)])), ((ad 1), .inr (1, [.ref (ad 2), .ref (ad 3), .ref (ad 4), .ref (ad 5), .ref (ad 6), .ref (ad 7), .ref (ad 8), .int (nI n)])), ((ad 2), .inl (cI, 120, .inl K)), ((ad 3), .inl (cI, 120, .inl F)), ((ad 4), .inl (cI, 120, .inl S)), ((ad 5), .inl (cI, 120, .inl D)), ((ad 6), .inl (cI, 120, .inl U)), ((ad 7), .inl (cI, 120, .inl V)), ((ad 8), .inl (cL, 3840, .inr (.inl PT)))] s.heap := hP
  have hD : va_D A [((ad 18), .inl (cL, 1, .inr (.inl J))), ((ad 0), .inr (0, [.ref (ad 1), .ref (ad 9), .ref (ad 12)])), ((ad 1), .inr (1, [.ref (ad 2), .ref (ad 3), .ref (ad 4), .ref (ad 5), .ref (ad 6), .ref (ad 7), .ref (ad 8), .int (nI n)])), ((ad 2), .inl (cI, 120, .inl K)), ((ad 3), .inl (cI, 120, .inl F)), ((ad 4), .inl (cI, 120, .inl S)), ((ad 5), .inl (cI, 120, .inl D)), ((ad 6), .inl (cI, 120, .inl U)), ((ad 7), .inl (cI, 120, .inl V)), ((ad 8), .inl (cL, 3840, .inr (.inl PT)))] := hD
  refine lv_aload hx hb d_Law_part_0 (lv_at hl 4 rfl) ?_
  refine lv_iconst (v := 0) hx hb d_Law_part_2 (by decide) ?_
  refine lv_aload_n hx hb d_Law_part_3 rfl (lv_at hl 0 rfl) ?_
  refine lv_iload_n hx hb d_Law_part_4 rfl (lv_at hl 1 rfl) ?_
  refine lv_iload_n hx hb d_Law_part_5 rfl (lv_at hl 2 rfl) ?_
  refine lv_iload_n hx hb d_Law_part_6 rfl (lv_at hl 3 rfl) ?_
  refine ry_callV (n := 3) (As := [.int (nI x), .int (nI g), .int (nI p9)]) (rest := [.int 0, .ref (ad 18)]) ⟨hx, hb, hml, hown, htb⟩ (c_LR_part l dC dI cI cL cZ ad K F S D U V PT n hn nd hok x g hx1 hp hg p9 hp5) (gV mw_444 mw_445 mw_446 mw_1 mc_LR_part) rfl rfl (by decide +kernel) ⟨Nat.le_of_ble_eq_true rfl, Nat.le_of_ble_eq_true rfl⟩ (hP.sub [1, 2, 3, 4, 5, 6, 7, 8, 9] rfl) hK (ci := 0) (q0 := 0) rfl rfl rfl rfl hl.1 rfl (Nat.le_of_ble_eq_true rfl) d_Law_part_7 ⟨Nat.zero_le _, Nat.zero_le _⟩ (fun r_1 hr_1 => ?_)
  subst hr_1
  refine W.eq (g2 := F0 m 10 ls [.int (nI (pb g nd x p9) - 1), .int 0, .ref (ad 18)]) rfl ?_
  refine lv_i2l hx hb d_Law_part_10 rfl ?_
  refine ry_last (D := (dC, dI)) (j := 0) hx hb hK hP hD hS 0 1 rfl rfl (by decide) (by decide) d_Law_part_11 (fun H locs hP hD hS => ?_)
  have hP : va_P (dC, dI) classes [((ad 18), .inl (cL, 1, .inr (.inl (vp_updL J 0 ((nI (pb g nd x p9) - 1) : Int32).toInt64)))), ((ad 0), .inr (0, [.ref (ad 1), .ref (ad 9), .ref (ad 12)])), ((ad 1), .inr (1, [.ref (ad 2), .ref (ad 3), .ref (ad 4), .ref (ad 5), .ref (ad 6), .ref (ad 7), .ref (ad 8), .int (nI n)])), ((ad 2), .inl (cI, 120, .inl K)), ((ad 3), .inl (cI, 120, .inl F)), ((ad 4), .inl (cI, 120, .inl S)), ((ad 5), .inl (cI, 120, .inl D)), ((ad 6), .inl (cI, 120, .inl U)), ((ad 7), .inl (cI, 120, .inl V)), ((ad 8), .inl (cL, 3840, .inr (.inl PT)))] H := hP
  have hD : va_D A [((ad 18), .inl (cL, 1, .inr (.inl (vp_updL J 0 ((nI (pb g nd x p9) - 1) : Int32).toInt64)))), ((ad 0), .inr (0, [.ref (ad 1), .ref (ad 9), .ref (ad 12)])), ((ad 1), .inr (1, [.ref (ad 2), .ref (ad 3), .ref (ad 4), .ref (ad 5), .ref (ad 6), .ref (ad 7), .ref (ad 8), .int (nI n)])), ((ad 2), .inl (cI, 120, .inl K)), ((ad 3), .inl (cI, 120, .inl F)), ((ad 4), .inl (cI, 120, .inl S)), ((ad 5), .inl (cI, 120, .inl D)), ((ad 6), .inl (cI, 120, .inl U)), ((ad 7), .inl (cI, 120, .inl V)), ((ad 8), .inl (cL, 3840, .inr (.inl PT)))] := hD
  refine lv_goto (tgt := 19) hx hb d_Law_part_12 (by decide) ?_
  refine lv_iconst (v := 0) hx hb d_Law_part_19 (by decide) ?_
  refine W.widen (k := 1) (n := 6) (Nat.le_of_ble_eq_true rfl) (Nat.le_of_ble_eq_true rfl) ?_
  exact W.iret (v := 0) hx hb hr (fun t ht hW => ⟨⟨0, (vp_updL J 0 ((nI (pb g nd x p9) - 1) : Int32).toInt64), rfl, ⟨rfl, updL_0 J _⟩, by rw [ht]; exact hP, va_K.moved hW.alike hK, hD⟩, hS.F ht⟩) hS.2.2 d_Law_part_20

set_option maxHeartbeats 4000000 in
set_option maxRecDepth 100000 in
theorem c0_Law_isAtMost (l : Launch) (htr : ∀ e, l.admits e → e.platform.stackTraces = false) (dC : Nat → ClassId) (dI : Nat → Nat → Nat) (cI cL cZ : ClassId) (ad : Nat → Nat) (J : Nat → Int64) (K F S D U V : Nat → Int32) (PT : Nat → Int64) (n : Nat) (hn : n ≤ 120) (x y : Int32) (hp : hs x n = 0 ∨ (hs x n = 1 ∧ hs y n = 0)) (sz : Nat) : Met l y_Law_isAtMost (cw_Law_isAtMost :: tb) (rmH 9 1 6) (va_Pc [.ref (ad 0), .int x, .int y, .ref (ad 18)] (wh_P (dC, dI) classes (wHL cI cL ad J K F S D U V PT n) (tyI cI cL cZ) sz)) (wy_Q ry_i (fun r (u : Unit) => r = 1) (wy_B (dC, dI) classes (tyI cI cL cZ) (va_A (wHL cI cL ad J K F S D U V PT n) sz) (fun u : Unit => (wHL cI cL ad J K F S D U V PT n))) (va_A (wHL cI cL ad J K F S D U V PT n) sz)) 1 6 (va_A (wHL cI cL ad J K F S D U V PT n) sz) := by
  refine wx_ofWH (cc := b_Law_isAtMost) (maxL := 5) (ret := (some .int)) (by decide +kernel) rfl ?_
  intro p e s m args below meth c s₁ B hml0 hes hv
  have C0 := cx_of B hml0 rfl
  obtain ⟨hx, hb, hr, hml, hown, htb, hlocks⟩ := id C0
  obtain ⟨rfl, ⟨⟨hsz, hP, hK, hD0⟩, hth, hst⟩, hnc⟩ := hv
  subst hsz
  have hD := hD0.self (sz := s.heap.size)
  generalize hAe : va_A (wHL cI cL ad J K F S D U V PT n) s.heap.size = A at hD hth ⊢
  have hA : ∀ q : Nat, s.heap.size ≤ q → A q := fun q h => by rw [← hAe]; exact Or.inr h
  have hS : va_S A s.heap s.heap [] := va_S.rf
  have hl := lv_entry ([.ref (ad 0), .int x, .int y, .ref (ad 18)]) (n := 5) (Nat.le_of_ble_eq_true rfl)
  rw [lg_entry_eq]
  generalize (lg_sl ([.ref (ad 0), .int x, .int y, .ref (ad 18)]) ++ List.replicate (5 - (lg_sl ([.ref (ad 0), .int x, .int y, .ref (ad 18)])).length) Slot.unset).toArray = ls at hl ⊢
  have hl : lv_has ls 5 [(0, .ref (ad 0)), (1, .int x), (2, .int y), (3, .ref (ad 18))] := hl
  have hP : va_P (dC, dI) classes [((ad 18), .inl (cL, 1, .inr (.inl J))), ((ad 0), .inr (0, [.ref (ad 1), .ref (ad 9), .ref (ad 12)])), ((ad 1), .inr (1, [.ref (ad 2), .ref (ad 3), .ref (ad 4), .ref (ad 5), .ref (ad 6), .ref (ad 7), .ref (ad 8), .int (nI n)])), ((ad 2), .inl (cI, 120, .inl K)), ((ad 3), .inl (cI, 120, .inl F)), ((ad 4), .inl (cI, 120, .inl S)), ((ad 5), .inl (cI, 120, .inl D)), ((ad 6), .inl (cI, 120, .inl U)), ((ad 7), .inl (cI, 120, .inl V)), ((ad 8), .inl (cL, 3840, .inr (.inl PT)))] s.heap := hP
  have hD : va_D A [((ad 18), .inl (cL, 1, .inr (.inl J))), ((ad 0), .inr (0, [.ref (ad 1), .ref (ad 9), .ref (ad 12)])), ((ad 1), .inr (1, [.ref (ad 2), .ref (ad 3), .ref (ad 4), .ref (ad 5), .ref (ad 6), .ref (ad 7), .ref (ad 8), .int (nI n)])), ((ad 2), .inl (cI, 120, .inl K)), ((ad 3), .inl (cI, 120, .inl F)), ((ad 4), .inl (cI, 120, .inl S)), ((ad 5), .inl (cI, 120, .inl D)), ((ad 6), .inl (cI, 120, .inl U)), ((ad 7), .inl (cI, 120, .inl V)), ((ad 8), .inl (cL, 3840, .inr (.inl PT)))] := hD
  refine lv_aload_n hx hb d_Law_isAtMost_0 rfl (lv_at hl 3 rfl) ?_
  refine lv_iconst (v := 0) hx hb d_Law_isAtMost_1 (by decide) ?_
  refine lv_aload_n hx hb d_Law_isAtMost_2 rfl (lv_at hl 0 rfl) ?_
  refine lv_iload_n hx hb d_Law_isAtMost_3 rfl (lv_at hl 1 rfl) ?_
  refine lv_iload_n hx hb d_Law_isAtMost_4 rfl (lv_at hl 2 rfl) ?_
  rcases hp with hp | ⟨hp, hp2⟩
  · refine wz_callV (n := 2) (wr := [((ad 18), .inl (cL, 1, .inr (.inl J)))]) (As := [.int x, .int y]) (rest := [.int 0, .ref (ad 18)]) ⟨hx, hb, hml, hown, htb⟩ (c0_LR_isAtMost l htr dC dI cI cL cZ ad K F S D U V PT n hn x y hp s.heap.size) (gV mw_454 mw_455 mw_456 mw_1 mc_LR_isAtMost) rfl rfl (by decide +kernel) ⟨Nat.le_of_ble_eq_true rfl, Nat.le_of_ble_eq_true rfl⟩ hth hst hP hD hS hA hK [1, 2, 3, 4, 5, 6, 7, 8, 9] [0] rfl rfl (by decide) (by decide) (hP.sub [1, 2, 3, 4, 5, 6, 7, 8, 9] rfl) ((hD.sub [1, 2, 3, 4, 5, 6, 7, 8, 9] (by decide) rfl).weaken (fun _ _ _ _ => trivial)) (ci := 0) (q0 := 0) rfl rfl rfl rfl hl.1 rfl (Nat.le_of_ble_eq_true rfl) d_Law_isAtMost_5 ⟨Nat.le_of_ble_eq_true rfl, Nat.le_of_ble_eq_true rfl⟩ (fun r u H locs hpost hP hD hS => ?_) (fun xx X u H locs hpt hex hP hD hS => ?_)
    · exact hpost.elim
    · subst hpt
      have hP : va_P (dC, dI) classes [((ad 18), .inl (cL, 1, .inr (.inl J))), ((ad 0), .inr (0, [.ref (ad 1), .ref (ad 9), .ref (ad 12)])), ((ad 1), .inr (1, [.ref (ad 2), .ref (ad 3), .ref (ad 4), .ref (ad 5), .ref (ad 6), .ref (ad 7), .ref (ad 8), .int (nI n)])), ((ad 2), .inl (cI, 120, .inl K)), ((ad 3), .inl (cI, 120, .inl F)), ((ad 4), .inl (cI, 120, .inl S)), ((ad 5), .inl (cI, 120, .inl D)), ((ad 6), .inl (cI, 120, .inl U)), ((ad 7), .inl (cI, 120, .inl V)), ((ad 8), .inl (cL, 3840, .inr (.inl PT)))] H := hP
      have hD : va_D A [((ad 18), .inl (cL, 1, .inr (.inl J))), ((ad 0), .inr (0, [.ref (ad 1), .ref (ad 9), .ref (ad 12)])), ((ad 1), .inr (1, [.ref (ad 2), .ref (ad 3), .ref (ad 4), .ref (ad 5), .ref (ad 6), .ref (ad 7), .ref (ad 8), .int (nI n)])), ((ad 2), .inl (cI, 120, .inl K)), ((ad 3), .inl (cI, 120, .inl F)), ((ad 4), .inl (cI, 120, .inl S)), ((ad 5), .inl (cI, 120, .inl D)), ((ad 6), .inl (cI, 120, .inl U)), ((ad 7), .inl (cI, 120, .inl V)), ((ad 8), .inl (cL, 3840, .inr (.inl PT)))] := hD
      refine wx_catch (own := R_Law) (X := "java/lang/IndexOutOfBoundsException") hown hes hex (Or.inl ⟨rfl, by decide, rfl, "java/lang/IndexOutOfBoundsException", htb _ mw_364, cs_of (htb _ mw_13)⟩) ?_
      refine lv_astore (lv' := [(4, .ref xx), (0, .ref (ad 0)), (1, .int x), (2, .int y), (3, .ref (ad 18))]) hx hb d_Law_isAtMost_20 hl (by decide) rfl (fun ls hl => ?_)
      refine lv_iconst (v := 1) hx hb d_Law_isAtMost_22 (by decide) ?_
      refine W.widen (k := 1) (n := 6) (Nat.le_of_ble_eq_true rfl) (Nat.le_of_ble_eq_true rfl) ?_
      exact W.iret (v := 1) hx hb hr (fun t ht hW => ⟨⟨1, (), rfl, rfl, by rw [ht]; exact hP, va_K.moved hW.alike hK, hD⟩, hS.F ht⟩) hS.2.2 d_Law_isAtMost_23
  · refine wz_callV (n := 2) (wr := [((ad 18), .inl (cL, 1, .inr (.inl J)))]) (As := [.int x, .int y]) (rest := [.int 0, .ref (ad 18)]) ⟨hx, hb, hml, hown, htb⟩ (c1_LR_isAtMost l htr dC dI cI cL cZ ad K F S D U V PT n hn x y hp hp2 s.heap.size) (gV mw_454 mw_455 mw_456 mw_1 mc_LR_isAtMost) rfl rfl (by decide +kernel) ⟨Nat.le_of_ble_eq_true rfl, Nat.le_of_ble_eq_true rfl⟩ hth hst hP hD hS hA hK [1, 2, 3, 4, 5, 6, 7, 8, 9] [0] rfl rfl (by decide) (by decide) (hP.sub [1, 2, 3, 4, 5, 6, 7, 8, 9] rfl) ((hD.sub [1, 2, 3, 4, 5, 6, 7, 8, 9] (by decide) rfl).weaken (fun _ _ _ _ => trivial)) (ci := 0) (q0 := 0) rfl rfl rfl rfl hl.1 rfl (Nat.le_of_ble_eq_true rfl) d_Law_isAtMost_5 ⟨Nat.le_of_ble_eq_true rfl, Nat.le_of_ble_eq_true rfl⟩ (fun r u H locs hpost hP hD hS => ?_) (fun xx X u H locs hpt hex hP hD hS => ?_)
    · exact hpost.elim
    · subst hpt
      have hP : va_P (dC, dI) classes [((ad 18), .inl (cL, 1, .inr (.inl J))), ((ad 0), .inr (0, [.ref (ad 1), .ref (ad 9), .ref (ad 12)])), ((ad 1), .inr (1, [.ref (ad 2), .ref (ad 3), .ref (ad 4), .ref (ad 5), .ref (ad 6), .ref (ad 7), .ref (ad 8), .int (nI n)])), ((ad 2), .inl (cI, 120, .inl K)), ((ad 3), .inl (cI, 120, .inl F)), ((ad 4), .inl (cI, 120, .inl S)), ((ad 5), .inl (cI, 120, .inl D)), ((ad 6), .inl (cI, 120, .inl U)), ((ad 7), .inl (cI, 120, .inl V)), ((ad 8), .inl (cL, 3840, .inr (.inl PT)))] H := hP
      have hD : va_D A [((ad 18), .inl (cL, 1, .inr (.inl J))), ((ad 0), .inr (0, [.ref (ad 1), .ref (ad 9), .ref (ad 12)])), ((ad 1), .inr (1, [.ref (ad 2), .ref (ad 3), .ref (ad 4), .ref (ad 5), .ref (ad 6), .ref (ad 7), .ref (ad 8), .int (nI n)])), ((ad 2), .inl (cI, 120, .inl K)), ((ad 3), .inl (cI, 120, .inl F)), ((ad 4), .inl (cI, 120, .inl S)), ((ad 5), .inl (cI, 120, .inl D)), ((ad 6), .inl (cI, 120, .inl U)), ((ad 7), .inl (cI, 120, .inl V)), ((ad 8), .inl (cL, 3840, .inr (.inl PT)))] := hD
      refine wx_catch (own := R_Law) (X := "java/lang/IndexOutOfBoundsException") hown hes hex (Or.inl ⟨rfl, by decide, rfl, "java/lang/IndexOutOfBoundsException", htb _ mw_364, cs_of (htb _ mw_13)⟩) ?_
      refine lv_astore (lv' := [(4, .ref xx), (0, .ref (ad 0)), (1, .int x), (2, .int y), (3, .ref (ad 18))]) hx hb d_Law_isAtMost_20 hl (by decide) rfl (fun ls hl => ?_)
      refine lv_iconst (v := 1) hx hb d_Law_isAtMost_22 (by decide) ?_
      refine W.widen (k := 1) (n := 6) (Nat.le_of_ble_eq_true rfl) (Nat.le_of_ble_eq_true rfl) ?_
      exact W.iret (v := 1) hx hb hr (fun t ht hW => ⟨⟨1, (), rfl, rfl, by rw [ht]; exact hP, va_K.moved hW.alike hK, hD⟩, hS.F ht⟩) hS.2.2 d_Law_isAtMost_23

set_option maxHeartbeats 4000000 in
set_option maxRecDepth 100000 in
theorem c0_Law_isSame (l : Launch) (htr : ∀ e, l.admits e → e.platform.stackTraces = false) (dC : Nat → ClassId) (dI : Nat → Nat → Nat) (cI cL cZ : ClassId) (ad : Nat → Nat) (J : Nat → Int64) (K F S D U V : Nat → Int32) (PT : Nat → Int64) (n : Nat) (hn : n ≤ 120) (x y : Int32) (hp : hs x n = 0 ∨ (hs x n = 1 ∧ hs y n = 0)) (sz : Nat) : Met l y_Law_isSame (cw_Law_isSame :: tb) (rmH 9 1 6) (va_Pc [.ref (ad 0), .int x, .int y, .ref (ad 18)] (wh_P (dC, dI) classes (wHL cI cL ad J K F S D U V PT n) (tyI cI cL cZ) sz)) (wy_Q ry_i (fun r (u : Unit) => r = 1) (wy_B (dC, dI) classes (tyI cI cL cZ) (va_A (wHL cI cL ad J K F S D U V PT n) sz) (fun u : Unit => (wHL cI cL ad J K F S D U V PT n))) (va_A (wHL cI cL ad J K F S D U V PT n) sz)) 1 6 (va_A (wHL cI cL ad J K F S D U V PT n) sz) := by
  refine wx_ofWH (cc := b_Law_isSame) (maxL := 5) (ret := (some .int)) (by decide +kernel) rfl ?_
  intro p e s m args below meth c s₁ B hml0 hes hv
  have C0 := cx_of B hml0 rfl
  obtain ⟨hx, hb, hr, hml, hown, htb, hlocks⟩ := id C0
  obtain ⟨rfl, ⟨⟨hsz, hP, hK, hD0⟩, hth, hst⟩, hnc⟩ := hv
  subst hsz
  have hD := hD0.self (sz := s.heap.size)
  generalize hAe : va_A (wHL cI cL ad J K F S D U V PT n) s.heap.size = A at hD hth ⊢
  have hA : ∀ q : Nat, s.heap.size ≤ q → A q := fun q h => by rw [← hAe]; exact Or.inr h
  have hS : va_S A s.heap s.heap [] := va_S.rf
  have hl := lv_entry ([.ref (ad 0), .int x, .int y, .ref (ad 18)]) (n := 5) (Nat.le_of_ble_eq_true rfl)
  rw [lg_entry_eq]
  generalize (lg_sl ([.ref (ad 0), .int x, .int y, .ref (ad 18)]) ++ List.replicate (5 - (lg_sl ([.ref (ad 0), .int x, .int y, .ref (ad 18)])).length) Slot.unset).toArray = ls at hl ⊢
  have hl : lv_has ls 5 [(0, .ref (ad 0)), (1, .int x), (2, .int y), (3, .ref (ad 18))] := hl
  have hP : va_P (dC, dI) classes [((ad 18), .inl (cL, 1, .inr (.inl J))), ((ad 0), .inr (0, [.ref (ad 1), .ref (ad 9), .ref (ad 12)])), ((ad 1), .inr (1, [.ref (ad 2), .ref (ad 3), .ref (ad 4), .ref (ad 5), .ref (ad 6), .ref (ad 7), .ref (ad 8), .int (nI n)])), ((ad 2), .inl (cI, 120, .inl K)), ((ad 3), .inl (cI, 120, .inl F)), ((ad 4), .inl (cI, 120, .inl S)), ((ad 5), .inl (cI, 120, .inl D)), ((ad 6), .inl (cI, 120, .inl U)), ((ad 7), .inl (cI, 120, .inl V)), ((ad 8), .inl (cL, 3840, .inr (.inl PT)))] s.heap := hP
  have hD : va_D A [((ad 18), .inl (cL, 1, .inr (.inl J))), ((ad 0), .inr (0, [.ref (ad 1), .ref (ad 9), .ref (ad 12)])), ((ad 1), .inr (1, [.ref (ad 2), .ref (ad 3), .ref (ad 4), .ref (ad 5), .ref (ad 6), .ref (ad 7), .ref (ad 8), .int (nI n)])), ((ad 2), .inl (cI, 120, .inl K)), ((ad 3), .inl (cI, 120, .inl F)), ((ad 4), .inl (cI, 120, .inl S)), ((ad 5), .inl (cI, 120, .inl D)), ((ad 6), .inl (cI, 120, .inl U)), ((ad 7), .inl (cI, 120, .inl V)), ((ad 8), .inl (cL, 3840, .inr (.inl PT)))] := hD
  refine lv_aload_n hx hb d_Law_isSame_0 rfl (lv_at hl 3 rfl) ?_
  refine lv_iconst (v := 0) hx hb d_Law_isSame_1 (by decide) ?_
  refine lv_aload_n hx hb d_Law_isSame_2 rfl (lv_at hl 0 rfl) ?_
  refine lv_iload_n hx hb d_Law_isSame_3 rfl (lv_at hl 1 rfl) ?_
  refine lv_iload_n hx hb d_Law_isSame_4 rfl (lv_at hl 2 rfl) ?_
  rcases hp with hp | ⟨hp, hp2⟩
  · refine wz_callV (n := 2) (wr := [((ad 18), .inl (cL, 1, .inr (.inl J)))]) (As := [.int x, .int y]) (rest := [.int 0, .ref (ad 18)]) ⟨hx, hb, hml, hown, htb⟩ (c0_LR_isSame l htr dC dI cI cL cZ ad K F S D U V PT n hn x y hp s.heap.size) (gV mw_474 mw_475 mw_476 mw_1 mc_LR_isSame) rfl rfl (by decide +kernel) ⟨Nat.le_of_ble_eq_true rfl, Nat.le_of_ble_eq_true rfl⟩ hth hst hP hD hS hA hK [1, 2, 3, 4, 5, 6, 7, 8, 9] [0] rfl rfl (by decide) (by decide) (hP.sub [1, 2, 3, 4, 5, 6, 7, 8, 9] rfl) ((hD.sub [1, 2, 3, 4, 5, 6, 7, 8, 9] (by decide) rfl).weaken (fun _ _ _ _ => trivial)) (ci := 0) (q0 := 0) rfl rfl rfl rfl hl.1 rfl (Nat.le_of_ble_eq_true rfl) d_Law_isSame_5 ⟨Nat.le_of_ble_eq_true rfl, Nat.le_of_ble_eq_true rfl⟩ (fun r u H locs hpost hP hD hS => ?_) (fun xx X u H locs hpt hex hP hD hS => ?_)
    · exact hpost.elim
    · subst hpt
      have hP : va_P (dC, dI) classes [((ad 18), .inl (cL, 1, .inr (.inl J))), ((ad 0), .inr (0, [.ref (ad 1), .ref (ad 9), .ref (ad 12)])), ((ad 1), .inr (1, [.ref (ad 2), .ref (ad 3), .ref (ad 4), .ref (ad 5), .ref (ad 6), .ref (ad 7), .ref (ad 8), .int (nI n)])), ((ad 2), .inl (cI, 120, .inl K)), ((ad 3), .inl (cI, 120, .inl F)), ((ad 4), .inl (cI, 120, .inl S)), ((ad 5), .inl (cI, 120, .inl D)), ((ad 6), .inl (cI, 120, .inl U)), ((ad 7), .inl (cI, 120, .inl V)), ((ad 8), .inl (cL, 3840, .inr (.inl PT)))] H := hP
      have hD : va_D A [((ad 18), .inl (cL, 1, .inr (.inl J))), ((ad 0), .inr (0, [.ref (ad 1), .ref (ad 9), .ref (ad 12)])), ((ad 1), .inr (1, [.ref (ad 2), .ref (ad 3), .ref (ad 4), .ref (ad 5), .ref (ad 6), .ref (ad 7), .ref (ad 8), .int (nI n)])), ((ad 2), .inl (cI, 120, .inl K)), ((ad 3), .inl (cI, 120, .inl F)), ((ad 4), .inl (cI, 120, .inl S)), ((ad 5), .inl (cI, 120, .inl D)), ((ad 6), .inl (cI, 120, .inl U)), ((ad 7), .inl (cI, 120, .inl V)), ((ad 8), .inl (cL, 3840, .inr (.inl PT)))] := hD
      refine wx_catch (own := R_Law) (X := "java/lang/IndexOutOfBoundsException") hown hes hex (Or.inl ⟨rfl, by decide, rfl, "java/lang/IndexOutOfBoundsException", htb _ mw_364, cs_of (htb _ mw_13)⟩) ?_
      refine lv_astore (lv' := [(4, .ref xx), (0, .ref (ad 0)), (1, .int x), (2, .int y), (3, .ref (ad 18))]) hx hb d_Law_isSame_20 hl (by decide) rfl (fun ls hl => ?_)
      refine lv_iconst (v := 1) hx hb d_Law_isSame_22 (by decide) ?_
      refine W.widen (k := 1) (n := 6) (Nat.le_of_ble_eq_true rfl) (Nat.le_of_ble_eq_true rfl) ?_
      exact W.iret (v := 1) hx hb hr (fun t ht hW => ⟨⟨1, (), rfl, rfl, by rw [ht]; exact hP, va_K.moved hW.alike hK, hD⟩, hS.F ht⟩) hS.2.2 d_Law_isSame_23
  · refine wz_callV (n := 2) (wr := [((ad 18), .inl (cL, 1, .inr (.inl J)))]) (As := [.int x, .int y]) (rest := [.int 0, .ref (ad 18)]) ⟨hx, hb, hml, hown, htb⟩ (c1_LR_isSame l htr dC dI cI cL cZ ad K F S D U V PT n hn x y hp hp2 s.heap.size) (gV mw_474 mw_475 mw_476 mw_1 mc_LR_isSame) rfl rfl (by decide +kernel) ⟨Nat.le_of_ble_eq_true rfl, Nat.le_of_ble_eq_true rfl⟩ hth hst hP hD hS hA hK [1, 2, 3, 4, 5, 6, 7, 8, 9] [0] rfl rfl (by decide) (by decide) (hP.sub [1, 2, 3, 4, 5, 6, 7, 8, 9] rfl) ((hD.sub [1, 2, 3, 4, 5, 6, 7, 8, 9] (by decide) rfl).weaken (fun _ _ _ _ => trivial)) (ci := 0) (q0 := 0) rfl rfl rfl rfl hl.1 rfl (Nat.le_of_ble_eq_true rfl) d_Law_isSame_5 ⟨Nat.le_of_ble_eq_true rfl, Nat.le_of_ble_eq_true rfl⟩ (fun r u H locs hpost hP hD hS => ?_) (fun xx X u H locs hpt hex hP hD hS => ?_)
    · exact hpost.elim
    · subst hpt
      have hP : va_P (dC, dI) classes [((ad 18), .inl (cL, 1, .inr (.inl J))), ((ad 0), .inr (0, [.ref (ad 1), .ref (ad 9), .ref (ad 12)])), ((ad 1), .inr (1, [.ref (ad 2), .ref (ad 3), .ref (ad 4), .ref (ad 5), .ref (ad 6), .ref (ad 7), .ref (ad 8), .int (nI n)])), ((ad 2), .inl (cI, 120, .inl K)), ((ad 3), .inl (cI, 120, .inl F)), ((ad 4), .inl (cI, 120, .inl S)), ((ad 5), .inl (cI, 120, .inl D)), ((ad 6), .inl (cI, 120, .inl U)), ((ad 7), .inl (cI, 120, .inl V)), ((ad 8), .inl (cL, 3840, .inr (.inl PT)))] H := hP
      have hD : va_D A [((ad 18), .inl (cL, 1, .inr (.inl J))), ((ad 0), .inr (0, [.ref (ad 1), .ref (ad 9), .ref (ad 12)])), ((ad 1), .inr (1, [.ref (ad 2), .ref (ad 3), .ref (ad 4), .ref (ad 5), .ref (ad 6), .ref (ad 7), .ref (ad 8), .int (nI n)])), ((ad 2), .inl (cI, 120, .inl K)), ((ad 3), .inl (cI, 120, .inl F)), ((ad 4), .inl (cI, 120, .inl S)), ((ad 5), .inl (cI, 120, .inl D)), ((ad 6), .inl (cI, 120, .inl U)), ((ad 7), .inl (cI, 120, .inl V)), ((ad 8), .inl (cL, 3840, .inr (.inl PT)))] := hD
      refine wx_catch (own := R_Law) (X := "java/lang/IndexOutOfBoundsException") hown hes hex (Or.inl ⟨rfl, by decide, rfl, "java/lang/IndexOutOfBoundsException", htb _ mw_364, cs_of (htb _ mw_13)⟩) ?_
      refine lv_astore (lv' := [(4, .ref xx), (0, .ref (ad 0)), (1, .int x), (2, .int y), (3, .ref (ad 18))]) hx hb d_Law_isSame_20 hl (by decide) rfl (fun ls hl => ?_)
      refine lv_iconst (v := 1) hx hb d_Law_isSame_22 (by decide) ?_
      refine W.widen (k := 1) (n := 6) (Nat.le_of_ble_eq_true rfl) (Nat.le_of_ble_eq_true rfl) ?_
      exact W.iret (v := 1) hx hb hr (fun t ht hW => ⟨⟨1, (), rfl, rfl, by rw [ht]; exact hP, va_K.moved hW.alike hK, hD⟩, hS.F ht⟩) hS.2.2 d_Law_isSame_23

set_option maxHeartbeats 4000000 in
set_option maxRecDepth 100000 in
theorem c0_Law_above (l : Launch) (htr : ∀ e, l.admits e → e.platform.stackTraces = false) (dC : Nat → ClassId) (dI : Nat → Nat → Nat) (cI cL cZ : ClassId) (ad : Nat → Nat) (J : Nat → Int64) (K F S D U V : Nat → Int32) (PT : Nat → Int64) (n : Nat) (hn : n ≤ 120) (x y : Int32) (hp : hs x n = 0 ∨ (hs x n = 1 ∧ hs y n = 0)) (sz : Nat) : Met l y_Law_above (cw_Law_above :: tb) (rmH 9 1 6) (va_Pc [.ref (ad 0), .int x, .int y, .ref (ad 18)] (wh_P (dC, dI) classes (wHL cI cL ad J K F S D U V PT n) (tyI cI cL cZ) sz)) (wy_Q ry_i (fun r (u : Unit) => r = 1) (wy_B (dC, dI) classes (tyI cI cL cZ) (va_A (wHL cI cL ad J K F S D U V PT n) sz) (fun u : Unit => (wHL cI cL ad J K F S D U V PT n))) (va_A (wHL cI cL ad J K F S D U V PT n) sz)) 1 6 (va_A (wHL cI cL ad J K F S D U V PT n) sz) := by
  refine wx_ofWH (cc := b_Law_above) (maxL := 5) (ret := (some .int)) (by decide +kernel) rfl ?_
  intro p e s m args below meth c s₁ B hml0 hes hv
  have C0 := cx_of B hml0 rfl
  obtain ⟨hx, hb, hr, hml, hown, htb, hlocks⟩ := id C0
  obtain ⟨rfl, ⟨⟨hsz, hP, hK, hD0⟩, hth, hst⟩, hnc⟩ := hv
  subst hsz
  have hD := hD0.self (sz := s.heap.size)
  generalize hAe : va_A (wHL cI cL ad J K F S D U V PT n) s.heap.size = A at hD hth ⊢
  have hA : ∀ q : Nat, s.heap.size ≤ q → A q := fun q h => by rw [← hAe]; exact Or.inr h
  have hS : va_S A s.heap s.heap [] := va_S.rf
  have hl := lv_entry ([.ref (ad 0), .int x, .int y, .ref (ad 18)]) (n := 5) (Nat.le_of_ble_eq_true rfl)
  rw [lg_entry_eq]
  generalize (lg_sl ([.ref (ad 0), .int x, .int y, .ref (ad 18)]) ++ List.replicate (5 - (lg_sl ([.ref (ad 0), .int x, .int y, .ref (ad 18)])).length) Slot.unset).toArray = ls at hl ⊢
  have hl : lv_has ls 5 [(0, .ref (ad 0)), (1, .int x), (2, .int y), (3, .ref (ad 18))] := hl
  have hP : va_P (dC, dI) classes [((ad 18), .inl (cL, 1, .inr (.inl J))), ((ad 0), .inr (0, [.ref (ad 1), .ref (ad 9), .ref (ad 12)])), ((ad 1), .inr (1, [.ref (ad 2), .ref (ad 3), .ref (ad 4), .ref (ad 5), .ref (ad 6), .ref (ad 7), .ref (ad 8), .int (nI n)])), ((ad 2), .inl (cI, 120, .inl K)), ((ad 3), .inl (cI, 120, .inl F)), ((ad 4), .inl (cI, 120, .inl S)), ((ad 5), .inl (cI, 120, .inl D)), ((ad 6), .inl (cI, 120, .inl U)), ((ad 7), .inl (cI, 120, .inl V)), ((ad 8), .inl (cL, 3840, .inr (.inl PT)))] s.heap := hP
  have hD : va_D A [((ad 18), .inl (cL, 1, .inr (.inl J))), ((ad 0), .inr (0, [.ref (ad 1), .ref (ad 9), .ref (ad 12)])), ((ad 1), .inr (1, [.ref (ad 2), .ref (ad 3), .ref (ad 4), .ref (ad 5), .ref (ad 6), .ref (ad 7), .ref (ad 8), .int (nI n)])), ((ad 2), .inl (cI, 120, .inl K)), ((ad 3), .inl (cI, 120, .inl F)), ((ad 4), .inl (cI, 120, .inl S)), ((ad 5), .inl (cI, 120, .inl D)), ((ad 6), .inl (cI, 120, .inl U)), ((ad 7), .inl (cI, 120, .inl V)), ((ad 8), .inl (cL, 3840, .inr (.inl PT)))] := hD
  refine lv_aload_n hx hb d_Law_above_0 rfl (lv_at hl 3 rfl) ?_
  refine lv_iconst (v := 0) hx hb d_Law_above_1 (by decide) ?_
  refine lv_aload_n hx hb d_Law_above_2 rfl (lv_at hl 0 rfl) ?_
  refine lv_iload_n hx hb d_Law_above_3 rfl (lv_at hl 1 rfl) ?_
  refine lv_iload_n hx hb d_Law_above_4 rfl (lv_at hl 2 rfl) ?_
  rcases hp with hp | ⟨hp, hp2⟩
  · refine wz_callV (n := 2) (wr := [((ad 18), .inl (cL, 1, .inr (.inl J)))]) (As := [.int x, .int y]) (rest := [.int 0, .ref (ad 18)]) ⟨hx, hb, hml, hown, htb⟩ (c0_LR_above l htr dC dI cI cL cZ ad K F S D U V PT n hn x y hp s.heap.size) (gV mw_497 mw_498 mw_499 mw_1 mc_LR_above) rfl rfl (by decide +kernel) ⟨Nat.le_of_ble_eq_true rfl, Nat.le_of_ble_eq_true rfl⟩ hth hst hP hD hS hA hK [1, 2, 3, 4, 5, 6, 7, 8, 9] [0] rfl rfl (by decide) (by decide) (hP.sub [1, 2, 3, 4, 5, 6, 7, 8, 9] rfl) ((hD.sub [1, 2, 3, 4, 5, 6, 7, 8, 9] (by decide) rfl).weaken (fun _ _ _ _ => trivial)) (ci := 0) (q0 := 0) rfl rfl rfl rfl hl.1 rfl (Nat.le_of_ble_eq_true rfl) d_Law_above_5 ⟨Nat.le_of_ble_eq_true rfl, Nat.le_of_ble_eq_true rfl⟩ (fun r u H locs hpost hP hD hS => ?_) (fun xx X u H locs hpt hex hP hD hS => ?_)
    · exact hpost.elim
    · subst hpt
      have hP : va_P (dC, dI) classes [((ad 18), .inl (cL, 1, .inr (.inl J))), ((ad 0), .inr (0, [.ref (ad 1), .ref (ad 9), .ref (ad 12)])), ((ad 1), .inr (1, [.ref (ad 2), .ref (ad 3), .ref (ad 4), .ref (ad 5), .ref (ad 6), .ref (ad 7), .ref (ad 8), .int (nI n)])), ((ad 2), .inl (cI, 120, .inl K)), ((ad 3), .inl (cI, 120, .inl F)), ((ad 4), .inl (cI, 120, .inl S)), ((ad 5), .inl (cI, 120, .inl D)), ((ad 6), .inl (cI, 120, .inl U)), ((ad 7), .inl (cI, 120, .inl V)), ((ad 8), .inl (cL, 3840, .inr (.inl PT)))] H := hP
      have hD : va_D A [((ad 18), .inl (cL, 1, .inr (.inl J))), ((ad 0), .inr (0, [.ref (ad 1), .ref (ad 9), .ref (ad 12)])), ((ad 1), .inr (1, [.ref (ad 2), .ref (ad 3), .ref (ad 4), .ref (ad 5), .ref (ad 6), .ref (ad 7), .ref (ad 8), .int (nI n)])), ((ad 2), .inl (cI, 120, .inl K)), ((ad 3), .inl (cI, 120, .inl F)), ((ad 4), .inl (cI, 120, .inl S)), ((ad 5), .inl (cI, 120, .inl D)), ((ad 6), .inl (cI, 120, .inl U)), ((ad 7), .inl (cI, 120, .inl V)), ((ad 8), .inl (cL, 3840, .inr (.inl PT)))] := hD
      refine wx_catch (own := R_Law) (X := "java/lang/IndexOutOfBoundsException") hown hes hex (Or.inl ⟨rfl, by decide, rfl, "java/lang/IndexOutOfBoundsException", htb _ mw_364, cs_of (htb _ mw_13)⟩) ?_
      refine lv_astore (lv' := [(4, .ref xx), (0, .ref (ad 0)), (1, .int x), (2, .int y), (3, .ref (ad 18))]) hx hb d_Law_above_12 hl (by decide) rfl (fun ls hl => ?_)
      refine lv_iconst (v := 1) hx hb d_Law_above_14 (by decide) ?_
      refine W.widen (k := 1) (n := 6) (Nat.le_of_ble_eq_true rfl) (Nat.le_of_ble_eq_true rfl) ?_
      exact W.iret (v := 1) hx hb hr (fun t ht hW => ⟨⟨1, (), rfl, rfl, by rw [ht]; exact hP, va_K.moved hW.alike hK, hD⟩, hS.F ht⟩) hS.2.2 d_Law_above_15
  · refine wz_callV (n := 2) (wr := [((ad 18), .inl (cL, 1, .inr (.inl J)))]) (As := [.int x, .int y]) (rest := [.int 0, .ref (ad 18)]) ⟨hx, hb, hml, hown, htb⟩ (c1_LR_above l htr dC dI cI cL cZ ad K F S D U V PT n hn x y hp hp2 s.heap.size) (gV mw_497 mw_498 mw_499 mw_1 mc_LR_above) rfl rfl (by decide +kernel) ⟨Nat.le_of_ble_eq_true rfl, Nat.le_of_ble_eq_true rfl⟩ hth hst hP hD hS hA hK [1, 2, 3, 4, 5, 6, 7, 8, 9] [0] rfl rfl (by decide) (by decide) (hP.sub [1, 2, 3, 4, 5, 6, 7, 8, 9] rfl) ((hD.sub [1, 2, 3, 4, 5, 6, 7, 8, 9] (by decide) rfl).weaken (fun _ _ _ _ => trivial)) (ci := 0) (q0 := 0) rfl rfl rfl rfl hl.1 rfl (Nat.le_of_ble_eq_true rfl) d_Law_above_5 ⟨Nat.le_of_ble_eq_true rfl, Nat.le_of_ble_eq_true rfl⟩ (fun r u H locs hpost hP hD hS => ?_) (fun xx X u H locs hpt hex hP hD hS => ?_)
    · exact hpost.elim
    · subst hpt
      have hP : va_P (dC, dI) classes [((ad 18), .inl (cL, 1, .inr (.inl J))), ((ad 0), .inr (0, [.ref (ad 1), .ref (ad 9), .ref (ad 12)])), ((ad 1), .inr (1, [.ref (ad 2), .ref (ad 3), .ref (ad 4), .ref (ad 5), .ref (ad 6), .ref (ad 7), .ref (ad 8), .int (nI n)])), ((ad 2), .inl (cI, 120, .inl K)), ((ad 3), .inl (cI, 120, .inl F)), ((ad 4), .inl (cI, 120, .inl S)), ((ad 5), .inl (cI, 120, .inl D)), ((ad 6), .inl (cI, 120, .inl U)), ((ad 7), .inl (cI, 120, .inl V)), ((ad 8), .inl (cL, 3840, .inr (.inl PT)))] H := hP
      have hD : va_D A [((ad 18), .inl (cL, 1, .inr (.inl J))), ((ad 0), .inr (0, [.ref (ad 1), .ref (ad 9), .ref (ad 12)])), ((ad 1), .inr (1, [.ref (ad 2), .ref (ad 3), .ref (ad 4), .ref (ad 5), .ref (ad 6), .ref (ad 7), .ref (ad 8), .int (nI n)])), ((ad 2), .inl (cI, 120, .inl K)), ((ad 3), .inl (cI, 120, .inl F)), ((ad 4), .inl (cI, 120, .inl S)), ((ad 5), .inl (cI, 120, .inl D)), ((ad 6), .inl (cI, 120, .inl U)), ((ad 7), .inl (cI, 120, .inl V)), ((ad 8), .inl (cL, 3840, .inr (.inl PT)))] := hD
      refine wx_catch (own := R_Law) (X := "java/lang/IndexOutOfBoundsException") hown hes hex (Or.inl ⟨rfl, by decide, rfl, "java/lang/IndexOutOfBoundsException", htb _ mw_364, cs_of (htb _ mw_13)⟩) ?_
      refine lv_astore (lv' := [(4, .ref xx), (0, .ref (ad 0)), (1, .int x), (2, .int y), (3, .ref (ad 18))]) hx hb d_Law_above_12 hl (by decide) rfl (fun ls hl => ?_)
      refine lv_iconst (v := 1) hx hb d_Law_above_14 (by decide) ?_
      refine W.widen (k := 1) (n := 6) (Nat.le_of_ble_eq_true rfl) (Nat.le_of_ble_eq_true rfl) ?_
      exact W.iret (v := 1) hx hb hr (fun t ht hW => ⟨⟨1, (), rfl, rfl, by rw [ht]; exact hP, va_K.moved hW.alike hK, hD⟩, hS.F ht⟩) hS.2.2 d_Law_above_15

set_option maxHeartbeats 4000000 in
set_option maxRecDepth 100000 in
theorem c_Law_isAtMost (l : Launch) (htr : ∀ e, l.admits e → e.platform.stackTraces = false) (dC : Nat → ClassId) (dI : Nat → Nat → Nat) (cI cL cZ : ClassId) (ad : Nat → Nat) (J : Nat → Int64) (K F S D U V : Nat → Int32) (PT : Nat → Int64) (n : Nat) (hn : n ≤ 120) (nd : Nat → Nat × Nat × Nat) (hok : LvOk nd n K F S D U PT) (x y : Nat) (hx1 : x < n) (hy1 : y < n) (hp : hs (nI x) n = 1) (hp2 : hs (nI y) n = 1) (sz : Nat) : Met l y_Law_isAtMost (cw_Law_isAtMost :: tb) (rmH 9 1 6) (va_Pc [.ref (ad 0), .int (nI x), .int (nI y), .ref (ad 18)] (wh_P (dC, dI) classes (wHL cI cL ad J K F S D U V PT n) (tyI cI cL cZ) sz)) (wy_Q ry_i (fun r (u : Nat → Int64) => r = 0 ∧ u 0 = if fra nd x y = -1 then (1 : Int64) else 0) (wy_B (dC, dI) classes (tyI cI cL cZ) (va_A (wHL cI cL ad J K F S D U V PT n) sz) (fun u : Nat → Int64 => (wHL cI cL ad u K F S D U V PT n))) (va_A (wHL cI cL ad J K F S D U V PT n) sz)) 1 6 (va_A (wHL cI cL ad J K F S D U V PT n) sz) := by
  refine wx_ofWH (cc := b_Law_isAtMost) (maxL := 5) (ret := (some .int)) (by decide +kernel) rfl ?_
  intro p e s m args below meth c s₁ B hml0 hes hv
  have C0 := cx_of B hml0 rfl
  obtain ⟨hx, hb, hr, hml, hown, htb, hlocks⟩ := id C0
  obtain ⟨rfl, ⟨⟨hsz, hP, hK, hD0⟩, hth, hst⟩, hnc⟩ := hv
  subst hsz
  have hD := hD0.self (sz := s.heap.size)
  generalize hAe : va_A (wHL cI cL ad J K F S D U V PT n) s.heap.size = A at hD hth ⊢
  have hA : ∀ q : Nat, s.heap.size ≤ q → A q := fun q h => by rw [← hAe]; exact Or.inr h
  have hS : va_S A s.heap s.heap [] := va_S.rf
  have hl := lv_entry ([.ref (ad 0), .int (nI x), .int (nI y), .ref (ad 18)]) (n := 5) (Nat.le_of_ble_eq_true rfl)
  rw [lg_entry_eq]
  generalize (lg_sl ([.ref (ad 0), .int (nI x), .int (nI y), .ref (ad 18)]) ++ List.replicate (5 - (lg_sl ([.ref (ad 0), .int (nI x), .int (nI y), .ref (ad 18)])).length) Slot.unset).toArray = ls at hl ⊢
  have hl : lv_has ls 5 [(0, .ref (ad 0)), (1, .int (nI x)), (2, .int (nI y)), (3, .ref (ad 18))] := hl
  have hP : va_P (dC, dI) classes [((ad 18), .inl (cL, 1, .inr (.inl J))), ((ad 0), .inr (0, [.ref (ad 1), .ref (ad 9), .ref (ad 12)])), ((ad 1), .inr (1, [.ref (ad 2), .ref (ad 3), .ref (ad 4), .ref (ad 5), .ref (ad 6), .ref (ad 7), .ref (ad 8), .int (nI n)])), ((ad 2), .inl (cI, 120, .inl K)), ((ad 3), .inl (cI, 120, .inl F)), ((ad 4), .inl (cI, 120, .inl S)), ((ad 5), .inl (cI, 120, .inl D)), ((ad 6), .inl (cI, 120, .inl U)), ((ad 7), .inl (cI, 120, .inl V)), ((ad 8), .inl (cL, 3840, .inr (.inl PT)))] s.heap := hP
  have hD : va_D A [((ad 18), .inl (cL, 1, .inr (.inl J))), ((ad 0), .inr (0, [.ref (ad 1), .ref (ad 9), .ref (ad 12)])), ((ad 1), .inr (1, [.ref (ad 2), .ref (ad 3), .ref (ad 4), .ref (ad 5), .ref (ad 6), .ref (ad 7), .ref (ad 8), .int (nI n)])), ((ad 2), .inl (cI, 120, .inl K)), ((ad 3), .inl (cI, 120, .inl F)), ((ad 4), .inl (cI, 120, .inl S)), ((ad 5), .inl (cI, 120, .inl D)), ((ad 6), .inl (cI, 120, .inl U)), ((ad 7), .inl (cI, 120, .inl V)), ((ad 8), .inl (cL, 3840, .inr (.inl PT)))] := hD
  refine lv_aload_n hx hb d_Law_isAtMost_0 rfl (lv_at hl 3 rfl) ?_
  refine lv_iconst (v := 0) hx hb d_Law_isAtMost_1 (by decide) ?_
  refine lv_aload_n hx hb d_Law_isAtMost_2 rfl (lv_at hl 0 rfl) ?_
  refine lv_iload_n hx hb d_Law_isAtMost_3 rfl (lv_at hl 1 rfl) ?_
  refine lv_iload_n hx hb d_Law_isAtMost_4 rfl (lv_at hl 2 rfl) ?_
  refine ry_callV (n := 2) (As := [.int (nI x), .int (nI y)]) (rest := [.int 0, .ref (ad 18)]) ⟨hx, hb, hml, hown, htb⟩ (c_LR_isAtMost l dC dI cI cL cZ ad K F S D U V PT n hn nd hok x y hx1 hy1 hp hp2) (gV mw_454 mw_455 mw_456 mw_1 mc_LR_isAtMost) rfl rfl (by decide +kernel) ⟨Nat.le_of_ble_eq_true rfl, Nat.le_of_ble_eq_true rfl⟩ (hP.sub [1, 2, 3, 4, 5, 6, 7, 8, 9] rfl) hK (ci := 0) (q0 := 0) rfl rfl rfl rfl hl.1 rfl (Nat.le_of_ble_eq_true rfl) d_Law_isAtMost_5 ⟨Nat.zero_le _, Nat.zero_le _⟩ (fun r_1 hr_1 => ?_)
  subst hr_1
  refine W.eq (g2 := F0 m 8 ls [.int (if fra nd x y = -1 then 1 else 0), .int 0, .ref (ad 18)]) rfl ?_
  refine lv_if_eq (tgt := 15) hx hb d_Law_isAtMost_8 (by decide) (fun c_8 => ?_) (fun c_8 => ?_)
  · refine lv_lconst (v := 0) hx hb d_Law_isAtMost_15 (by decide) ?_
    refine ry_last (D := (dC, dI)) (j := 0) hx hb hK hP hD hS 0 1 rfl rfl (by decide) (by decide) d_Law_isAtMost_16 (fun H locs hP hD hS => ?_)
    have hP : va_P (dC, dI) classes [((ad 18), .inl (cL, 1, .inr (.inl (vp_updL J 0 (0 : Int64))))), ((ad 0), .inr (0, [.ref (ad 1), .ref (ad 9), .ref (ad 12)])), ((ad 1), .inr (1, [.ref (ad 2), .ref (ad 3), .ref (ad 4), .ref (ad 5), .ref (ad 6), .ref (ad 7), .ref (ad 8), .int (nI n)])), ((ad 2), .inl (cI, 120, .inl K)), ((ad 3), .inl (cI, 120, .inl F)), ((ad 4), .inl (cI, 120, .inl S)), ((ad 5), .inl (cI, 120, .inl D)), ((ad 6), .inl (cI, 120, .inl U)), ((ad 7), .inl (cI, 120, .inl V)), ((ad 8), .inl (cL, 3840, .inr (.inl PT)))] H := hP
    have hD : va_D A [((ad 18), .inl (cL, 1, .inr (.inl (vp_updL J 0 (0 : Int64))))), ((ad 0), .inr (0, [.ref (ad 1), .ref (ad 9), .ref (ad 12)])), ((ad 1), .inr (1, [.ref (ad 2), .ref (ad 3), .ref (ad 4), .ref (ad 5), .ref (ad 6), .ref (ad 7), .ref (ad 8), .int (nI n)])), ((ad 2), .inl (cI, 120, .inl K)), ((ad 3), .inl (cI, 120, .inl F)), ((ad 4), .inl (cI, 120, .inl S)), ((ad 5), .inl (cI, 120, .inl D)), ((ad 6), .inl (cI, 120, .inl U)), ((ad 7), .inl (cI, 120, .inl V)), ((ad 8), .inl (cL, 3840, .inr (.inl PT)))] := hD
    refine lv_goto (tgt := 24) hx hb d_Law_isAtMost_17 (by decide) ?_
    refine lv_iconst (v := 0) hx hb d_Law_isAtMost_24 (by decide) ?_
    refine W.widen (k := 1) (n := 6) (Nat.le_of_ble_eq_true rfl) (Nat.le_of_ble_eq_true rfl) ?_
    exact W.iret (v := 0) hx hb hr (fun t ht hW => ⟨⟨0, (vp_updL J 0 (0 : Int64)), rfl, ⟨rfl, by rw [if_neg (if_f c_8)]; exact updL_0 J _⟩, by rw [ht]; exact hP, va_K.moved hW.alike hK, hD⟩, hS.F ht⟩) hS.2.2 d_Law_isAtMost_25
  · refine lv_lconst (v := 1) hx hb d_Law_isAtMost_11 (by decide) ?_
    refine lv_goto (tgt := 16) hx hb d_Law_isAtMost_12 (by decide) ?_
    refine ry_last (D := (dC, dI)) (j := 0) hx hb hK hP hD hS 0 1 rfl rfl (by decide) (by decide) d_Law_isAtMost_16 (fun H locs hP hD hS => ?_)
    have hP : va_P (dC, dI) classes [((ad 18), .inl (cL, 1, .inr (.inl (vp_updL J 0 (1 : Int64))))), ((ad 0), .inr (0, [.ref (ad 1), .ref (ad 9), .ref (ad 12)])), ((ad 1), .inr (1, [.ref (ad 2), .ref (ad 3), .ref (ad 4), .ref (ad 5), .ref (ad 6), .ref (ad 7), .ref (ad 8), .int (nI n)])), ((ad 2), .inl (cI, 120, .inl K)), ((ad 3), .inl (cI, 120, .inl F)), ((ad 4), .inl (cI, 120, .inl S)), ((ad 5), .inl (cI, 120, .inl D)), ((ad 6), .inl (cI, 120, .inl U)), ((ad 7), .inl (cI, 120, .inl V)), ((ad 8), .inl (cL, 3840, .inr (.inl PT)))] H := hP
    have hD : va_D A [((ad 18), .inl (cL, 1, .inr (.inl (vp_updL J 0 (1 : Int64))))), ((ad 0), .inr (0, [.ref (ad 1), .ref (ad 9), .ref (ad 12)])), ((ad 1), .inr (1, [.ref (ad 2), .ref (ad 3), .ref (ad 4), .ref (ad 5), .ref (ad 6), .ref (ad 7), .ref (ad 8), .int (nI n)])), ((ad 2), .inl (cI, 120, .inl K)), ((ad 3), .inl (cI, 120, .inl F)), ((ad 4), .inl (cI, 120, .inl S)), ((ad 5), .inl (cI, 120, .inl D)), ((ad 6), .inl (cI, 120, .inl U)), ((ad 7), .inl (cI, 120, .inl V)), ((ad 8), .inl (cL, 3840, .inr (.inl PT)))] := hD
    refine lv_goto (tgt := 24) hx hb d_Law_isAtMost_17 (by decide) ?_
    refine lv_iconst (v := 0) hx hb d_Law_isAtMost_24 (by decide) ?_
    refine W.widen (k := 1) (n := 6) (Nat.le_of_ble_eq_true rfl) (Nat.le_of_ble_eq_true rfl) ?_
    exact W.iret (v := 0) hx hb hr (fun t ht hW => ⟨⟨0, (vp_updL J 0 (1 : Int64)), rfl, ⟨rfl, by rw [if_pos (if_t c_8)]; exact updL_0 J _⟩, by rw [ht]; exact hP, va_K.moved hW.alike hK, hD⟩, hS.F ht⟩) hS.2.2 d_Law_isAtMost_25

set_option maxHeartbeats 4000000 in
set_option maxRecDepth 100000 in
theorem c_Law_isSame (l : Launch) (htr : ∀ e, l.admits e → e.platform.stackTraces = false) (dC : Nat → ClassId) (dI : Nat → Nat → Nat) (cI cL cZ : ClassId) (ad : Nat → Nat) (J : Nat → Int64) (K F S D U V : Nat → Int32) (PT : Nat → Int64) (n : Nat) (hn : n ≤ 120) (nd : Nat → Nat × Nat × Nat) (hok : LvOk nd n K F S D U PT) (x y : Nat) (hx1 : x < n) (hy1 : y < n) (hp : hs (nI x) n = 1) (hp2 : hs (nI y) n = 1) (sz : Nat) : Met l y_Law_isSame (cw_Law_isSame :: tb) (rmH 9 1 6) (va_Pc [.ref (ad 0), .int (nI x), .int (nI y), .ref (ad 18)] (wh_P (dC, dI) classes (wHL cI cL ad J K F S D U V PT n) (tyI cI cL cZ) sz)) (wy_Q ry_i (fun r (u : Nat → Int64) => r = 0 ∧ u 0 = if smP PT x y = -1 then (1 : Int64) else 0) (wy_B (dC, dI) classes (tyI cI cL cZ) (va_A (wHL cI cL ad J K F S D U V PT n) sz) (fun u : Nat → Int64 => (wHL cI cL ad u K F S D U V PT n))) (va_A (wHL cI cL ad J K F S D U V PT n) sz)) 1 6 (va_A (wHL cI cL ad J K F S D U V PT n) sz) := by
  refine wx_ofWH (cc := b_Law_isSame) (maxL := 5) (ret := (some .int)) (by decide +kernel) rfl ?_
  intro p e s m args below meth c s₁ B hml0 hes hv
  have C0 := cx_of B hml0 rfl
  obtain ⟨hx, hb, hr, hml, hown, htb, hlocks⟩ := id C0
  obtain ⟨rfl, ⟨⟨hsz, hP, hK, hD0⟩, hth, hst⟩, hnc⟩ := hv
  subst hsz
  have hD := hD0.self (sz := s.heap.size)
  generalize hAe : va_A (wHL cI cL ad J K F S D U V PT n) s.heap.size = A at hD hth ⊢
  have hA : ∀ q : Nat, s.heap.size ≤ q → A q := fun q h => by rw [← hAe]; exact Or.inr h
  have hS : va_S A s.heap s.heap [] := va_S.rf
  have hl := lv_entry ([.ref (ad 0), .int (nI x), .int (nI y), .ref (ad 18)]) (n := 5) (Nat.le_of_ble_eq_true rfl)
  rw [lg_entry_eq]
  generalize (lg_sl ([.ref (ad 0), .int (nI x), .int (nI y), .ref (ad 18)]) ++ List.replicate (5 - (lg_sl ([.ref (ad 0), .int (nI x), .int (nI y), .ref (ad 18)])).length) Slot.unset).toArray = ls at hl ⊢
  have hl : lv_has ls 5 [(0, .ref (ad 0)), (1, .int (nI x)), (2, .int (nI y)), (3, .ref (ad 18))] := hl
  have hP : va_P (dC, dI) classes [((ad 18), .inl (cL, 1, .inr (.inl J))), ((ad 0), .inr (0, [.ref (ad 1), .ref (ad 9), .ref (ad 12)])), ((ad 1), .inr (1, [.ref (ad 2), .ref (ad 3), .ref (ad 4), .ref (ad 5), .ref (ad 6), .ref (ad 7), .ref (ad 8), .int (nI n)])), ((ad 2), .inl (cI, 120, .inl K)), ((ad 3), .inl (cI, 120, .inl F)), ((ad 4), .inl (cI, 120, .inl S)), ((ad 5), .inl (cI, 120, .inl D)), ((ad 6), .inl (cI, 120, .inl U)), ((ad 7), .inl (cI, 120, .inl V)), ((ad 8), .inl (cL, 3840, .inr (.inl PT)))] s.heap := hP
  have hD : va_D A [((ad 18), .inl (cL, 1, .inr (.inl J))), ((ad 0), .inr (0, [.ref (ad 1), .ref (ad 9), .ref (ad 12)])), ((ad 1), .inr (1, [.ref (ad 2), .ref (ad 3), .ref (ad 4), .ref (ad 5), .ref (ad 6), .ref (ad 7), .ref (ad 8), .int (nI n)])), ((ad 2), .inl (cI, 120, .inl K)), ((ad 3), .inl (cI, 120, .inl F)), ((ad 4), .inl (cI, 120, .inl S)), ((ad 5), .inl (cI, 120, .inl D)), ((ad 6), .inl (cI, 120, .inl U)), ((ad 7), .inl (cI, 120, .inl V)), ((ad 8), .inl (cL, 3840, .inr (.inl PT)))] := hD
  refine lv_aload_n hx hb d_Law_isSame_0 rfl (lv_at hl 3 rfl) ?_
  refine lv_iconst (v := 0) hx hb d_Law_isSame_1 (by decide) ?_
  refine lv_aload_n hx hb d_Law_isSame_2 rfl (lv_at hl 0 rfl) ?_
  refine lv_iload_n hx hb d_Law_isSame_3 rfl (lv_at hl 1 rfl) ?_
  refine lv_iload_n hx hb d_Law_isSame_4 rfl (lv_at hl 2 rfl) ?_
  refine ry_callV (n := 2) (As := [.int (nI x), .int (nI y)]) (rest := [.int 0, .ref (ad 18)]) ⟨hx, hb, hml, hown, htb⟩ (c_LR_isSame l dC dI cI cL cZ ad K F S D U V PT n hn x y hx1 hy1 hp hp2) (gV mw_474 mw_475 mw_476 mw_1 mc_LR_isSame) rfl rfl (by decide +kernel) ⟨Nat.le_of_ble_eq_true rfl, Nat.le_of_ble_eq_true rfl⟩ (hP.sub [1, 2, 3, 4, 5, 6, 7, 8, 9] rfl) hK (ci := 0) (q0 := 0) rfl rfl rfl rfl hl.1 rfl (Nat.le_of_ble_eq_true rfl) d_Law_isSame_5 ⟨Nat.zero_le _, Nat.zero_le _⟩ (fun r_1 hr_1 => ?_)
  subst hr_1
  refine W.eq (g2 := F0 m 8 ls [.int (if smP PT x y = -1 then 1 else 0), .int 0, .ref (ad 18)]) rfl ?_
  refine lv_if_eq (tgt := 15) hx hb d_Law_isSame_8 (by decide) (fun c_8 => ?_) (fun c_8 => ?_)
  · refine lv_lconst (v := 0) hx hb d_Law_isSame_15 (by decide) ?_
    refine ry_last (D := (dC, dI)) (j := 0) hx hb hK hP hD hS 0 1 rfl rfl (by decide) (by decide) d_Law_isSame_16 (fun H locs hP hD hS => ?_)
    have hP : va_P (dC, dI) classes [((ad 18), .inl (cL, 1, .inr (.inl (vp_updL J 0 (0 : Int64))))), ((ad 0), .inr (0, [.ref (ad 1), .ref (ad 9), .ref (ad 12)])), ((ad 1), .inr (1, [.ref (ad 2), .ref (ad 3), .ref (ad 4), .ref (ad 5), .ref (ad 6), .ref (ad 7), .ref (ad 8), .int (nI n)])), ((ad 2), .inl (cI, 120, .inl K)), ((ad 3), .inl (cI, 120, .inl F)), ((ad 4), .inl (cI, 120, .inl S)), ((ad 5), .inl (cI, 120, .inl D)), ((ad 6), .inl (cI, 120, .inl U)), ((ad 7), .inl (cI, 120, .inl V)), ((ad 8), .inl (cL, 3840, .inr (.inl PT)))] H := hP
    have hD : va_D A [((ad 18), .inl (cL, 1, .inr (.inl (vp_updL J 0 (0 : Int64))))), ((ad 0), .inr (0, [.ref (ad 1), .ref (ad 9), .ref (ad 12)])), ((ad 1), .inr (1, [.ref (ad 2), .ref (ad 3), .ref (ad 4), .ref (ad 5), .ref (ad 6), .ref (ad 7), .ref (ad 8), .int (nI n)])), ((ad 2), .inl (cI, 120, .inl K)), ((ad 3), .inl (cI, 120, .inl F)), ((ad 4), .inl (cI, 120, .inl S)), ((ad 5), .inl (cI, 120, .inl D)), ((ad 6), .inl (cI, 120, .inl U)), ((ad 7), .inl (cI, 120, .inl V)), ((ad 8), .inl (cL, 3840, .inr (.inl PT)))] := hD
    refine lv_goto (tgt := 24) hx hb d_Law_isSame_17 (by decide) ?_
    refine lv_iconst (v := 0) hx hb d_Law_isSame_24 (by decide) ?_
    refine W.widen (k := 1) (n := 6) (Nat.le_of_ble_eq_true rfl) (Nat.le_of_ble_eq_true rfl) ?_
    exact W.iret (v := 0) hx hb hr (fun t ht hW => ⟨⟨0, (vp_updL J 0 (0 : Int64)), rfl, ⟨rfl, by rw [if_neg (if_f c_8)]; exact updL_0 J _⟩, by rw [ht]; exact hP, va_K.moved hW.alike hK, hD⟩, hS.F ht⟩) hS.2.2 d_Law_isSame_25
  · refine lv_lconst (v := 1) hx hb d_Law_isSame_11 (by decide) ?_
    refine lv_goto (tgt := 16) hx hb d_Law_isSame_12 (by decide) ?_
    refine ry_last (D := (dC, dI)) (j := 0) hx hb hK hP hD hS 0 1 rfl rfl (by decide) (by decide) d_Law_isSame_16 (fun H locs hP hD hS => ?_)
    have hP : va_P (dC, dI) classes [((ad 18), .inl (cL, 1, .inr (.inl (vp_updL J 0 (1 : Int64))))), ((ad 0), .inr (0, [.ref (ad 1), .ref (ad 9), .ref (ad 12)])), ((ad 1), .inr (1, [.ref (ad 2), .ref (ad 3), .ref (ad 4), .ref (ad 5), .ref (ad 6), .ref (ad 7), .ref (ad 8), .int (nI n)])), ((ad 2), .inl (cI, 120, .inl K)), ((ad 3), .inl (cI, 120, .inl F)), ((ad 4), .inl (cI, 120, .inl S)), ((ad 5), .inl (cI, 120, .inl D)), ((ad 6), .inl (cI, 120, .inl U)), ((ad 7), .inl (cI, 120, .inl V)), ((ad 8), .inl (cL, 3840, .inr (.inl PT)))] H := hP
    have hD : va_D A [((ad 18), .inl (cL, 1, .inr (.inl (vp_updL J 0 (1 : Int64))))), ((ad 0), .inr (0, [.ref (ad 1), .ref (ad 9), .ref (ad 12)])), ((ad 1), .inr (1, [.ref (ad 2), .ref (ad 3), .ref (ad 4), .ref (ad 5), .ref (ad 6), .ref (ad 7), .ref (ad 8), .int (nI n)])), ((ad 2), .inl (cI, 120, .inl K)), ((ad 3), .inl (cI, 120, .inl F)), ((ad 4), .inl (cI, 120, .inl S)), ((ad 5), .inl (cI, 120, .inl D)), ((ad 6), .inl (cI, 120, .inl U)), ((ad 7), .inl (cI, 120, .inl V)), ((ad 8), .inl (cL, 3840, .inr (.inl PT)))] := hD
    refine lv_goto (tgt := 24) hx hb d_Law_isSame_17 (by decide) ?_
    refine lv_iconst (v := 0) hx hb d_Law_isSame_24 (by decide) ?_
    refine W.widen (k := 1) (n := 6) (Nat.le_of_ble_eq_true rfl) (Nat.le_of_ble_eq_true rfl) ?_
    exact W.iret (v := 0) hx hb hr (fun t ht hW => ⟨⟨0, (vp_updL J 0 (1 : Int64)), rfl, ⟨rfl, by rw [if_pos (if_t c_8)]; exact updL_0 J _⟩, by rw [ht]; exact hP, va_K.moved hW.alike hK, hD⟩, hS.F ht⟩) hS.2.2 d_Law_isSame_25

set_option maxHeartbeats 4000000 in
set_option maxRecDepth 100000 in
theorem c0_Law_least (l : Launch) (htr : ∀ e, l.admits e → e.platform.stackTraces = false) (dC : Nat → ClassId) (dI : Nat → Nat → Nat) (cI cL cZ : ClassId) (ad : Nat → Nat) (J : Nat → Int64) (K F S D U V : Nat → Int32) (PT : Nat → Int64) (n : Nat) (hn : n ≤ 120) (x : Int32) (hp : hs x n = 0) (sz : Nat) : Met l y_Law_least (cw_Law_least :: tb) (rmH 9 1 6) (va_Pc [.ref (ad 0), .int x, .ref (ad 18)] (wh_P (dC, dI) classes (wHL cI cL ad J K F S D U V PT n) (tyI cI cL cZ) sz)) (wy_Q ry_i (fun r (u : Unit) => r = 1) (wy_B (dC, dI) classes (tyI cI cL cZ) (va_A (wHL cI cL ad J K F S D U V PT n) sz) (fun u : Unit => (wHL cI cL ad J K F S D U V PT n))) (va_A (wHL cI cL ad J K F S D U V PT n) sz)) 1 6 (va_A (wHL cI cL ad J K F S D U V PT n) sz) := by
  refine wx_ofWH (cc := b_Law_least) (maxL := 4) (ret := (some .int)) (by decide +kernel) rfl ?_
  intro p e s m args below meth c s₁ B hml0 hes hv
  have C0 := cx_of B hml0 rfl
  obtain ⟨hx, hb, hr, hml, hown, htb, hlocks⟩ := id C0
  obtain ⟨rfl, ⟨⟨hsz, hP, hK, hD0⟩, hth, hst⟩, hnc⟩ := hv
  subst hsz
  have hD := hD0.self (sz := s.heap.size)
  generalize hAe : va_A (wHL cI cL ad J K F S D U V PT n) s.heap.size = A at hD hth ⊢
  have hA : ∀ q : Nat, s.heap.size ≤ q → A q := fun q h => by rw [← hAe]; exact Or.inr h
  have hS : va_S A s.heap s.heap [] := va_S.rf
  have hl := lv_entry ([.ref (ad 0), .int x, .ref (ad 18)]) (n := 4) (Nat.le_of_ble_eq_true rfl)
  rw [lg_entry_eq]
  generalize (lg_sl ([.ref (ad 0), .int x, .ref (ad 18)]) ++ List.replicate (4 - (lg_sl ([.ref (ad 0), .int x, .ref (ad 18)])).length) Slot.unset).toArray = ls at hl ⊢
  have hl : lv_has ls 4 [(0, .ref (ad 0)), (1, .int x), (2, .ref (ad 18))] := hl
  have hP : va_P (dC, dI) classes [((ad 18), .inl (cL, 1, .inr (.inl J))), ((ad 0), .inr (0, [.ref (ad 1), .ref (ad 9), .ref (ad 12)])), ((ad 1), .inr (1, [.ref (ad 2), .ref (ad 3), .ref (ad 4), .ref (ad 5), .ref (ad 6), .ref (ad 7), .ref (ad 8), .int (nI n)])), ((ad 2), .inl (cI, 120, .inl K)), ((ad 3), .inl (cI, 120, .inl F)), ((ad 4), .inl (cI, 120, .inl S)), ((ad 5), .inl (cI, 120, .inl D)), ((ad 6), .inl (cI, 120, .inl U)), ((ad 7), .inl (cI, 120, .inl V)), ((ad 8), .inl (cL, 3840, .inr (.inl PT)))] s.heap := hP
  have hD : va_D A [((ad 18), .inl (cL, 1, .inr (.inl J))), ((ad 0), .inr (0, [.ref (ad 1), .ref (ad 9), .ref (ad 12)])), ((ad 1), .inr (1, [.ref (ad 2), .ref (ad 3), .ref (ad 4), .ref (ad 5), .ref (ad 6), .ref (ad 7), .ref (ad 8), .int (nI n)])), ((ad 2), .inl (cI, 120, .inl K)), ((ad 3), .inl (cI, 120, .inl F)), ((ad 4), .inl (cI, 120, .inl S)), ((ad 5), .inl (cI, 120, .inl D)), ((ad 6), .inl (cI, 120, .inl U)), ((ad 7), .inl (cI, 120, .inl V)), ((ad 8), .inl (cL, 3840, .inr (.inl PT)))] := hD
  refine lv_aload_n hx hb d_Law_least_0 rfl (lv_at hl 2 rfl) ?_
  refine lv_iconst (v := 0) hx hb d_Law_least_1 (by decide) ?_
  refine lv_aload_n hx hb d_Law_least_2 rfl (lv_at hl 0 rfl) ?_
  refine lv_iload_n hx hb d_Law_least_3 rfl (lv_at hl 1 rfl) ?_
  refine wz_callV (n := 1) (wr := [((ad 18), .inl (cL, 1, .inr (.inl J)))]) (As := [.int x]) (rest := [.int 0, .ref (ad 18)]) ⟨hx, hb, hml, hown, htb⟩ (c0_LR_least l htr dC dI cI cL cZ ad K F S D U V PT n hn x hp s.heap.size) (gV mw_485 mw_486 mw_487 mw_1 mc_LR_least) rfl rfl (by decide +kernel) ⟨Nat.le_of_ble_eq_true rfl, Nat.le_of_ble_eq_true rfl⟩ hth hst hP hD hS hA hK [1, 2, 3, 4, 5, 6, 7, 8, 9] [0] rfl rfl (by decide) (by decide) (hP.sub [1, 2, 3, 4, 5, 6, 7, 8, 9] rfl) ((hD.sub [1, 2, 3, 4, 5, 6, 7, 8, 9] (by decide) rfl).weaken (fun _ _ _ _ => trivial)) (ci := 0) (q0 := 0) rfl rfl rfl rfl hl.1 rfl (Nat.le_of_ble_eq_true rfl) d_Law_least_4 ⟨Nat.le_of_ble_eq_true rfl, Nat.le_of_ble_eq_true rfl⟩ (fun r u H locs hpost hP hD hS => ?_) (fun xx X u H locs hpt hex hP hD hS => ?_)
  · exact hpost.elim
  · subst hpt
    have hP : va_P (dC, dI) classes [((ad 18), .inl (cL, 1, .inr (.inl J))), ((ad 0), .inr (0, [.ref (ad 1), .ref (ad 9), .ref (ad 12)])), ((ad 1), .inr (1, [.ref (ad 2), .ref (ad 3), .ref (ad 4), .ref (ad 5), .ref (ad 6), .ref (ad 7), .ref (ad 8), .int (nI n)])), ((ad 2), .inl (cI, 120, .inl K)), ((ad 3), .inl (cI, 120, .inl F)), ((ad 4), .inl (cI, 120, .inl S)), ((ad 5), .inl (cI, 120, .inl D)), ((ad 6), .inl (cI, 120, .inl U)), ((ad 7), .inl (cI, 120, .inl V)), ((ad 8), .inl (cL, 3840, .inr (.inl PT)))] H := hP
    have hD : va_D A [((ad 18), .inl (cL, 1, .inr (.inl J))), ((ad 0), .inr (0, [.ref (ad 1), .ref (ad 9), .ref (ad 12)])), ((ad 1), .inr (1, [.ref (ad 2), .ref (ad 3), .ref (ad 4), .ref (ad 5), .ref (ad 6), .ref (ad 7), .ref (ad 8), .int (nI n)])), ((ad 2), .inl (cI, 120, .inl K)), ((ad 3), .inl (cI, 120, .inl F)), ((ad 4), .inl (cI, 120, .inl S)), ((ad 5), .inl (cI, 120, .inl D)), ((ad 6), .inl (cI, 120, .inl U)), ((ad 7), .inl (cI, 120, .inl V)), ((ad 8), .inl (cL, 3840, .inr (.inl PT)))] := hD
    refine wx_catch (own := R_Law) (X := "java/lang/IndexOutOfBoundsException") hown hes hex (Or.inl ⟨rfl, by decide, rfl, "java/lang/IndexOutOfBoundsException", htb _ mw_364, cs_of (htb _ mw_13)⟩) ?_
    refine lv_astore_n (lv' := [(3, .ref xx), (0, .ref (ad 0)), (1, .int x), (2, .ref (ad 18))]) hx hb d_Law_least_12 rfl hl (by decide) rfl (fun ls hl => ?_)
    refine lv_iconst (v := 1) hx hb d_Law_least_13 (by decide) ?_
    refine W.widen (k := 1) (n := 6) (Nat.le_of_ble_eq_true rfl) (Nat.le_of_ble_eq_true rfl) ?_
    exact W.iret (v := 1) hx hb hr (fun t ht hW => ⟨⟨1, (), rfl, rfl, by rw [ht]; exact hP, va_K.moved hW.alike hK, hD⟩, hS.F ht⟩) hS.2.2 d_Law_least_14

set_option maxHeartbeats 4000000 in
set_option maxRecDepth 100000 in
theorem c_Law_least (l : Launch) (htr : ∀ e, l.admits e → e.platform.stackTraces = false) (dC : Nat → ClassId) (dI : Nat → Nat → Nat) (cI cL cZ : ClassId) (ad : Nat → Nat) (J : Nat → Int64) (K F S D U V : Nat → Int32) (PT : Nat → Int64) (n : Nat) (hn : n ≤ 120) (x : Nat) (hx1 : x < n) (hp : hs (nI x) n = 1) (sz : Nat) : Met l y_Law_least (cw_Law_least :: tb) (rmH 9 1 6) (va_Pc [.ref (ad 0), .int (nI x), .ref (ad 18)] (wh_P (dC, dI) classes (wHL cI cL ad J K F S D U V PT n) (tyI cI cL cZ) sz)) (wy_Q ry_i (fun r (u : Nat → Int64) => r = 0 ∧ u 0 = (lsP PT x).toInt64) (wy_B (dC, dI) classes (tyI cI cL cZ) (va_A (wHL cI cL ad J K F S D U V PT n) sz) (fun u : Nat → Int64 => (wHL cI cL ad u K F S D U V PT n))) (va_A (wHL cI cL ad J K F S D U V PT n) sz)) 1 6 (va_A (wHL cI cL ad J K F S D U V PT n) sz) := by
  refine wx_ofWH (cc := b_Law_least) (maxL := 4) (ret := (some .int)) (by decide +kernel) rfl ?_
  intro p e s m args below meth c s₁ B hml0 hes hv
  have C0 := cx_of B hml0 rfl
  obtain ⟨hx, hb, hr, hml, hown, htb, hlocks⟩ := id C0
  obtain ⟨rfl, ⟨⟨hsz, hP, hK, hD0⟩, hth, hst⟩, hnc⟩ := hv
  subst hsz
  have hD := hD0.self (sz := s.heap.size)
  generalize hAe : va_A (wHL cI cL ad J K F S D U V PT n) s.heap.size = A at hD hth ⊢
  have hA : ∀ q : Nat, s.heap.size ≤ q → A q := fun q h => by rw [← hAe]; exact Or.inr h
  have hS : va_S A s.heap s.heap [] := va_S.rf
  have hl := lv_entry ([.ref (ad 0), .int (nI x), .ref (ad 18)]) (n := 4) (Nat.le_of_ble_eq_true rfl)
  rw [lg_entry_eq]
  generalize (lg_sl ([.ref (ad 0), .int (nI x), .ref (ad 18)]) ++ List.replicate (4 - (lg_sl ([.ref (ad 0), .int (nI x), .ref (ad 18)])).length) Slot.unset).toArray = ls at hl ⊢
  have hl : lv_has ls 4 [(0, .ref (ad 0)), (1, .int (nI x)), (2, .ref (ad 18))] := hl
  have hP : va_P (dC, dI) classes [((ad 18), .inl (cL, 1, .inr (.inl J))), ((ad 0), .inr (0, [.ref (ad 1), .ref (ad 9), .ref (ad 12)])), ((ad 1), .inr (1, [.ref (ad 2), .ref (ad 3), .ref (ad 4), .ref (ad 5), .ref (ad 6), .ref (ad 7), .ref (ad 8), .int (nI n)])), ((ad 2), .inl (cI, 120, .inl K)), ((ad 3), .inl (cI, 120, .inl F)), ((ad 4), .inl (cI, 120, .inl S)), ((ad 5), .inl (cI, 120, .inl D)), ((ad 6), .inl (cI, 120, .inl U)), ((ad 7), .inl (cI, 120, .inl V)), ((ad 8), .inl (cL, 3840, .inr (.inl PT)))] s.heap := hP
  have hD : va_D A [((ad 18), .inl (cL, 1, .inr (.inl J))), ((ad 0), .inr (0, [.ref (ad 1), .ref (ad 9), .ref (ad 12)])), ((ad 1), .inr (1, [.ref (ad 2), .ref (ad 3), .ref (ad 4), .ref (ad 5), .ref (ad 6), .ref (ad 7), .ref (ad 8), .int (nI n)])), ((ad 2), .inl (cI, 120, .inl K)), ((ad 3), .inl (cI, 120, .inl F)), ((ad 4), .inl (cI, 120, .inl S)), ((ad 5), .inl (cI, 120, .inl D)), ((ad 6), .inl (cI, 120, .inl U)), ((ad 7), .inl (cI, 120, .inl V)), ((ad 8), .inl (cL, 3840, .inr (.inl PT)))] := hD
  refine lv_aload_n hx hb d_Law_least_0 rfl (lv_at hl 2 rfl) ?_
  refine lv_iconst (v := 0) hx hb d_Law_least_1 (by decide) ?_
  refine lv_aload_n hx hb d_Law_least_2 rfl (lv_at hl 0 rfl) ?_
  refine lv_iload_n hx hb d_Law_least_3 rfl (lv_at hl 1 rfl) ?_
  refine ry_callV (n := 1) (As := [.int (nI x)]) (rest := [.int 0, .ref (ad 18)]) ⟨hx, hb, hml, hown, htb⟩ (c_LR_least l dC dI cI cL cZ ad K F S D U V PT n hn x hx1 hp) (gV mw_485 mw_486 mw_487 mw_1 mc_LR_least) rfl rfl (by decide +kernel) ⟨Nat.le_of_ble_eq_true rfl, Nat.le_of_ble_eq_true rfl⟩ (hP.sub [1, 2, 3, 4, 5, 6, 7, 8, 9] rfl) hK (ci := 0) (q0 := 0) rfl rfl rfl rfl hl.1 rfl (Nat.le_of_ble_eq_true rfl) d_Law_least_4 ⟨Nat.zero_le _, Nat.zero_le _⟩ (fun r_1 hr_1 => ?_)
  subst hr_1
  refine W.eq (g2 := F0 m 7 ls [.int (lsP PT x), .int 0, .ref (ad 18)]) rfl ?_
  refine lv_i2l hx hb d_Law_least_7 rfl ?_
  refine ry_last (D := (dC, dI)) (j := 0) hx hb hK hP hD hS 0 1 rfl rfl (by decide) (by decide) d_Law_least_8 (fun H locs hP hD hS => ?_)
  have hP : va_P (dC, dI) classes [((ad 18), .inl (cL, 1, .inr (.inl (vp_updL J 0 ((lsP PT x) : Int32).toInt64)))), ((ad 0), .inr (0, [.ref (ad 1), .ref (ad 9), .ref (ad 12)])), ((ad 1), .inr (1, [.ref (ad 2), .ref (ad 3), .ref (ad 4), .ref (ad 5), .ref (ad 6), .ref (ad 7), .ref (ad 8), .int (nI n)])), ((ad 2), .inl (cI, 120, .inl K)), ((ad 3), .inl (cI, 120, .inl F)), ((ad 4), .inl (cI, 120, .inl S)), ((ad 5), .inl (cI, 120, .inl D)), ((ad 6), .inl (cI, 120, .inl U)), ((ad 7), .inl (cI, 120, .inl V)), ((ad 8), .inl (cL, 3840, .inr (.inl PT)))] H := hP
  have hD : va_D A [((ad 18), .inl (cL, 1, .inr (.inl (vp_updL J 0 ((lsP PT x) : Int32).toInt64)))), ((ad 0), .inr (0, [.ref (ad 1), .ref (ad 9), .ref (ad 12)])), ((ad 1), .inr (1, [.ref (ad 2), .ref (ad 3), .ref (ad 4), .ref (ad 5), .ref (ad 6), .ref (ad 7), .ref (ad 8), .int (nI n)])), ((ad 2), .inl (cI, 120, .inl K)), ((ad 3), .inl (cI, 120, .inl F)), ((ad 4), .inl (cI, 120, .inl S)), ((ad 5), .inl (cI, 120, .inl D)), ((ad 6), .inl (cI, 120, .inl U)), ((ad 7), .inl (cI, 120, .inl V)), ((ad 8), .inl (cL, 3840, .inr (.inl PT)))] := hD
  refine lv_goto (tgt := 15) hx hb d_Law_least_9 (by decide) ?_
  refine lv_iconst (v := 0) hx hb d_Law_least_15 (by decide) ?_
  refine W.widen (k := 1) (n := 6) (Nat.le_of_ble_eq_true rfl) (Nat.le_of_ble_eq_true rfl) ?_
  exact W.iret (v := 0) hx hb hr (fun t ht hW => ⟨⟨0, (vp_updL J 0 ((lsP PT x) : Int32).toInt64), rfl, ⟨rfl, updL_0 J _⟩, by rw [ht]; exact hP, va_K.moved hW.alike hK, hD⟩, hS.F ht⟩) hS.2.2 d_Law_least_16

set_option maxHeartbeats 4000000 in
set_option maxRecDepth 100000 in
theorem c2_Law_above (l : Launch) (htr : ∀ e, l.admits e → e.platform.stackTraces = false) (dC : Nat → ClassId) (dI : Nat → Nat → Nat) (cI cL cZ : ClassId) (ad : Nat → Nat) (J : Nat → Int64) (K F S D U V : Nat → Int32) (PT : Nat → Int64) (n : Nat) (hn : n ≤ 120) (nd : Nat → Nat × Nat × Nat) (hok : LvOk nd n K F S D U PT) (x y : Nat) (hx1 : x < n) (hy1 : y < n) (hp : hs (nI x) n = 1) (hp2 : hs (nI y) n = 1) (hfr : fra nd x y = -1) (sz : Nat) : Met l y_Law_above (cw_Law_above :: tb) (rmH 9 1 6) (va_Pc [.ref (ad 0), .int (nI x), .int (nI y), .ref (ad 18)] (wh_P (dC, dI) classes (wHL cI cL ad J K F S D U V PT n) (tyI cI cL cZ) sz)) (wy_Q ry_i (fun r (u : Nat → Int64) => r = 0 ∧ u 0 = (-1 : Int64)) (wy_B (dC, dI) classes (tyI cI cL cZ) (va_A (wHL cI cL ad J K F S D U V PT n) sz) (fun u : Nat → Int64 => (wHL cI cL ad u K F S D U V PT n))) (va_A (wHL cI cL ad J K F S D U V PT n) sz)) 1 6 (va_A (wHL cI cL ad J K F S D U V PT n) sz) := by
  refine wx_ofWH (cc := b_Law_above) (maxL := 5) (ret := (some .int)) (by decide +kernel) rfl ?_
  intro p e s m args below meth c s₁ B hml0 hes hv
  have C0 := cx_of B hml0 rfl
  obtain ⟨hx, hb, hr, hml, hown, htb, hlocks⟩ := id C0
  obtain ⟨rfl, ⟨⟨hsz, hP, hK, hD0⟩, hth, hst⟩, hnc⟩ := hv
  subst hsz
  have hD := hD0.self (sz := s.heap.size)
  generalize hAe : va_A (wHL cI cL ad J K F S D U V PT n) s.heap.size = A at hD hth ⊢
  have hA : ∀ q : Nat, s.heap.size ≤ q → A q := fun q h => by rw [← hAe]; exact Or.inr h
  have hS : va_S A s.heap s.heap [] := va_S.rf
  have hl := lv_entry ([.ref (ad 0), .int (nI x), .int (nI y), .ref (ad 18)]) (n := 5) (Nat.le_of_ble_eq_true rfl)
  rw [lg_entry_eq]
  generalize (lg_sl ([.ref (ad 0), .int (nI x), .int (nI y), .ref (ad 18)]) ++ List.replicate (5 - (lg_sl ([.ref (ad 0), .int (nI x), .int (nI y), .ref (ad 18)])).length) Slot.unset).toArray = ls at hl ⊢
  have hl : lv_has ls 5 [(0, .ref (ad 0)), (1, .int (nI x)), (2, .int (nI y)), (3, .ref (ad 18))] := hl
  have hP : va_P (dC, dI) classes [((ad 18), .inl (cL, 1, .inr (.inl J))), ((ad 0), .inr (0, [.ref (ad 1), .ref (ad 9), .ref (ad 12)])), ((ad 1), .inr (1, [.ref (ad 2), .ref (ad 3), .ref (ad 4), .ref (ad 5), .ref (ad 6), .ref (ad 7), .ref (ad 8), .int (nI n)])), ((ad 2), .inl (cI, 120, .inl K)), ((ad 3), .inl (cI, 120, .inl F)), ((ad 4), .inl (cI, 120, .inl S)), ((ad 5), .inl (cI, 120, .inl D)), ((ad 6), .inl (cI, 120, .inl U)), ((ad 7), .inl (cI, 120, .inl V)), ((ad 8), .inl (cL, 3840, .inr (.inl PT)))] s.heap := hP
  have hD : va_D A [((ad 18), .inl (cL, 1, .inr (.inl J))), ((ad 0), .inr (0, [.ref (ad 1), .ref (ad 9), .ref (ad 12)])), ((ad 1), .inr (1, [.ref (ad 2), .ref (ad 3), .ref (ad 4), .ref (ad 5), .ref (ad 6), .ref (ad 7), .ref (ad 8), .int (nI n)])), ((ad 2), .inl (cI, 120, .inl K)), ((ad 3), .inl (cI, 120, .inl F)), ((ad 4), .inl (cI, 120, .inl S)), ((ad 5), .inl (cI, 120, .inl D)), ((ad 6), .inl (cI, 120, .inl U)), ((ad 7), .inl (cI, 120, .inl V)), ((ad 8), .inl (cL, 3840, .inr (.inl PT)))] := hD
  refine lv_aload_n hx hb d_Law_above_0 rfl (lv_at hl 3 rfl) ?_
  refine lv_iconst (v := 0) hx hb d_Law_above_1 (by decide) ?_
  refine lv_aload_n hx hb d_Law_above_2 rfl (lv_at hl 0 rfl) ?_
  refine lv_iload_n hx hb d_Law_above_3 rfl (lv_at hl 1 rfl) ?_
  refine lv_iload_n hx hb d_Law_above_4 rfl (lv_at hl 2 rfl) ?_
  refine ry_callV (n := 2) (As := [.int (nI x), .int (nI y)]) (rest := [.int 0, .ref (ad 18)]) ⟨hx, hb, hml, hown, htb⟩ (c2_LR_above l dC dI cI cL cZ ad K F S D U V PT n hn nd hok x y hx1 hy1 hp hp2 hfr) (gV mw_497 mw_498 mw_499 mw_1 mc_LR_above) rfl rfl (by decide +kernel) ⟨Nat.le_of_ble_eq_true rfl, Nat.le_of_ble_eq_true rfl⟩ (hP.sub [1, 2, 3, 4, 5, 6, 7, 8, 9] rfl) hK (ci := 0) (q0 := 0) rfl rfl rfl rfl hl.1 rfl (Nat.le_of_ble_eq_true rfl) d_Law_above_5 ⟨Nat.zero_le _, Nat.zero_le _⟩ (fun r_1 hr_1 => ?_)
  subst hr_1
  refine W.eq (g2 := F0 m 8 ls [.long (-1), .int 0, .ref (ad 18)]) rfl ?_
  refine ry_last (D := (dC, dI)) (j := 0) hx hb hK hP hD hS 0 1 rfl rfl (by decide) (by decide) d_Law_above_8 (fun H locs hP hD hS => ?_)
  have hP : va_P (dC, dI) classes [((ad 18), .inl (cL, 1, .inr (.inl (vp_updL J 0 (-1))))), ((ad 0), .inr (0, [.ref (ad 1), .ref (ad 9), .ref (ad 12)])), ((ad 1), .inr (1, [.ref (ad 2), .ref (ad 3), .ref (ad 4), .ref (ad 5), .ref (ad 6), .ref (ad 7), .ref (ad 8), .int (nI n)])), ((ad 2), .inl (cI, 120, .inl K)), ((ad 3), .inl (cI, 120, .inl F)), ((ad 4), .inl (cI, 120, .inl S)), ((ad 5), .inl (cI, 120, .inl D)), ((ad 6), .inl (cI, 120, .inl U)), ((ad 7), .inl (cI, 120, .inl V)), ((ad 8), .inl (cL, 3840, .inr (.inl PT)))] H := hP
  have hD : va_D A [((ad 18), .inl (cL, 1, .inr (.inl (vp_updL J 0 (-1))))), ((ad 0), .inr (0, [.ref (ad 1), .ref (ad 9), .ref (ad 12)])), ((ad 1), .inr (1, [.ref (ad 2), .ref (ad 3), .ref (ad 4), .ref (ad 5), .ref (ad 6), .ref (ad 7), .ref (ad 8), .int (nI n)])), ((ad 2), .inl (cI, 120, .inl K)), ((ad 3), .inl (cI, 120, .inl F)), ((ad 4), .inl (cI, 120, .inl S)), ((ad 5), .inl (cI, 120, .inl D)), ((ad 6), .inl (cI, 120, .inl U)), ((ad 7), .inl (cI, 120, .inl V)), ((ad 8), .inl (cL, 3840, .inr (.inl PT)))] := hD
  refine lv_goto (tgt := 16) hx hb d_Law_above_9 (by decide) ?_
  refine lv_iconst (v := 0) hx hb d_Law_above_16 (by decide) ?_
  refine W.widen (k := 1) (n := 6) (Nat.le_of_ble_eq_true rfl) (Nat.le_of_ble_eq_true rfl) ?_
  exact W.iret (v := 0) hx hb hr (fun t ht hW => ⟨⟨0, (vp_updL J 0 (-1)), rfl, ⟨rfl, updL_0 J _⟩, by rw [ht]; exact hP, va_K.moved hW.alike hK, hD⟩, hS.F ht⟩) hS.2.2 d_Law_above_17

set_option maxHeartbeats 4000000 in
set_option maxRecDepth 100000 in
theorem c_Law_above (l : Launch) (htr : ∀ e, l.admits e → e.platform.stackTraces = false) (dC : Nat → ClassId) (dI : Nat → Nat → Nat) (cI cL cZ : ClassId) (ad : Nat → Nat) (J : Nat → Int64) (K F S D U V : Nat → Int32) (PT : Nat → Int64) (n : Nat) (hn : n ≤ 120) (nd : Nat → Nat × Nat × Nat) (hok : LvOk nd n K F S D U PT) (x y : Nat) (hx1 : x < n) (hy1 : y < n) (hp : hs (nI x) n = 1) (hp2 : hs (nI y) n = 1) (g : Nat) (hg : g < 32) (hfr : fra nd x y = nI g) (sz : Nat) : Met l y_Law_above (cw_Law_above :: tb) (rmH 9 1 6) (va_Pc [.ref (ad 0), .int (nI x), .int (nI y), .ref (ad 18)] (wh_P (dC, dI) classes (wHL cI cL ad J K F S D U V PT n) (tyI cI cL cZ) sz)) (wy_Q ry_i (fun r (u : Nat → Int64) => r = 0 ∧ u 0 = pab (pb g nd x) (pb g nd y) g) (wy_B (dC, dI) classes (tyI cI cL cZ) (va_A (wHL cI cL ad J K F S D U V PT n) sz) (fun u : Nat → Int64 => (wHL cI cL ad u K F S D U V PT n))) (va_A (wHL cI cL ad J K F S D U V PT n) sz)) 1 6 (va_A (wHL cI cL ad J K F S D U V PT n) sz) := by
  refine wx_ofWH (cc := b_Law_above) (maxL := 5) (ret := (some .int)) (by decide +kernel) rfl ?_
  intro p e s m args below meth c s₁ B hml0 hes hv
  have C0 := cx_of B hml0 rfl
  obtain ⟨hx, hb, hr, hml, hown, htb, hlocks⟩ := id C0
  obtain ⟨rfl, ⟨⟨hsz, hP, hK, hD0⟩, hth, hst⟩, hnc⟩ := hv
  subst hsz
  have hD := hD0.self (sz := s.heap.size)
  generalize hAe : va_A (wHL cI cL ad J K F S D U V PT n) s.heap.size = A at hD hth ⊢
  have hA : ∀ q : Nat, s.heap.size ≤ q → A q := fun q h => by rw [← hAe]; exact Or.inr h
  have hS : va_S A s.heap s.heap [] := va_S.rf
  have hl := lv_entry ([.ref (ad 0), .int (nI x), .int (nI y), .ref (ad 18)]) (n := 5) (Nat.le_of_ble_eq_true rfl)
  rw [lg_entry_eq]
  generalize (lg_sl ([.ref (ad 0), .int (nI x), .int (nI y), .ref (ad 18)]) ++ List.replicate (5 - (lg_sl ([.ref (ad 0), .int (nI x), .int (nI y), .ref (ad 18)])).length) Slot.unset).toArray = ls at hl ⊢
  have hl : lv_has ls 5 [(0, .ref (ad 0)), (1, .int (nI x)), (2, .int (nI y)), (3, .ref (ad 18))] := hl
  have hP : va_P (dC, dI) classes [((ad 18), .inl (cL, 1, .inr (.inl J))), ((ad 0), .inr (0, [.ref (ad 1), .ref (ad 9), .ref (ad 12)])), ((ad 1), .inr (1, [.ref (ad 2), .ref (ad 3), .ref (ad 4), .ref (ad 5), .ref (ad 6), .ref (ad 7), .ref (ad 8), .int (nI n)])), ((ad 2), .inl (cI, 120, .inl K)), ((ad 3), .inl (cI, 120, .inl F)), ((ad 4), .inl (cI, 120, .inl S)), ((ad 5), .inl (cI, 120, .inl D)), ((ad 6), .inl (cI, 120, .inl U)), ((ad 7), .inl (cI, 120, .inl V)), ((ad 8), .inl (cL, 3840, .inr (.inl PT)))] s.heap := hP
  have hD : va_D A [((ad 18), .inl (cL, 1, .inr (.inl J))), ((ad 0), .inr (0, [.ref (ad 1), .ref (ad 9), .ref (ad 12)])), ((ad 1), .inr (1, [.ref (ad 2), .ref (ad 3), .ref (ad 4), .ref (ad 5), .ref (ad 6), .ref (ad 7), .ref (ad 8), .int (nI n)])), ((ad 2), .inl (cI, 120, .inl K)), ((ad 3), .inl (cI, 120, .inl F)), ((ad 4), .inl (cI, 120, .inl S)), ((ad 5), .inl (cI, 120, .inl D)), ((ad 6), .inl (cI, 120, .inl U)), ((ad 7), .inl (cI, 120, .inl V)), ((ad 8), .inl (cL, 3840, .inr (.inl PT)))] := hD
  refine lv_aload_n hx hb d_Law_above_0 rfl (lv_at hl 3 rfl) ?_
  refine lv_iconst (v := 0) hx hb d_Law_above_1 (by decide) ?_
  refine lv_aload_n hx hb d_Law_above_2 rfl (lv_at hl 0 rfl) ?_
  refine lv_iload_n hx hb d_Law_above_3 rfl (lv_at hl 1 rfl) ?_
  refine lv_iload_n hx hb d_Law_above_4 rfl (lv_at hl 2 rfl) ?_
  refine ry_callV (n := 2) (As := [.int (nI x), .int (nI y)]) (rest := [.int 0, .ref (ad 18)]) ⟨hx, hb, hml, hown, htb⟩ (c_LR_above l dC dI cI cL cZ ad K F S D U V PT n hn nd hok x y hx1 hy1 hp hp2 g hg hfr) (gV mw_497 mw_498 mw_499 mw_1 mc_LR_above) rfl rfl (by decide +kernel) ⟨Nat.le_of_ble_eq_true rfl, Nat.le_of_ble_eq_true rfl⟩ (hP.sub [1, 2, 3, 4, 5, 6, 7, 8, 9] rfl) hK (ci := 0) (q0 := 0) rfl rfl rfl rfl hl.1 rfl (Nat.le_of_ble_eq_true rfl) d_Law_above_5 ⟨Nat.zero_le _, Nat.zero_le _⟩ (fun r_1 hr_1 => ?_)
  subst hr_1
  refine W.eq (g2 := F0 m 8 ls [.long (pab (pb g nd x) (pb g nd y) g), .int 0, .ref (ad 18)]) rfl ?_
  refine ry_last (D := (dC, dI)) (j := 0) hx hb hK hP hD hS 0 1 rfl rfl (by decide) (by decide) d_Law_above_8 (fun H locs hP hD hS => ?_)
  have hP : va_P (dC, dI) classes [((ad 18), .inl (cL, 1, .inr (.inl (vp_updL J 0 (pab (pb g nd x) (pb g nd y) g))))), ((ad 0), .inr (0, [.ref (ad 1), .ref (ad 9), .ref (ad 12)])), ((ad 1), .inr (1, [.ref (ad 2), .ref (ad 3), .ref (ad 4), .ref (ad 5), .ref (ad 6), .ref (ad 7), .ref (ad 8), .int (nI n)])), ((ad 2), .inl (cI, 120, .inl K)), ((ad 3), .inl (cI, 120, .inl F)), ((ad 4), .inl (cI, 120, .inl S)), ((ad 5), .inl (cI, 120, .inl D)), ((ad 6), .inl (cI, 120, .inl U)), ((ad 7), .inl (cI, 120, .inl V)), ((ad 8), .inl (cL, 3840, .inr (.inl PT)))] H := hP
  have hD : va_D A [((ad 18), .inl (cL, 1, .inr (.inl (vp_updL J 0 (pab (pb g nd x) (pb g nd y) g))))), ((ad 0), .inr (0, [.ref (ad 1), .ref (ad 9), .ref (ad 12)])), ((ad 1), .inr (1, [.ref (ad 2), .ref (ad 3), .ref (ad 4), .ref (ad 5), .ref (ad 6), .ref (ad 7), .ref (ad 8), .int (nI n)])), ((ad 2), .inl (cI, 120, .inl K)), ((ad 3), .inl (cI, 120, .inl F)), ((ad 4), .inl (cI, 120, .inl S)), ((ad 5), .inl (cI, 120, .inl D)), ((ad 6), .inl (cI, 120, .inl U)), ((ad 7), .inl (cI, 120, .inl V)), ((ad 8), .inl (cL, 3840, .inr (.inl PT)))] := hD
  refine lv_goto (tgt := 16) hx hb d_Law_above_9 (by decide) ?_
  refine lv_iconst (v := 0) hx hb d_Law_above_16 (by decide) ?_
  refine W.widen (k := 1) (n := 6) (Nat.le_of_ble_eq_true rfl) (Nat.le_of_ble_eq_true rfl) ?_
  exact W.iret (v := 0) hx hb hr (fun t ht hW => ⟨⟨0, (vp_updL J 0 (pab (pb g nd x) (pb g nd y) g)), rfl, ⟨rfl, updL_0 J _⟩, by rw [ht]; exact hP, va_K.moved hW.alike hK, hD⟩, hS.F ht⟩) hS.2.2 d_Law_above_17

set_option maxHeartbeats 4000000 in
set_option maxRecDepth 100000 in
theorem c0_Law_unknown (l : Launch) (htr : ∀ e, l.admits e → e.platform.stackTraces = false) (dC : Nat → ClassId) (dI : Nat → Nat → Nat) (cI cL cZ : ClassId) (ad : Nat → Nat) (J : Nat → Int64) (LO ST HI KP NB : Nat → Int32) (unk cnt : Nat) (sv sk ck : Int32) (hunk : unk ≤ 10) (hcnt : cnt ≤ 30) (h0 : unk = 10) (sz : Nat) : Met l y_Law_unknown (cw_Law_unknown :: tb) (rmH 9 1 6) (va_Pc [.ref (ad 0), .ref (ad 18)] (wh_P (dC, dI) classes (wHN cI cL cZ ad J LO ST HI KP NB unk cnt sv sk ck) (tyI cI cL cZ) sz)) (wy_Q ry_i (fun r (u : Unit) => r = 1) (wy_B (dC, dI) classes (tyI cI cL cZ) (va_A (wHN cI cL cZ ad J LO ST HI KP NB unk cnt sv sk ck) sz) (fun u : Unit => (wHN cI cL cZ ad J LO ST HI KP NB unk cnt sv sk ck))) (va_A (wHN cI cL cZ ad J LO ST HI KP NB unk cnt sv sk ck) sz)) 1 6 (va_A (wHN cI cL cZ ad J LO ST HI KP NB unk cnt sv sk ck) sz) := by
  refine wx_ofWH (cc := b_Law_unknown) (maxL := 3) (ret := (some .int)) (by decide +kernel) rfl ?_
  intro p e s m args below meth c s₁ B hml0 hes hv
  have C0 := cx_of B hml0 rfl
  obtain ⟨hx, hb, hr, hml, hown, htb, hlocks⟩ := id C0
  obtain ⟨rfl, ⟨⟨hsz, hP, hK, hD0⟩, hth, hst⟩, hnc⟩ := hv
  subst hsz
  have hD := hD0.self (sz := s.heap.size)
  generalize hAe : va_A (wHN cI cL cZ ad J LO ST HI KP NB unk cnt sv sk ck) s.heap.size = A at hD hth ⊢
  have hA : ∀ q : Nat, s.heap.size ≤ q → A q := fun q h => by rw [← hAe]; exact Or.inr h
  have hS : va_S A s.heap s.heap [] := va_S.rf
  have hl := lv_entry ([.ref (ad 0), .ref (ad 18)]) (n := 3) (Nat.le_of_ble_eq_true rfl)
  rw [lg_entry_eq]
  generalize (lg_sl ([.ref (ad 0), .ref (ad 18)]) ++ List.replicate (3 - (lg_sl ([.ref (ad 0), .ref (ad 18)])).length) Slot.unset).toArray = ls at hl ⊢
  have hl : lv_has ls 3 [(0, .ref (ad 0)), (1, .ref (ad 18))] := hl
  have hP : va_P (dC, dI) classes [((ad 18), .inl (cL, 1, .inr (.inl J))), ((ad 0), .inr (0, [.ref (ad 1), .ref (ad 9), .ref (ad 12)])), ((ad 12), .inr (3, [.ref (ad 13), .ref (ad 14), .ref (ad 15), .ref (ad 16), .ref (ad 17), .int (nI unk), .int (nI cnt), .int sv, .int sk, .int ck])), ((ad 13), .inl (cI, 30, .inl LO)), ((ad 14), .inl (cI, 30, .inl ST)), ((ad 15), .inl (cI, 30, .inl HI)), ((ad 16), .inl (cZ, 30, .inl KP)), ((ad 17), .inl (cI, 11, .inl NB))] s.heap := hP
  have hD : va_D A [((ad 18), .inl (cL, 1, .inr (.inl J))), ((ad 0), .inr (0, [.ref (ad 1), .ref (ad 9), .ref (ad 12)])), ((ad 12), .inr (3, [.ref (ad 13), .ref (ad 14), .ref (ad 15), .ref (ad 16), .ref (ad 17), .int (nI unk), .int (nI cnt), .int sv, .int sk, .int ck])), ((ad 13), .inl (cI, 30, .inl LO)), ((ad 14), .inl (cI, 30, .inl ST)), ((ad 15), .inl (cI, 30, .inl HI)), ((ad 16), .inl (cZ, 30, .inl KP)), ((ad 17), .inl (cI, 11, .inl NB))] := hD
  refine lv_aload_n hx hb d_Law_unknown_0 rfl (lv_at hl 1 rfl) ?_
  refine lv_iconst (v := 0) hx hb d_Law_unknown_1 (by decide) ?_
  refine lv_aload_n hx hb d_Law_unknown_2 rfl (lv_at hl 0 rfl) ?_
  refine wz_callV (n := 0) (wr := [((ad 18), .inl (cL, 1, .inr (.inl J)))]) (As := []) (rest := [.int 0, .ref (ad 18)]) ⟨hx, hb, hml, hown, htb⟩ (c0_LR_unknown l htr dC dI cI cL cZ ad LO ST HI KP NB unk cnt sv sk ck hunk hcnt h0 s.heap.size) (gV mw_511 mw_512 mw_513 mw_1 mc_LR_unknown) rfl rfl (by decide +kernel) ⟨Nat.le_of_ble_eq_true rfl, Nat.le_of_ble_eq_true rfl⟩ hth hst hP hD hS hA hK [1, 2, 3, 4, 5, 6, 7] [0] rfl rfl (by decide) (by decide) (hP.sub [1, 2, 3, 4, 5, 6, 7] rfl) ((hD.sub [1, 2, 3, 4, 5, 6, 7] (by decide) rfl).weaken (fun _ _ _ _ => trivial)) (ci := 0) (q0 := 0) rfl rfl rfl rfl hl.1 rfl (Nat.le_of_ble_eq_true rfl) d_Law_unknown_3 ⟨Nat.le_of_ble_eq_true rfl, Nat.le_of_ble_eq_true rfl⟩ (fun r u H locs hpost hP hD hS => ?_) (fun xx X u H locs hpt hex hP hD hS => ?_)
  · exact hpost.elim
  · subst hpt
    have hP : va_P (dC, dI) classes [((ad 18), .inl (cL, 1, .inr (.inl J))), ((ad 0), .inr (0, [.ref (ad 1), .ref (ad 9), .ref (ad 12)])), ((ad 12), .inr (3, [.ref (ad 13), .ref (ad 14), .ref (ad 15), .ref (ad 16), .ref (ad 17), .int (nI unk), .int (nI cnt), .int sv, .int sk, .int ck])), ((ad 13), .inl (cI, 30, .inl LO)), ((ad 14), .inl (cI, 30, .inl ST)), ((ad 15), .inl (cI, 30, .inl HI)), ((ad 16), .inl (cZ, 30, .inl KP)), ((ad 17), .inl (cI, 11, .inl NB))] H := hP
    have hD : va_D A [((ad 18), .inl (cL, 1, .inr (.inl J))), ((ad 0), .inr (0, [.ref (ad 1), .ref (ad 9), .ref (ad 12)])), ((ad 12), .inr (3, [.ref (ad 13), .ref (ad 14), .ref (ad 15), .ref (ad 16), .ref (ad 17), .int (nI unk), .int (nI cnt), .int sv, .int sk, .int ck])), ((ad 13), .inl (cI, 30, .inl LO)), ((ad 14), .inl (cI, 30, .inl ST)), ((ad 15), .inl (cI, 30, .inl HI)), ((ad 16), .inl (cZ, 30, .inl KP)), ((ad 17), .inl (cI, 11, .inl NB))] := hD
    refine wx_catch (own := R_Law) (X := "java/lang/IllegalStateException") hown hes hex (Or.inl ⟨rfl, by decide, rfl, "java/lang/IllegalStateException", htb _ mw_226, cs_of (htb _ mw_10)⟩) ?_
    refine lv_astore_n (lv' := [(2, .ref xx), (0, .ref (ad 0)), (1, .ref (ad 18))]) hx hb d_Law_unknown_11 rfl hl (by decide) rfl (fun ls hl => ?_)
    refine lv_iconst (v := 1) hx hb d_Law_unknown_12 (by decide) ?_
    refine W.widen (k := 1) (n := 6) (Nat.le_of_ble_eq_true rfl) (Nat.le_of_ble_eq_true rfl) ?_
    exact W.iret (v := 1) hx hb hr (fun t ht hW => ⟨⟨1, (), rfl, rfl, by rw [ht]; exact hP, va_K.moved hW.alike hK, hD⟩, hS.F ht⟩) hS.2.2 d_Law_unknown_13

set_option maxHeartbeats 4000000 in
set_option maxRecDepth 100000 in
theorem c_Law_unknown (l : Launch) (htr : ∀ e, l.admits e → e.platform.stackTraces = false) (dC : Nat → ClassId) (dI : Nat → Nat → Nat) (cI cL cZ : ClassId) (ad : Nat → Nat) (J : Nat → Int64) (LO ST HI KP NB : Nat → Int32) (unk cnt : Nat) (sv sk ck : Int32) (hunk : unk ≤ 10) (hcnt : cnt ≤ 30) (h1 : unk < 10) (sz : Nat) : Met l y_Law_unknown (cw_Law_unknown :: tb) (rmH 9 1 6) (va_Pc [.ref (ad 0), .ref (ad 18)] (wh_P (dC, dI) classes (wHN cI cL cZ ad J LO ST HI KP NB unk cnt sv sk ck) (tyI cI cL cZ) sz)) (wy_Q ry_i (fun r (u : Nat → Int64) => r = 0 ∧ u 0 = (nI unk).toInt64) (wy_B (dC, dI) classes (tyI cI cL cZ) (va_A (wHN cI cL cZ ad J LO ST HI KP NB unk cnt sv sk ck) sz) (fun u : Nat → Int64 => (wHN cI cL cZ ad u LO ST HI KP NB (unk + 1) cnt sv sk ck))) (va_A (wHN cI cL cZ ad J LO ST HI KP NB unk cnt sv sk ck) sz)) 1 6 (va_A (wHN cI cL cZ ad J LO ST HI KP NB unk cnt sv sk ck) sz) := by
  refine wx_ofWH (cc := b_Law_unknown) (maxL := 3) (ret := (some .int)) (by decide +kernel) rfl ?_
  intro p e s m args below meth c s₁ B hml0 hes hv
  have C0 := cx_of B hml0 rfl
  obtain ⟨hx, hb, hr, hml, hown, htb, hlocks⟩ := id C0
  obtain ⟨rfl, ⟨⟨hsz, hP, hK, hD0⟩, hth, hst⟩, hnc⟩ := hv
  subst hsz
  have hD := hD0.self (sz := s.heap.size)
  generalize hAe : va_A (wHN cI cL cZ ad J LO ST HI KP NB unk cnt sv sk ck) s.heap.size = A at hD hth ⊢
  have hA : ∀ q : Nat, s.heap.size ≤ q → A q := fun q h => by rw [← hAe]; exact Or.inr h
  have hS : va_S A s.heap s.heap [] := va_S.rf
  have hl := lv_entry ([.ref (ad 0), .ref (ad 18)]) (n := 3) (Nat.le_of_ble_eq_true rfl)
  rw [lg_entry_eq]
  generalize (lg_sl ([.ref (ad 0), .ref (ad 18)]) ++ List.replicate (3 - (lg_sl ([.ref (ad 0), .ref (ad 18)])).length) Slot.unset).toArray = ls at hl ⊢
  have hl : lv_has ls 3 [(0, .ref (ad 0)), (1, .ref (ad 18))] := hl
  have hP : va_P (dC, dI) classes [((ad 18), .inl (cL, 1, .inr (.inl J))), ((ad 0), .inr (0, [.ref (ad 1), .ref (ad 9), .ref (ad 12)])), ((ad 12), .inr (3, [.ref (ad 13), .ref (ad 14), .ref (ad 15), .ref (ad 16), .ref (ad 17), .int (nI unk), .int (nI cnt), .int sv, .int sk, .int ck])), ((ad 13), .inl (cI, 30, .inl LO)), ((ad 14), .inl (cI, 30, .inl ST)), ((ad 15), .inl (cI, 30, .inl HI)), ((ad 16), .inl (cZ, 30, .inl KP)), ((ad 17), .inl (cI, 11, .inl NB))] s.heap := hP
  have hD : va_D A [((ad 18), .inl (cL, 1, .inr (.inl J))), ((ad 0), .inr (0, [.ref (ad 1), .ref (ad 9), .ref (ad 12)])), ((ad 12), .inr (3, [.ref (ad 13), .ref (ad 14), .ref (ad 15), .ref (ad 16), .ref (ad 17), .int (nI unk), .int (nI cnt), .int sv, .int sk, .int ck])), ((ad 13), .inl (cI, 30, .inl LO)), ((ad 14), .inl (cI, 30, .inl ST)), ((ad 15), .inl (cI, 30, .inl HI)), ((ad 16), .inl (cZ, 30, .inl KP)), ((ad 17), .inl (cI, 11, .inl NB))] := hD
  refine lv_aload_n hx hb d_Law_unknown_0 rfl (lv_at hl 1 rfl) ?_
  refine lv_iconst (v := 0) hx hb d_Law_unknown_1 (by decide) ?_
  refine lv_aload_n hx hb d_Law_unknown_2 rfl (lv_at hl 0 rfl) ?_
  refine wy_callV (n := 0) (wr := [((ad 18), .inl (cL, 1, .inr (.inl J)))]) (As := []) (rest := [.int 0, .ref (ad 18)]) ⟨hx, hb, hml, hown, htb⟩ (c_LR_unknown l dC dI cI cL cZ ad LO ST HI KP NB unk cnt sv sk ck hunk hcnt h1 s.heap.size) (gV mw_511 mw_512 mw_513 mw_1 mc_LR_unknown) rfl rfl (by decide +kernel) ⟨Nat.le_of_ble_eq_true rfl, Nat.le_of_ble_eq_true rfl⟩ hP hD hS hA hK [1, 2, 3, 4, 5, 6, 7] [0] rfl rfl (by decide) (by decide) (hP.sub [1, 2, 3, 4, 5, 6, 7] rfl) ((hD.sub [1, 2, 3, 4, 5, 6, 7] (by decide) rfl).weaken (fun _ _ _ _ => trivial)) (ci := 0) (q0 := 0) rfl rfl rfl rfl hl.1 rfl (Nat.le_of_ble_eq_true rfl) d_Law_unknown_3 ⟨Nat.le_of_ble_eq_true rfl, Nat.le_of_ble_eq_true rfl⟩ (fun r u H locs hpost hP hD hS => ?_)
  subst hpost
  have hP : va_P (dC, dI) classes [((ad 18), .inl (cL, 1, .inr (.inl J))), ((ad 0), .inr (0, [.ref (ad 1), .ref (ad 9), .ref (ad 12)])), ((ad 12), .inr (3, [.ref (ad 13), .ref (ad 14), .ref (ad 15), .ref (ad 16), .ref (ad 17), .int (nI (unk + 1)), .int (nI cnt), .int sv, .int sk, .int ck])), ((ad 13), .inl (cI, 30, .inl LO)), ((ad 14), .inl (cI, 30, .inl ST)), ((ad 15), .inl (cI, 30, .inl HI)), ((ad 16), .inl (cZ, 30, .inl KP)), ((ad 17), .inl (cI, 11, .inl NB))] H := hP
  have hD : va_D A [((ad 18), .inl (cL, 1, .inr (.inl J))), ((ad 0), .inr (0, [.ref (ad 1), .ref (ad 9), .ref (ad 12)])), ((ad 12), .inr (3, [.ref (ad 13), .ref (ad 14), .ref (ad 15), .ref (ad 16), .ref (ad 17), .int (nI (unk + 1)), .int (nI cnt), .int sv, .int sk, .int ck])), ((ad 13), .inl (cI, 30, .inl LO)), ((ad 14), .inl (cI, 30, .inl ST)), ((ad 15), .inl (cI, 30, .inl HI)), ((ad 16), .inl (cZ, 30, .inl KP)), ((ad 17), .inl (cI, 11, .inl NB))] := hD
  refine W.eq (g2 := F0 m 6 ls [.int (nI unk), .int 0, .ref (ad 18)]) rfl ?_
  refine lv_i2l hx hb d_Law_unknown_6 rfl ?_
  refine ry_last (D := (dC, dI)) (j := 0) hx hb hK hP hD hS 0 1 rfl rfl (by decide) (by decide) d_Law_unknown_7 (fun H locs hP hD hS => ?_)
  have hP : va_P (dC, dI) classes [((ad 18), .inl (cL, 1, .inr (.inl (vp_updL J 0 ((nI unk) : Int32).toInt64)))), ((ad 0), .inr (0, [.ref (ad 1), .ref (ad 9), .ref (ad 12)])), ((ad 12), .inr (3, [.ref (ad 13), .ref (ad 14), .ref (ad 15), .ref (ad 16), .ref (ad 17), .int (nI (unk + 1)), .int (nI cnt), .int sv, .int sk, .int ck])), ((ad 13), .inl (cI, 30, .inl LO)), ((ad 14), .inl (cI, 30, .inl ST)), ((ad 15), .inl (cI, 30, .inl HI)), ((ad 16), .inl (cZ, 30, .inl KP)), ((ad 17), .inl (cI, 11, .inl NB))] H := hP
  have hD : va_D A [((ad 18), .inl (cL, 1, .inr (.inl (vp_updL J 0 ((nI unk) : Int32).toInt64)))), ((ad 0), .inr (0, [.ref (ad 1), .ref (ad 9), .ref (ad 12)])), ((ad 12), .inr (3, [.ref (ad 13), .ref (ad 14), .ref (ad 15), .ref (ad 16), .ref (ad 17), .int (nI (unk + 1)), .int (nI cnt), .int sv, .int sk, .int ck])), ((ad 13), .inl (cI, 30, .inl LO)), ((ad 14), .inl (cI, 30, .inl ST)), ((ad 15), .inl (cI, 30, .inl HI)), ((ad 16), .inl (cZ, 30, .inl KP)), ((ad 17), .inl (cI, 11, .inl NB))] := hD
  refine lv_goto (tgt := 14) hx hb d_Law_unknown_8 (by decide) ?_
  refine lv_iconst (v := 0) hx hb d_Law_unknown_14 (by decide) ?_
  refine W.widen (k := 1) (n := 6) (Nat.le_of_ble_eq_true rfl) (Nat.le_of_ble_eq_true rfl) ?_
  exact W.iret (v := 0) hx hb hr (fun t ht hW => ⟨⟨0, (vp_updL J 0 ((nI unk) : Int32).toInt64), rfl, ⟨rfl, updL_0 J _⟩, by rw [ht]; exact hP, va_K.moved hW.alike hK, hD⟩, hS.F ht⟩) hS.2.2 d_Law_unknown_15

set_option maxHeartbeats 4000000 in
set_option maxRecDepth 100000 in
theorem c1_Law_need (l : Launch) (htr : ∀ e, l.admits e → e.platform.stackTraces = false) (dC : Nat → ClassId) (dI : Nat → Nat → Nat) (cI cL cZ : ClassId) (ad : Nat → Nat) (J : Nat → Int64) (LO ST HI KP NB : Nat → Int32) (unk cnt : Nat) (sv sk ck : Int32) (hunk : unk ≤ 10) (hcnt : cnt ≤ 30) (x k y : Int32) (hsd : ¬ ((x = -1 ∨ hs x unk = 1) ∧ (y = -1 ∨ hs y unk = 1))) (sz : Nat) : Met l y_Law_need (cw_Law_need :: tb) (rmH 9 1 6) (va_Pc [.ref (ad 0), .int x, .int k, .int y, .ref (ad 18)] (wh_P (dC, dI) classes (wHN cI cL cZ ad J LO ST HI KP NB unk cnt sv sk ck) (tyI cI cL cZ) sz)) (wy_Q ry_i (fun r (u : Unit) => r = 1) (wy_B (dC, dI) classes (tyI cI cL cZ) (va_A (wHN cI cL cZ ad J LO ST HI KP NB unk cnt sv sk ck) sz) (fun u : Unit => (wHN cI cL cZ ad J LO ST HI KP NB unk cnt sv sk ck))) (va_A (wHN cI cL cZ ad J LO ST HI KP NB unk cnt sv sk ck) sz)) 1 6 (va_A (wHN cI cL cZ ad J LO ST HI KP NB unk cnt sv sk ck) sz) := by
  refine wx_ofWH (cc := b_Law_need) (maxL := 6) (ret := (some .int)) (by decide +kernel) rfl ?_
  intro p e s m args below meth c s₁ B hml0 hes hv
  have C0 := cx_of B hml0 rfl
  obtain ⟨hx, hb, hr, hml, hown, htb, hlocks⟩ := id C0
  obtain ⟨rfl, ⟨⟨hsz, hP, hK, hD0⟩, hth, hst⟩, hnc⟩ := hv
  subst hsz
  have hD := hD0.self (sz := s.heap.size)
  generalize hAe : va_A (wHN cI cL cZ ad J LO ST HI KP NB unk cnt sv sk ck) s.heap.size = A at hD hth ⊢
  have hA : ∀ q : Nat, s.heap.size ≤ q → A q := fun q h => by rw [← hAe]; exact Or.inr h
  have hS : va_S A s.heap s.heap [] := va_S.rf
  have hl := lv_entry ([.ref (ad 0), .int x, .int k, .int y, .ref (ad 18)]) (n := 6) (Nat.le_of_ble_eq_true rfl)
  rw [lg_entry_eq]
  generalize (lg_sl ([.ref (ad 0), .int x, .int k, .int y, .ref (ad 18)]) ++ List.replicate (6 - (lg_sl ([.ref (ad 0), .int x, .int k, .int y, .ref (ad 18)])).length) Slot.unset).toArray = ls at hl ⊢
  have hl : lv_has ls 6 [(0, .ref (ad 0)), (1, .int x), (2, .int k), (3, .int y), (4, .ref (ad 18))] := hl
  have hP : va_P (dC, dI) classes [((ad 18), .inl (cL, 1, .inr (.inl J))), ((ad 0), .inr (0, [.ref (ad 1), .ref (ad 9), .ref (ad 12)])), ((ad 12), .inr (3, [.ref (ad 13), .ref (ad 14), .ref (ad 15), .ref (ad 16), .ref (ad 17), .int (nI unk), .int (nI cnt), .int sv, .int sk, .int ck])), ((ad 13), .inl (cI, 30, .inl LO)), ((ad 14), .inl (cI, 30, .inl ST)), ((ad 15), .inl (cI, 30, .inl HI)), ((ad 16), .inl (cZ, 30, .inl KP)), ((ad 17), .inl (cI, 11, .inl NB))] s.heap := hP
  have hD : va_D A [((ad 18), .inl (cL, 1, .inr (.inl J))), ((ad 0), .inr (0, [.ref (ad 1), .ref (ad 9), .ref (ad 12)])), ((ad 12), .inr (3, [.ref (ad 13), .ref (ad 14), .ref (ad 15), .ref (ad 16), .ref (ad 17), .int (nI unk), .int (nI cnt), .int sv, .int sk, .int ck])), ((ad 13), .inl (cI, 30, .inl LO)), ((ad 14), .inl (cI, 30, .inl ST)), ((ad 15), .inl (cI, 30, .inl HI)), ((ad 16), .inl (cZ, 30, .inl KP)), ((ad 17), .inl (cI, 11, .inl NB))] := hD
  refine lv_aload hx hb d_Law_need_0 (lv_at hl 4 rfl) ?_
  refine lv_iconst (v := 0) hx hb d_Law_need_2 (by decide) ?_
  refine lv_aload_n hx hb d_Law_need_3 rfl (lv_at hl 0 rfl) ?_
  refine lv_iload_n hx hb d_Law_need_4 rfl (lv_at hl 1 rfl) ?_
  refine lv_iload_n hx hb d_Law_need_5 rfl (lv_at hl 2 rfl) ?_
  refine lv_iload_n hx hb d_Law_need_6 rfl (lv_at hl 3 rfl) ?_
  refine wz_callV (n := 3) (wr := [((ad 18), .inl (cL, 1, .inr (.inl J)))]) (As := [.int x, .int k, .int y]) (rest := [.int 0, .ref (ad 18)]) ⟨hx, hb, hml, hown, htb⟩ (c1_LR_need l htr dC dI cI cL cZ ad LO ST HI KP NB unk cnt sv sk ck hunk hcnt x k y hsd s.heap.size) (gV mw_525 mw_526 mw_527 mw_1 mc_LR_need) rfl rfl (by decide +kernel) ⟨Nat.le_of_ble_eq_true rfl, Nat.le_of_ble_eq_true rfl⟩ hth hst hP hD hS hA hK [1, 2, 3, 4, 5, 6, 7] [0] rfl rfl (by decide) (by decide) (hP.sub [1, 2, 3, 4, 5, 6, 7] rfl) ((hD.sub [1, 2, 3, 4, 5, 6, 7] (by decide) rfl).weaken (fun _ _ _ _ => trivial)) (ci := 0) (q0 := 0) rfl rfl rfl rfl hl.1 rfl (Nat.le_of_ble_eq_true rfl) d_Law_need_7 ⟨Nat.le_of_ble_eq_true rfl, Nat.le_of_ble_eq_true rfl⟩ (fun r u H locs hpost hP hD hS => ?_) (fun xx X u H locs hpt hex hP hD hS => ?_)
  · exact hpost.elim
  · subst hpt
    have hP : va_P (dC, dI) classes [((ad 18), .inl (cL, 1, .inr (.inl J))), ((ad 0), .inr (0, [.ref (ad 1), .ref (ad 9), .ref (ad 12)])), ((ad 12), .inr (3, [.ref (ad 13), .ref (ad 14), .ref (ad 15), .ref (ad 16), .ref (ad 17), .int (nI unk), .int (nI cnt), .int sv, .int sk, .int ck])), ((ad 13), .inl (cI, 30, .inl LO)), ((ad 14), .inl (cI, 30, .inl ST)), ((ad 15), .inl (cI, 30, .inl HI)), ((ad 16), .inl (cZ, 30, .inl KP)), ((ad 17), .inl (cI, 11, .inl NB))] H := hP
    have hD : va_D A [((ad 18), .inl (cL, 1, .inr (.inl J))), ((ad 0), .inr (0, [.ref (ad 1), .ref (ad 9), .ref (ad 12)])), ((ad 12), .inr (3, [.ref (ad 13), .ref (ad 14), .ref (ad 15), .ref (ad 16), .ref (ad 17), .int (nI unk), .int (nI cnt), .int sv, .int sk, .int ck])), ((ad 13), .inl (cI, 30, .inl LO)), ((ad 14), .inl (cI, 30, .inl ST)), ((ad 15), .inl (cI, 30, .inl HI)), ((ad 16), .inl (cZ, 30, .inl KP)), ((ad 17), .inl (cI, 11, .inl NB))] := hD
    refine wx_catch (own := R_Law) (X := "java/lang/IndexOutOfBoundsException") hown hes hex (Or.inl ⟨rfl, by decide, rfl, "java/lang/IndexOutOfBoundsException", htb _ mw_364, cs_of (htb _ mw_13)⟩) ?_
    refine lv_astore (lv' := [(5, .ref xx), (0, .ref (ad 0)), (1, .int x), (2, .int k), (3, .int y), (4, .ref (ad 18))]) hx hb d_Law_need_15 hl (by decide) rfl (fun ls hl => ?_)
    refine lv_iconst (v := 1) hx hb d_Law_need_17 (by decide) ?_
    refine W.widen (k := 1) (n := 6) (Nat.le_of_ble_eq_true rfl) (Nat.le_of_ble_eq_true rfl) ?_
    exact W.iret (v := 1) hx hb hr (fun t ht hW => ⟨⟨1, (), rfl, rfl, by rw [ht]; exact hP, va_K.moved hW.alike hK, hD⟩, hS.F ht⟩) hS.2.2 d_Law_need_18

set_option maxHeartbeats 4000000 in
set_option maxRecDepth 100000 in
theorem c2_Law_need (l : Launch) (htr : ∀ e, l.admits e → e.platform.stackTraces = false) (dC : Nat → ClassId) (dI : Nat → Nat → Nat) (cI cL cZ : ClassId) (ad : Nat → Nat) (J : Nat → Int64) (LO ST HI KP NB : Nat → Int32) (unk cnt : Nat) (sv sk ck : Int32) (hunk : unk ≤ 10) (hcnt : cnt ≤ 30) (x k y : Int32) (hs1 : (x = -1 ∨ hs x unk = 1)) (hs2 : (y = -1 ∨ hs y unk = 1)) (hk : k < -20 ∨ 20 < k) (sz : Nat) : Met l y_Law_need (cw_Law_need :: tb) (rmH 9 1 6) (va_Pc [.ref (ad 0), .int x, .int k, .int y, .ref (ad 18)] (wh_P (dC, dI) classes (wHN cI cL cZ ad J LO ST HI KP NB unk cnt sv sk ck) (tyI cI cL cZ) sz)) (wy_Q ry_i (fun r (u : Unit) => r = 2) (wy_B (dC, dI) classes (tyI cI cL cZ) (va_A (wHN cI cL cZ ad J LO ST HI KP NB unk cnt sv sk ck) sz) (fun u : Unit => (wHN cI cL cZ ad J LO ST HI KP NB unk cnt sv sk ck))) (va_A (wHN cI cL cZ ad J LO ST HI KP NB unk cnt sv sk ck) sz)) 1 6 (va_A (wHN cI cL cZ ad J LO ST HI KP NB unk cnt sv sk ck) sz) := by
  refine wx_ofWH (cc := b_Law_need) (maxL := 6) (ret := (some .int)) (by decide +kernel) rfl ?_
  intro p e s m args below meth c s₁ B hml0 hes hv
  have C0 := cx_of B hml0 rfl
  obtain ⟨hx, hb, hr, hml, hown, htb, hlocks⟩ := id C0
  obtain ⟨rfl, ⟨⟨hsz, hP, hK, hD0⟩, hth, hst⟩, hnc⟩ := hv
  subst hsz
  have hD := hD0.self (sz := s.heap.size)
  generalize hAe : va_A (wHN cI cL cZ ad J LO ST HI KP NB unk cnt sv sk ck) s.heap.size = A at hD hth ⊢
  have hA : ∀ q : Nat, s.heap.size ≤ q → A q := fun q h => by rw [← hAe]; exact Or.inr h
  have hS : va_S A s.heap s.heap [] := va_S.rf
  have hl := lv_entry ([.ref (ad 0), .int x, .int k, .int y, .ref (ad 18)]) (n := 6) (Nat.le_of_ble_eq_true rfl)
  rw [lg_entry_eq]
  generalize (lg_sl ([.ref (ad 0), .int x, .int k, .int y, .ref (ad 18)]) ++ List.replicate (6 - (lg_sl ([.ref (ad 0), .int x, .int k, .int y, .ref (ad 18)])).length) Slot.unset).toArray = ls at hl ⊢
  have hl : lv_has ls 6 [(0, .ref (ad 0)), (1, .int x), (2, .int k), (3, .int y), (4, .ref (ad 18))] := hl
  have hP : va_P (dC, dI) classes [((ad 18), .inl (cL, 1, .inr (.inl J))), ((ad 0), .inr (0, [.ref (ad 1), .ref (ad 9), .ref (ad 12)])), ((ad 12), .inr (3, [.ref (ad 13), .ref (ad 14), .ref (ad 15), .ref (ad 16), .ref (ad 17), .int (nI unk), .int (nI cnt), .int sv, .int sk, .int ck])), ((ad 13), .inl (cI, 30, .inl LO)), ((ad 14), .inl (cI, 30, .inl ST)), ((ad 15), .inl (cI, 30, .inl HI)), ((ad 16), .inl (cZ, 30, .inl KP)), ((ad 17), .inl (cI, 11, .inl NB))] s.heap := hP
  have hD : va_D A [((ad 18), .inl (cL, 1, .inr (.inl J))), ((ad 0), .inr (0, [.ref (ad 1), .ref (ad 9), .ref (ad 12)])), ((ad 12), .inr (3, [.ref (ad 13), .ref (ad 14), .ref (ad 15), .ref (ad 16), .ref (ad 17), .int (nI unk), .int (nI cnt), .int sv, .int sk, .int ck])), ((ad 13), .inl (cI, 30, .inl LO)), ((ad 14), .inl (cI, 30, .inl ST)), ((ad 15), .inl (cI, 30, .inl HI)), ((ad 16), .inl (cZ, 30, .inl KP)), ((ad 17), .inl (cI, 11, .inl NB))] := hD
  refine lv_aload hx hb d_Law_need_0 (lv_at hl 4 rfl) ?_
  refine lv_iconst (v := 0) hx hb d_Law_need_2 (by decide) ?_
  refine lv_aload_n hx hb d_Law_need_3 rfl (lv_at hl 0 rfl) ?_
  refine lv_iload_n hx hb d_Law_need_4 rfl (lv_at hl 1 rfl) ?_
  refine lv_iload_n hx hb d_Law_need_5 rfl (lv_at hl 2 rfl) ?_
  refine lv_iload_n hx hb d_Law_need_6 rfl (lv_at hl 3 rfl) ?_
  refine wz_callV (n := 3) (wr := [((ad 18), .inl (cL, 1, .inr (.inl J)))]) (As := [.int x, .int k, .int y]) (rest := [.int 0, .ref (ad 18)]) ⟨hx, hb, hml, hown, htb⟩ (c2_LR_need l htr dC dI cI cL cZ ad LO ST HI KP NB unk cnt sv sk ck hunk hcnt x k y hs1 hs2 hk s.heap.size) (gV mw_525 mw_526 mw_527 mw_1 mc_LR_need) rfl rfl (by decide +kernel) ⟨Nat.le_of_ble_eq_true rfl, Nat.le_of_ble_eq_true rfl⟩ hth hst hP hD hS hA hK [1, 2, 3, 4, 5, 6, 7] [0] rfl rfl (by decide) (by decide) (hP.sub [1, 2, 3, 4, 5, 6, 7] rfl) ((hD.sub [1, 2, 3, 4, 5, 6, 7] (by decide) rfl).weaken (fun _ _ _ _ => trivial)) (ci := 0) (q0 := 0) rfl rfl rfl rfl hl.1 rfl (Nat.le_of_ble_eq_true rfl) d_Law_need_7 ⟨Nat.le_of_ble_eq_true rfl, Nat.le_of_ble_eq_true rfl⟩ (fun r u H locs hpost hP hD hS => ?_) (fun xx X u H locs hpt hex hP hD hS => ?_)
  · exact hpost.elim
  · subst hpt
    have hP : va_P (dC, dI) classes [((ad 18), .inl (cL, 1, .inr (.inl J))), ((ad 0), .inr (0, [.ref (ad 1), .ref (ad 9), .ref (ad 12)])), ((ad 12), .inr (3, [.ref (ad 13), .ref (ad 14), .ref (ad 15), .ref (ad 16), .ref (ad 17), .int (nI unk), .int (nI cnt), .int sv, .int sk, .int ck])), ((ad 13), .inl (cI, 30, .inl LO)), ((ad 14), .inl (cI, 30, .inl ST)), ((ad 15), .inl (cI, 30, .inl HI)), ((ad 16), .inl (cZ, 30, .inl KP)), ((ad 17), .inl (cI, 11, .inl NB))] H := hP
    have hD : va_D A [((ad 18), .inl (cL, 1, .inr (.inl J))), ((ad 0), .inr (0, [.ref (ad 1), .ref (ad 9), .ref (ad 12)])), ((ad 12), .inr (3, [.ref (ad 13), .ref (ad 14), .ref (ad 15), .ref (ad 16), .ref (ad 17), .int (nI unk), .int (nI cnt), .int sv, .int sk, .int ck])), ((ad 13), .inl (cI, 30, .inl LO)), ((ad 14), .inl (cI, 30, .inl ST)), ((ad 15), .inl (cI, 30, .inl HI)), ((ad 16), .inl (cZ, 30, .inl KP)), ((ad 17), .inl (cI, 11, .inl NB))] := hD
    refine wx_catch (own := R_Law) (X := "java/lang/IllegalArgumentException") hown hes hex (Or.inr (Or.inl ⟨rfl, by decide, ⟨"java/lang/IndexOutOfBoundsException", htb _ mw_364, nc_use hnc.1.1⟩, Or.inl ⟨rfl, by decide, rfl, "java/lang/IllegalArgumentException", htb _ mw_391, cs_of (htb _ mw_9)⟩⟩)) ?_
    refine lv_astore (lv' := [(5, .ref xx), (0, .ref (ad 0)), (1, .int x), (2, .int k), (3, .int y), (4, .ref (ad 18))]) hx hb d_Law_need_19 hl (by decide) rfl (fun ls hl => ?_)
    refine lv_iconst (v := 2) hx hb d_Law_need_21 (by decide) ?_
    refine W.widen (k := 1) (n := 6) (Nat.le_of_ble_eq_true rfl) (Nat.le_of_ble_eq_true rfl) ?_
    exact W.iret (v := 2) hx hb hr (fun t ht hW => ⟨⟨2, (), rfl, rfl, by rw [ht]; exact hP, va_K.moved hW.alike hK, hD⟩, hS.F ht⟩) hS.2.2 d_Law_need_22

set_option maxHeartbeats 4000000 in
set_option maxRecDepth 100000 in
theorem c3_Law_need (l : Launch) (htr : ∀ e, l.admits e → e.platform.stackTraces = false) (dC : Nat → ClassId) (dI : Nat → Nat → Nat) (cI cL cZ : ClassId) (ad : Nat → Nat) (J : Nat → Int64) (LO ST HI KP NB : Nat → Int32) (unk cnt : Nat) (sv sk ck : Int32) (hunk : unk ≤ 10) (hcnt : cnt ≤ 30) (x k y : Int32) (hs1 : (x = -1 ∨ hs x unk = 1)) (hs2 : (y = -1 ∨ hs y unk = 1)) (hk : -20 ≤ k ∧ k ≤ 20) (h0 : cnt = 30) (sz : Nat) : Met l y_Law_need (cw_Law_need :: tb) (rmH 9 1 6) (va_Pc [.ref (ad 0), .int x, .int k, .int y, .ref (ad 18)] (wh_P (dC, dI) classes (wHN cI cL cZ ad J LO ST HI KP NB unk cnt sv sk ck) (tyI cI cL cZ) sz)) (wy_Q ry_i (fun r (u : Unit) => r = 3) (wy_B (dC, dI) classes (tyI cI cL cZ) (va_A (wHN cI cL cZ ad J LO ST HI KP NB unk cnt sv sk ck) sz) (fun u : Unit => (wHN cI cL cZ ad J LO ST HI KP NB unk cnt sv sk ck))) (va_A (wHN cI cL cZ ad J LO ST HI KP NB unk cnt sv sk ck) sz)) 1 6 (va_A (wHN cI cL cZ ad J LO ST HI KP NB unk cnt sv sk ck) sz) := by
  refine wx_ofWH (cc := b_Law_need) (maxL := 6) (ret := (some .int)) (by decide +kernel) rfl ?_
  intro p e s m args below meth c s₁ B hml0 hes hv
  have C0 := cx_of B hml0 rfl
  obtain ⟨hx, hb, hr, hml, hown, htb, hlocks⟩ := id C0
  obtain ⟨rfl, ⟨⟨hsz, hP, hK, hD0⟩, hth, hst⟩, hnc⟩ := hv
  subst hsz
  have hD := hD0.self (sz := s.heap.size)
  generalize hAe : va_A (wHN cI cL cZ ad J LO ST HI KP NB unk cnt sv sk ck) s.heap.size = A at hD hth ⊢
  have hA : ∀ q : Nat, s.heap.size ≤ q → A q := fun q h => by rw [← hAe]; exact Or.inr h
  have hS : va_S A s.heap s.heap [] := va_S.rf
  have hl := lv_entry ([.ref (ad 0), .int x, .int k, .int y, .ref (ad 18)]) (n := 6) (Nat.le_of_ble_eq_true rfl)
  rw [lg_entry_eq]
  generalize (lg_sl ([.ref (ad 0), .int x, .int k, .int y, .ref (ad 18)]) ++ List.replicate (6 - (lg_sl ([.ref (ad 0), .int x, .int k, .int y, .ref (ad 18)])).length) Slot.unset).toArray = ls at hl ⊢
  have hl : lv_has ls 6 [(0, .ref (ad 0)), (1, .int x), (2, .int k), (3, .int y), (4, .ref (ad 18))] := hl
  have hP : va_P (dC, dI) classes [((ad 18), .inl (cL, 1, .inr (.inl J))), ((ad 0), .inr (0, [.ref (ad 1), .ref (ad 9), .ref (ad 12)])), ((ad 12), .inr (3, [.ref (ad 13), .ref (ad 14), .ref (ad 15), .ref (ad 16), .ref (ad 17), .int (nI unk), .int (nI cnt), .int sv, .int sk, .int ck])), ((ad 13), .inl (cI, 30, .inl LO)), ((ad 14), .inl (cI, 30, .inl ST)), ((ad 15), .inl (cI, 30, .inl HI)), ((ad 16), .inl (cZ, 30, .inl KP)), ((ad 17), .inl (cI, 11, .inl NB))] s.heap := hP
  have hD : va_D A [((ad 18), .inl (cL, 1, .inr (.inl J))), ((ad 0), .inr (0, [.ref (ad 1), .ref (ad 9), .ref (ad 12)])), ((ad 12), .inr (3, [.ref (ad 13), .ref (ad 14), .ref (ad 15), .ref (ad 16), .ref (ad 17), .int (nI unk), .int (nI cnt), .int sv, .int sk, .int ck])), ((ad 13), .inl (cI, 30, .inl LO)), ((ad 14), .inl (cI, 30, .inl ST)), ((ad 15), .inl (cI, 30, .inl HI)), ((ad 16), .inl (cZ, 30, .inl KP)), ((ad 17), .inl (cI, 11, .inl NB))] := hD
  refine lv_aload hx hb d_Law_need_0 (lv_at hl 4 rfl) ?_
  refine lv_iconst (v := 0) hx hb d_Law_need_2 (by decide) ?_
  refine lv_aload_n hx hb d_Law_need_3 rfl (lv_at hl 0 rfl) ?_
  refine lv_iload_n hx hb d_Law_need_4 rfl (lv_at hl 1 rfl) ?_
  refine lv_iload_n hx hb d_Law_need_5 rfl (lv_at hl 2 rfl) ?_
  refine lv_iload_n hx hb d_Law_need_6 rfl (lv_at hl 3 rfl) ?_
  refine wz_callV (n := 3) (wr := [((ad 18), .inl (cL, 1, .inr (.inl J)))]) (As := [.int x, .int k, .int y]) (rest := [.int 0, .ref (ad 18)]) ⟨hx, hb, hml, hown, htb⟩ (c3_LR_need l htr dC dI cI cL cZ ad LO ST HI KP NB unk cnt sv sk ck hunk hcnt x k y hs1 hs2 hk h0 s.heap.size) (gV mw_525 mw_526 mw_527 mw_1 mc_LR_need) rfl rfl (by decide +kernel) ⟨Nat.le_of_ble_eq_true rfl, Nat.le_of_ble_eq_true rfl⟩ hth hst hP hD hS hA hK [1, 2, 3, 4, 5, 6, 7] [0] rfl rfl (by decide) (by decide) (hP.sub [1, 2, 3, 4, 5, 6, 7] rfl) ((hD.sub [1, 2, 3, 4, 5, 6, 7] (by decide) rfl).weaken (fun _ _ _ _ => trivial)) (ci := 0) (q0 := 0) rfl rfl rfl rfl hl.1 rfl (Nat.le_of_ble_eq_true rfl) d_Law_need_7 ⟨Nat.le_of_ble_eq_true rfl, Nat.le_of_ble_eq_true rfl⟩ (fun r u H locs hpost hP hD hS => ?_) (fun xx X u H locs hpt hex hP hD hS => ?_)
  · exact hpost.elim
  · subst hpt
    have hP : va_P (dC, dI) classes [((ad 18), .inl (cL, 1, .inr (.inl J))), ((ad 0), .inr (0, [.ref (ad 1), .ref (ad 9), .ref (ad 12)])), ((ad 12), .inr (3, [.ref (ad 13), .ref (ad 14), .ref (ad 15), .ref (ad 16), .ref (ad 17), .int (nI unk), .int (nI cnt), .int sv, .int sk, .int ck])), ((ad 13), .inl (cI, 30, .inl LO)), ((ad 14), .inl (cI, 30, .inl ST)), ((ad 15), .inl (cI, 30, .inl HI)), ((ad 16), .inl (cZ, 30, .inl KP)), ((ad 17), .inl (cI, 11, .inl NB))] H := hP
    have hD : va_D A [((ad 18), .inl (cL, 1, .inr (.inl J))), ((ad 0), .inr (0, [.ref (ad 1), .ref (ad 9), .ref (ad 12)])), ((ad 12), .inr (3, [.ref (ad 13), .ref (ad 14), .ref (ad 15), .ref (ad 16), .ref (ad 17), .int (nI unk), .int (nI cnt), .int sv, .int sk, .int ck])), ((ad 13), .inl (cI, 30, .inl LO)), ((ad 14), .inl (cI, 30, .inl ST)), ((ad 15), .inl (cI, 30, .inl HI)), ((ad 16), .inl (cZ, 30, .inl KP)), ((ad 17), .inl (cI, 11, .inl NB))] := hD
    refine wx_catch (own := R_Law) (X := "java/lang/IllegalStateException") hown hes hex (Or.inr (Or.inl ⟨rfl, by decide, ⟨"java/lang/IndexOutOfBoundsException", htb _ mw_364, nc_use hnc.1.2⟩, Or.inr (Or.inl ⟨rfl, by decide, ⟨"java/lang/IllegalArgumentException", htb _ mw_391, nc_use hnc.2⟩, Or.inl ⟨rfl, by decide, rfl, "java/lang/IllegalStateException", htb _ mw_226, cs_of (htb _ mw_10)⟩⟩)⟩)) ?_
    refine lv_astore (lv' := [(5, .ref xx), (0, .ref (ad 0)), (1, .int x), (2, .int k), (3, .int y), (4, .ref (ad 18))]) hx hb d_Law_need_23 hl (by decide) rfl (fun ls hl => ?_)
    refine lv_iconst (v := 3) hx hb d_Law_need_25 (by decide) ?_
    refine W.widen (k := 1) (n := 6) (Nat.le_of_ble_eq_true rfl) (Nat.le_of_ble_eq_true rfl) ?_
    exact W.iret (v := 3) hx hb hr (fun t ht hW => ⟨⟨3, (), rfl, rfl, by rw [ht]; exact hP, va_K.moved hW.alike hK, hD⟩, hS.F ht⟩) hS.2.2 d_Law_need_26

set_option maxHeartbeats 4000000 in
set_option maxRecDepth 100000 in
theorem c_Law_need (l : Launch) (htr : ∀ e, l.admits e → e.platform.stackTraces = false) (dC : Nat → ClassId) (dI : Nat → Nat → Nat) (cI cL cZ : ClassId) (ad : Nat → Nat) (J : Nat → Int64) (LO ST HI KP NB : Nat → Int32) (unk cnt : Nat) (sv sk ck : Int32) (hunk : unk ≤ 10) (hcnt : cnt ≤ 30) (x k y : Int32) (hs1 : (x = -1 ∨ hs x unk = 1)) (hs2 : (y = -1 ∨ hs y unk = 1)) (hk : -20 ≤ k ∧ k ≤ 20) (h1 : cnt < 30) (sz : Nat) : Met l y_Law_need (cw_Law_need :: tb) (rmH 9 1 6) (va_Pc [.ref (ad 0), .int x, .int k, .int y, .ref (ad 18)] (wh_P (dC, dI) classes (wHN cI cL cZ ad J LO ST HI KP NB unk cnt sv sk ck) (tyI cI cL cZ) sz)) (wy_Q ry_i (fun r (u : Nat → Int64) => r = 0 ∧ u 0 = (nI cnt).toInt64) (wy_B (dC, dI) classes (tyI cI cL cZ) (va_A (wHN cI cL cZ ad J LO ST HI KP NB unk cnt sv sk ck) sz) (fun u : Nat → Int64 => (wHN cI cL cZ ad u (upd LO cnt (sdI x)) (upd ST cnt k) (upd HI cnt (sdI y)) KP NB unk (cnt + 1) sv 0 0))) (va_A (wHN cI cL cZ ad J LO ST HI KP NB unk cnt sv sk ck) sz)) 1 6 (va_A (wHN cI cL cZ ad J LO ST HI KP NB unk cnt sv sk ck) sz) := by
  refine wx_ofWH (cc := b_Law_need) (maxL := 6) (ret := (some .int)) (by decide +kernel) rfl ?_
  intro p e s m args below meth c s₁ B hml0 hes hv
  have C0 := cx_of B hml0 rfl
  obtain ⟨hx, hb, hr, hml, hown, htb, hlocks⟩ := id C0
  obtain ⟨rfl, ⟨⟨hsz, hP, hK, hD0⟩, hth, hst⟩, hnc⟩ := hv
  subst hsz
  have hD := hD0.self (sz := s.heap.size)
  generalize hAe : va_A (wHN cI cL cZ ad J LO ST HI KP NB unk cnt sv sk ck) s.heap.size = A at hD hth ⊢
  have hA : ∀ q : Nat, s.heap.size ≤ q → A q := fun q h => by rw [← hAe]; exact Or.inr h
  have hS : va_S A s.heap s.heap [] := va_S.rf
  have hl := lv_entry ([.ref (ad 0), .int x, .int k, .int y, .ref (ad 18)]) (n := 6) (Nat.le_of_ble_eq_true rfl)
  rw [lg_entry_eq]
  generalize (lg_sl ([.ref (ad 0), .int x, .int k, .int y, .ref (ad 18)]) ++ List.replicate (6 - (lg_sl ([.ref (ad 0), .int x, .int k, .int y, .ref (ad 18)])).length) Slot.unset).toArray = ls at hl ⊢
  have hl : lv_has ls 6 [(0, .ref (ad 0)), (1, .int x), (2, .int k), (3, .int y), (4, .ref (ad 18))] := hl
  have hP : va_P (dC, dI) classes [((ad 18), .inl (cL, 1, .inr (.inl J))), ((ad 0), .inr (0, [.ref (ad 1), .ref (ad 9), .ref (ad 12)])), ((ad 12), .inr (3, [.ref (ad 13), .ref (ad 14), .ref (ad 15), .ref (ad 16), .ref (ad 17), .int (nI unk), .int (nI cnt), .int sv, .int sk, .int ck])), ((ad 13), .inl (cI, 30, .inl LO)), ((ad 14), .inl (cI, 30, .inl ST)), ((ad 15), .inl (cI, 30, .inl HI)), ((ad 16), .inl (cZ, 30, .inl KP)), ((ad 17), .inl (cI, 11, .inl NB))] s.heap := hP
  have hD : va_D A [((ad 18), .inl (cL, 1, .inr (.inl J))), ((ad 0), .inr (0, [.ref (ad 1), .ref (ad 9), .ref (ad 12)])), ((ad 12), .inr (3, [.ref (ad 13), .ref (ad 14), .ref (ad 15), .ref (ad 16), .ref (ad 17), .int (nI unk), .int (nI cnt), .int sv, .int sk, .int ck])), ((ad 13), .inl (cI, 30, .inl LO)), ((ad 14), .inl (cI, 30, .inl ST)), ((ad 15), .inl (cI, 30, .inl HI)), ((ad 16), .inl (cZ, 30, .inl KP)), ((ad 17), .inl (cI, 11, .inl NB))] := hD
  refine lv_aload hx hb d_Law_need_0 (lv_at hl 4 rfl) ?_
  refine lv_iconst (v := 0) hx hb d_Law_need_2 (by decide) ?_
  refine lv_aload_n hx hb d_Law_need_3 rfl (lv_at hl 0 rfl) ?_
  refine lv_iload_n hx hb d_Law_need_4 rfl (lv_at hl 1 rfl) ?_
  refine lv_iload_n hx hb d_Law_need_5 rfl (lv_at hl 2 rfl) ?_
  refine lv_iload_n hx hb d_Law_need_6 rfl (lv_at hl 3 rfl) ?_
  refine wy_callV (n := 3) (wr := [((ad 18), .inl (cL, 1, .inr (.inl J)))]) (As := [.int x, .int k, .int y]) (rest := [.int 0, .ref (ad 18)]) ⟨hx, hb, hml, hown, htb⟩ (c_LR_need l dC dI cI cL cZ ad LO ST HI KP NB unk cnt sv sk ck hunk hcnt x k y hs1 hs2 hk h1 s.heap.size) (gV mw_525 mw_526 mw_527 mw_1 mc_LR_need) rfl rfl (by decide +kernel) ⟨Nat.le_of_ble_eq_true rfl, Nat.le_of_ble_eq_true rfl⟩ hP hD hS hA hK [1, 2, 3, 4, 5, 6, 7] [0] rfl rfl (by decide) (by decide) (hP.sub [1, 2, 3, 4, 5, 6, 7] rfl) ((hD.sub [1, 2, 3, 4, 5, 6, 7] (by decide) rfl).weaken (fun _ _ _ _ => trivial)) (ci := 0) (q0 := 0) rfl rfl rfl rfl hl.1 rfl (Nat.le_of_ble_eq_true rfl) d_Law_need_7 ⟨Nat.le_of_ble_eq_true rfl, Nat.le_of_ble_eq_true rfl⟩ (fun r u H locs hpost hP hD hS => ?_)
  subst hpost
  have hP : va_P (dC, dI) classes [((ad 18), .inl (cL, 1, .inr (.inl J))), ((ad 0), .inr (0, [.ref (ad 1), .ref (ad 9), .ref (ad 12)])), ((ad 12), .inr (3, [.ref (ad 13), .ref (ad 14), .ref (ad 15), .ref (ad 16), .ref (ad 17), .int (nI unk), .int (nI (cnt + 1)), .int sv, .int 0, .int 0])), ((ad 13), .inl (cI, 30, .inl (upd LO cnt (sdI x)))), ((ad 14), .inl (cI, 30, .inl (upd ST cnt k))), ((ad 15), .inl (cI, 30, .inl (upd HI cnt (sdI y)))), ((ad 16), .inl (cZ, 30, .inl KP)), ((ad 17), .inl (cI, 11, .inl NB))] H := hP
  have hD : va_D A [((ad 18), .inl (cL, 1, .inr (.inl J))), ((ad 0), .inr (0, [.ref (ad 1), .ref (ad 9), .ref (ad 12)])), ((ad 12), .inr (3, [.ref (ad 13), .ref (ad 14), .ref (ad 15), .ref (ad 16), .ref (ad 17), .int (nI unk), .int (nI (cnt + 1)), .int sv, .int 0, .int 0])), ((ad 13), .inl (cI, 30, .inl (upd LO cnt (sdI x)))), ((ad 14), .inl (cI, 30, .inl (upd ST cnt k))), ((ad 15), .inl (cI, 30, .inl (upd HI cnt (sdI y)))), ((ad 16), .inl (cZ, 30, .inl KP)), ((ad 17), .inl (cI, 11, .inl NB))] := hD
  refine W.eq (g2 := F0 m 10 ls [.int (nI cnt), .int 0, .ref (ad 18)]) rfl ?_
  refine lv_i2l hx hb d_Law_need_10 rfl ?_
  refine ry_last (D := (dC, dI)) (j := 0) hx hb hK hP hD hS 0 1 rfl rfl (by decide) (by decide) d_Law_need_11 (fun H locs hP hD hS => ?_)
  have hP : va_P (dC, dI) classes [((ad 18), .inl (cL, 1, .inr (.inl (vp_updL J 0 ((nI cnt) : Int32).toInt64)))), ((ad 0), .inr (0, [.ref (ad 1), .ref (ad 9), .ref (ad 12)])), ((ad 12), .inr (3, [.ref (ad 13), .ref (ad 14), .ref (ad 15), .ref (ad 16), .ref (ad 17), .int (nI unk), .int (nI (cnt + 1)), .int sv, .int 0, .int 0])), ((ad 13), .inl (cI, 30, .inl (upd LO cnt (sdI x)))), ((ad 14), .inl (cI, 30, .inl (upd ST cnt k))), ((ad 15), .inl (cI, 30, .inl (upd HI cnt (sdI y)))), ((ad 16), .inl (cZ, 30, .inl KP)), ((ad 17), .inl (cI, 11, .inl NB))] H := hP
  have hD : va_D A [((ad 18), .inl (cL, 1, .inr (.inl (vp_updL J 0 ((nI cnt) : Int32).toInt64)))), ((ad 0), .inr (0, [.ref (ad 1), .ref (ad 9), .ref (ad 12)])), ((ad 12), .inr (3, [.ref (ad 13), .ref (ad 14), .ref (ad 15), .ref (ad 16), .ref (ad 17), .int (nI unk), .int (nI (cnt + 1)), .int sv, .int 0, .int 0])), ((ad 13), .inl (cI, 30, .inl (upd LO cnt (sdI x)))), ((ad 14), .inl (cI, 30, .inl (upd ST cnt k))), ((ad 15), .inl (cI, 30, .inl (upd HI cnt (sdI y)))), ((ad 16), .inl (cZ, 30, .inl KP)), ((ad 17), .inl (cI, 11, .inl NB))] := hD
  refine lv_goto (tgt := 27) hx hb d_Law_need_12 (by decide) ?_
  refine lv_iconst (v := 0) hx hb d_Law_need_27 (by decide) ?_
  refine W.widen (k := 1) (n := 6) (Nat.le_of_ble_eq_true rfl) (Nat.le_of_ble_eq_true rfl) ?_
  exact W.iret (v := 0) hx hb hr (fun t ht hW => ⟨⟨0, (vp_updL J 0 ((nI cnt) : Int32).toInt64), rfl, ⟨rfl, updL_0 J _⟩, by rw [ht]; exact hP, va_K.moved hW.alike hK, hD⟩, hS.F ht⟩) hS.2.2 d_Law_need_28
