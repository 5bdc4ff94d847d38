set_option maxHeartbeats 4000000 in
set_option maxRecDepth 100000 in
theorem c_Lv_checkNew (l : Launch) (htr : ∀ e, l.admits e → e.platform.stackTraces = false) (dC : Nat → ClassId) (dI : Nat → Nat → Nat) (cI cL cZ : ClassId) (ad : Nat → Nat) (K F S D U V : Nat → Int32) (PT : Nat → Int64) (n : Nat) (hn : n ≤ 120) (k : Nat) (hk4 : k ≤ 4) (f : Int32) (a x : Nat) (hf : k = 2 → f = nI a) (ha : k = 2 → a < 120) (hx2 : k = 2 → D a = nI x) (hx3 : x < 1000) (sz : Nat) : wx_Met l y_Lv_checkNew (cw_Lv_checkNew :: tb) (rmH 6 1 6) (va_Pc [.ref (ad 1), .int (nI k), .int f] (wz_P (dC, dI) classes (wLv cI cL ad K F S D U V PT n) (tyI cI cL cZ) sz)) (wx_Q ry_v (fun _ (u : Unit) => ¬ (k = 2 ∧ 60 ≤ x) ∧ n < 120) (fun X (u : Unit) => (X = "java/lang/IllegalArgumentException" ∧ k = 2 ∧ 60 ≤ x) ∨ (X = "java/lang/IllegalStateException" ∧ ¬ (k = 2 ∧ 60 ≤ x) ∧ n = 120)) (wy_B (dC, dI) classes (tyI cI cL cZ) (va_A (wLv cI cL ad K F S D U V PT n) sz) (fun u : Unit => (wLv cI cL ad K F S D U V PT n))) (va_A (wLv cI cL ad K F S D U V PT n) sz)) (va_A (wLv cI cL ad K F S D U V PT n) sz) := by
  refine wx_ofW (cc := b_Lv_checkNew) (maxL := 3) (ret := none) (by decide +kernel) rfl ?_
  intro p e s m args below meth c s₁ B hml0 ht0 hv
  have C0 := cx_of B hml0 rfl
  obtain ⟨hx, hb, hr, hml, hown, htb, hlocks⟩ := id C0
  obtain ⟨rfl, ⟨hsz, hP, hK, hD0⟩, hth, hst⟩ := hv
  subst hsz
  have hD := hD0.self (sz := s.heap.size)
  generalize hAe : va_A (wLv cI cL ad K F S D U V PT n) s.heap.size = A at hD hth ⊢
  have hA : ∀ q : Nat, s.heap.size ≤ q → A q := fun q h => by rw [← hAe]; exact Or.inr h
  have hS : va_S A s.heap s.heap [] := va_S.rf
  have hl := lv_entry ([.ref (ad 1), .int (nI k), .int f]) (n := 3) (Nat.le_of_ble_eq_true rfl)
  rw [lg_entry_eq]
  generalize (lg_sl ([.ref (ad 1), .int (nI k), .int f]) ++ List.replicate (3 - (lg_sl ([.ref (ad 1), .int (nI k), .int f])).length) Slot.unset).toArray = ls at hl ⊢
  have hl : lv_has ls 3 [(0, .ref (ad 1)), (1, .int (nI k)), (2, .int f)] := hl
  have hP : va_P (dC, dI) classes [((ad 1), .inr (1, [.ref (ad 2), .ref (ad 3), .ref (ad 4), .ref (ad 5), .ref (ad 6), .ref (ad 7), .ref (ad 8), .int (nI n)])), ((ad 2), .inl (cI, 120, .inl K)), ((ad 3), .inl (cI, 120, .inl F)), ((ad 4), .inl (cI, 120, .inl S)), ((ad 5), .inl (cI, 120, .inl D)), ((ad 6), .inl (cI, 120, .inl U)), ((ad 7), .inl (cI, 120, .inl V)), ((ad 8), .inl (cL, 3840, .inr (.inl PT)))] s.heap := hP
  have hD : va_D A [((ad 1), .inr (1, [.ref (ad 2), .ref (ad 3), .ref (ad 4), .ref (ad 5), .ref (ad 6), .ref (ad 7), .ref (ad 8), .int (nI n)])), ((ad 2), .inl (cI, 120, .inl K)), ((ad 3), .inl (cI, 120, .inl F)), ((ad 4), .inl (cI, 120, .inl S)), ((ad 5), .inl (cI, 120, .inl D)), ((ad 6), .inl (cI, 120, .inl U)), ((ad 7), .inl (cI, 120, .inl V)), ((ad 8), .inl (cL, 3840, .inr (.inl PT)))] := hD
  refine lv_iload_n hx hb d_Lv_checkNew_0 rfl (lv_at hl 1 rfl) ?_
  refine lv_iconst (v := 2) hx hb d_Lv_checkNew_1 (by decide) ?_
  refine lv_icmp_ne (tgt := 26) hx hb d_Lv_checkNew_2 (by decide) (fun c_2 => ?_) (fun c_2 => ?_)
  · refine lv_aload_n hx hb d_Lv_checkNew_26 rfl (lv_at hl 0 rfl) ?_
    refine va_get (D := (dC, dI)) (ci := 1) (v := .int (nI n)) (C := R_Lv) (T := F_Lv) (N := 8) hx hb htb ul_Lv hown hK hP 0 rfl rfl 7 (by decide) (htb _ mw_36) (fun _ h9 => h9) rfl d_Lv_checkNew_27 ?_
    refine lv_bipush (v := 120) hx hb d_Lv_checkNew_30 (by decide) ?_
    refine lv_icmp_lt (tgt := 45) hx hb d_Lv_checkNew_32 (by decide) (fun c_32 => ?_) (fun c_32 => ?_)
    · exact wx_ret (W.vret hx hb hr (fun t ht hW => ⟨Or.inl ⟨(), (), rfl, ⟨(fun z => c_2 (by rw [z.1]; rfl)), (nI_ltI (b := 120) (by omega) (by decide)).mp c_32⟩, by rw [ht]; exact hP, va_K.moved hW.alike hK, hD⟩, hS.F ht⟩) hS.2.2 d_Lv_checkNew_45)
    · exact wz_throw hx hb htr hown htb (Or.inr (Or.inl rfl)) mw_311 mw_312 mw_10 mw_321 hth hst.2.1 ht0 hlocks (by rw [hml]; exact hl.1) d_Lv_checkNew_35 d_Lv_checkNew_38 d_Lv_checkNew_39 d_Lv_checkNew_41 d_Lv_checkNew_44 ⟨Nat.le_of_ble_eq_true rfl, Nat.le_of_ble_eq_true rfl, Nat.le_of_ble_eq_true rfl, Nat.le_of_ble_eq_true rfl⟩ () (Or.inr ⟨rfl, (fun z => c_2 (by rw [z.1]; rfl)), by have h9 : ¬ n < 120 := (fun z => c_32 ((nI_ltI (b := 120) (by omega) (by decide)).mpr z)); omega⟩) hP hK hD
  · have hk2 : k = 2 := (nI_eq (b := 2) (by omega) (by decide)).mp c_2
    subst hk2
    have hf := hf rfl
    have ha := ha rfl
    have hx2 := hx2 rfl
    rw [hf] at hl
    refine lv_aload_n hx hb d_Lv_checkNew_5 rfl (lv_at hl 0 rfl) ?_
    refine va_get (D := (dC, dI)) (ci := 1) (v := .ref (ad 5)) (C := R_Lv) (T := F_Lv) (N := 8) hx hb htb ul_Lv hown hK hP 0 rfl rfl 3 (by decide) (htb _ mw_32) (fun _ h9 => h9) rfl d_Lv_checkNew_6 ?_
    refine lv_iload_n hx hb d_Lv_checkNew_9 rfl (lv_at hl 2 rfl) ?_
    refine ry_iald (D := (dC, dI)) (j := a) hx hb hK hP 4 0 rfl rfl (by omega) (by decide) d_Lv_checkNew_10 ?_
    rw [hx2]
    refine lv_bipush (v := 60) hx hb d_Lv_checkNew_11 (by decide) ?_
    refine lv_icmp_lt (tgt := 26) hx hb d_Lv_checkNew_13 (by decide) (fun c_13 => ?_) (fun c_13 => ?_)
    · refine lv_aload_n hx hb d_Lv_checkNew_26 rfl (lv_at hl 0 rfl) ?_
      refine va_get (D := (dC, dI)) (ci := 1) (v := .int (nI n)) (C := R_Lv) (T := F_Lv) (N := 8) hx hb htb ul_Lv hown hK hP 0 rfl rfl 7 (by decide) (htb _ mw_36) (fun _ h9 => h9) rfl d_Lv_checkNew_27 ?_
      refine lv_bipush (v := 120) hx hb d_Lv_checkNew_30 (by decide) ?_
      refine lv_icmp_lt (tgt := 45) hx hb d_Lv_checkNew_32 (by decide) (fun c_32 => ?_) (fun c_32 => ?_)
      · exact wx_ret (W.vret hx hb hr (fun t ht hW => ⟨Or.inl ⟨(), (), rfl, ⟨(fun z => absurd z.2 (Nat.not_le.mpr ((nI_ltI (b := 60) (by omega) (by decide)).mp c_13))), (nI_ltI (b := 120) (by omega) (by decide)).mp c_32⟩, by rw [ht]; exact hP, va_K.moved hW.alike hK, hD⟩, hS.F ht⟩) hS.2.2 d_Lv_checkNew_45)
      · exact wz_throw hx hb htr hown htb (Or.inr (Or.inl rfl)) mw_311 mw_312 mw_10 mw_321 hth hst.2.1 ht0 hlocks (by rw [hml]; exact hl.1) d_Lv_checkNew_35 d_Lv_checkNew_38 d_Lv_checkNew_39 d_Lv_checkNew_41 d_Lv_checkNew_44 ⟨Nat.le_of_ble_eq_true rfl, Nat.le_of_ble_eq_true rfl, Nat.le_of_ble_eq_true rfl, Nat.le_of_ble_eq_true rfl⟩ () (Or.inr ⟨rfl, (fun z => absurd z.2 (Nat.not_le.mpr ((nI_ltI (b := 60) (by omega) (by decide)).mp c_13))), by have h9 : ¬ n < 120 := (fun z => c_32 ((nI_ltI (b := 120) (by omega) (by decide)).mpr z)); omega⟩) hP hK hD
    · exact wz_throw hx hb htr hown htb (Or.inl rfl) mw_243 mw_244 mw_9 mw_285 hth hst.1 ht0 hlocks (by rw [hml]; exact hl.1) d_Lv_checkNew_16 d_Lv_checkNew_19 d_Lv_checkNew_20 d_Lv_checkNew_22 d_Lv_checkNew_25 ⟨Nat.le_of_ble_eq_true rfl, Nat.le_of_ble_eq_true rfl, Nat.le_of_ble_eq_true rfl, Nat.le_of_ble_eq_true rfl⟩ () (Or.inl ⟨rfl, rfl, Nat.le_of_not_lt fun z => c_13 ((nI_ltI (b := 60) (by omega) (by decide)).mpr z)⟩) hP hK hD
