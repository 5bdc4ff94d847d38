set_option maxHeartbeats 4000000 in
set_option maxRecDepth 100000 in
theorem lp_Lv_valueFor {p : Program} (l : Launch) {e : Env} {s : State} {m : MethodId} {args : Array Value} {below : List Frame} {meth : Method} {c : Code} {Q : State → Prop} {A : Nat → Prop} {H0 : Heap} (C0 : cx p s m args meth c b_Lv_valueFor 5 (some .int) R_Lv) (dC : Nat → ClassId) (dI : Nat → Nat → Nat) (cI cL cZ : ClassId) (ad : Nat → Nat) (K F S D U : Nat → Int32) (PT : Nat → Int64) (n : Nat) (hn : n ≤ 120) (nd : Nat → Nat × Nat × Nat) (hWn : Wn nd n) (hRw : Rw nd n K F S) (v : Int64) (x : Nat) (hx1 : x < n) (hK : va_K (dC, dI) classes (tyI cI cL cZ) s) (hA : ∀ q : Nat, H0.size ≤ q → A q) 
    (KB : ∀ (V : Nat → Int32) (H : Heap) (locs : List Loc) (ls : Array Slot), (∀ z, z < x + 1 → V z = nI (vl (pvN v) nd z)) → va_P (dC, dI) classes [((ad 1), .inr (1, [.ref (ad 2), .ref (ad 3), .ref (ad 4), .ref (ad 5), .ref (ad 6), .ref (ad 7), .ref (ad 8), .int (nI n)])), ((ad 2), .inl (cI, 120, .inl K)), ((ad 3), .inl (cI, 120, .inl F)), ((ad 4), .inl (cI, 120, .inl S)), ((ad 5), .inl (cI, 120, .inl D)), ((ad 6), .inl (cI, 120, .inl U)), ((ad 7), .inl (cI, 120, .inl V)), ((ad 8), .inl (cL, 3840, .inr (.inl PT)))] H → va_D A [((ad 1), .inr (1, [.ref (ad 2), .ref (ad 3), .ref (ad 4), .ref (ad 5), .ref (ad 6), .ref (ad 7), .ref (ad 8), .int (nI n)])), ((ad 2), .inl (cI, 120, .inl K)), ((ad 3), .inl (cI, 120, .inl F)), ((ad 4), .inl (cI, 120, .inl S)), ((ad 5), .inl (cI, 120, .inl D)), ((ad 6), .inl (cI, 120, .inl U)), ((ad 7), .inl (cI, 120, .inl V)), ((ad 8), .inl (cL, 3840, .inr (.inl PT)))] → va_S A H0 H locs → lv_has ls 5 [(0, .ref (ad 1)), (1, .int (nI x)), (2, .long v)] → W p l e (rmH 4 0 0) s m args below meth c H locs 0 0 Q (F0 m 29 ls []))
    : ∀ (q : Nat) (i : Nat) (V : Nat → Int32), i + q = x + 1 ∧ (∀ z, z < i → V z = nI (vl (pvN v) nd z)) → ∀ (H : Heap) (locs : List Loc) (ls : Array Slot), va_P (dC, dI) classes [((ad 1), .inr (1, [.ref (ad 2), .ref (ad 3), .ref (ad 4), .ref (ad 5), .ref (ad 6), .ref (ad 7), .ref (ad 8), .int (nI n)])), ((ad 2), .inl (cI, 120, .inl K)), ((ad 3), .inl (cI, 120, .inl F)), ((ad 4), .inl (cI, 120, .inl S)), ((ad 5), .inl (cI, 120, .inl D)), ((ad 6), .inl (cI, 120, .inl U)), ((ad 7), .inl (cI, 120, .inl V)), ((ad 8), .inl (cL, 3840, .inr (.inl PT)))] H → va_D A [((ad 1), .inr (1, [.ref (ad 2), .ref (ad 3), .ref (ad 4), .ref (ad 5), .ref (ad 6), .ref (ad 7), .ref (ad 8), .int (nI n)])), ((ad 2), .inl (cI, 120, .inl K)), ((ad 3), .inl (cI, 120, .inl F)), ((ad 4), .inl (cI, 120, .inl S)), ((ad 5), .inl (cI, 120, .inl D)), ((ad 6), .inl (cI, 120, .inl U)), ((ad 7), .inl (cI, 120, .inl V)), ((ad 8), .inl (cL, 3840, .inr (.inl PT)))] → va_S A H0 H locs → lv_has ls 5 [(0, .ref (ad 1)), (1, .int (nI x)), (2, .long v), (4, .int (nI i))] → W p l e (rmH 4 0 0) s m args below meth c H locs 0 0 Q (F0 m 3 ls []) := by
  obtain ⟨hx, hb, hr, hml, hown, htb, hlocks⟩ := id C0
  intro q
  induction q with
  | zero =>
    intro i V hiV H locs ls hP hD hS hl
    obtain ⟨hi, hV⟩ := hiV
    refine lv_iload hx hb d_Lv_valueFor_3 (lv_at hl 3 rfl) ?_
    refine lv_iload_n hx hb d_Lv_valueFor_5 rfl (lv_at hl 1 rfl) ?_
    refine lv_icmp_gt (tgt := 29) hx hb d_Lv_valueFor_6 (by decide) (fun c_6 => ?_) (fun c_6 => ?_)
    · exact KB V H locs ls (fun z hz => hV z (by omega)) hP hD hS (lv_sub hl [0, 1, 2] rfl)
    · exact absurd ((nI_ltI (by omega) (by omega)).mpr (by omega)) c_6
  | succ q ih =>
    intro i V hiV H locs ls hP hD hS hl
    obtain ⟨hi, hV⟩ := hiV
    refine lv_iload hx hb d_Lv_valueFor_3 (lv_at hl 3 rfl) ?_
    refine lv_iload_n hx hb d_Lv_valueFor_5 rfl (lv_at hl 1 rfl) ?_
    refine lv_icmp_gt (tgt := 29) hx hb d_Lv_valueFor_6 (by decide) (fun c_6 => ?_) (fun c_6 => ?_)
    · exact absurd ((nI_ltI (by omega) (by omega)).mp c_6) (by omega)
    · refine lv_aload_n hx hb d_Lv_valueFor_9 rfl (lv_at hl 0 rfl) ?_
      refine va_get (D := (dC, dI)) (ci := 1) (v := .ref (ad 7)) (C := R_Lv) (T := F_Lv) (N := 8) hx hb htb ul_Lv hown hK hP 0 rfl rfl 5 (by decide) (htb _ mw_34) (fun _ h9 => h9) rfl d_Lv_valueFor_10 ?_
      refine lv_iload hx hb d_Lv_valueFor_13 (lv_at hl 3 rfl) ?_
      refine lv_aload_n hx hb d_Lv_valueFor_15 rfl (lv_at hl 0 rfl) ?_
      refine lv_iload hx hb d_Lv_valueFor_16 (lv_at hl 3 rfl) ?_
      refine lv_lload_n hx hb d_Lv_valueFor_18 rfl (lv_at hl 2 rfl) ?_
      have hri := hWn.2.1 i (by omega)
      have hqi := hRw i (by omega)
      refine ry_callV (n := 2) (As := [.int (nI i), .long v]) (rest := [.int (nI i), .ref (ad 7)]) ⟨hx, hb, hml, hown, htb⟩ (c_Lv_valueOf l dC dI cI cL cZ ad K F S D U V PT n hn i (by omega) (nd i).1 (nd i).2.1 (nd i).2.2 hri.1 hqi.1 (fun h => by rw [hqi.2.1, fF_n h]) (fun h => by rw [hqi.2.2, fS_n h]) hri.2.1 (fun h => by have := hri.2.2.1 h; omega) (fun h => by have := hri.2.2.2.1 h; omega) v (if 2 ≤ (nd i).1 then vl (pvN v) nd (nd i).2.1 else 0) (if 3 ≤ (nd i).1 then vl (pvN v) nd (nd i).2.2 else 0) (fun h => by rw [if_pos h]; exact hV _ (hri.2.2.1 h)) (fun h => by rw [if_pos h]; exact hV _ (hri.2.2.2.1 h)) (vl_small hWn (by omega) hri.2.2.1) (vl_small2 hWn (by omega) hri.2.2.2.1)) (gV mw_140 mw_142 mp_0 mw_2 mc_Lv_valueOf) rfl rfl (by decide +kernel) ⟨Nat.le_of_ble_eq_true rfl, Nat.le_of_ble_eq_true rfl⟩ hP hK (ci := 1) (q0 := 0) rfl rfl rfl rfl hl.1 rfl (Nat.le_of_ble_eq_true rfl) d_Lv_valueFor_19 ⟨Nat.zero_le _, Nat.zero_le _⟩ (fun r_1 hr_1 => ?_)
      refine W.eq (g2 := F0 m 22 ls [.int r_1, .int (nI i), .ref (ad 7)]) rfl ?_
      rw [← vl_eq (pvN v) hri] at hr_1
      subst hr_1
      refine ry_iast (D := (dC, dI)) (j := i) hx hb hK hP hD hS 6 0 rfl rfl (by omega) (by decide) d_Lv_valueFor_22 (fun H locs hP hD hS => ?_)
      have hP : va_P (dC, dI) classes [((ad 1), .inr (1, [.ref (ad 2), .ref (ad 3), .ref (ad 4), .ref (ad 5), .ref (ad 6), .ref (ad 7), .ref (ad 8), .int (nI n)])), ((ad 2), .inl (cI, 120, .inl K)), ((ad 3), .inl (cI, 120, .inl F)), ((ad 4), .inl (cI, 120, .inl S)), ((ad 5), .inl (cI, 120, .inl D)), ((ad 6), .inl (cI, 120, .inl U)), ((ad 7), .inl (cI, 120, .inl (upd V i ((nI (vl (pvN v) nd i)))))), ((ad 8), .inl (cL, 3840, .inr (.inl PT)))] H := hP
      have hD : va_D A [((ad 1), .inr (1, [.ref (ad 2), .ref (ad 3), .ref (ad 4), .ref (ad 5), .ref (ad 6), .ref (ad 7), .ref (ad 8), .int (nI n)])), ((ad 2), .inl (cI, 120, .inl K)), ((ad 3), .inl (cI, 120, .inl F)), ((ad 4), .inl (cI, 120, .inl S)), ((ad 5), .inl (cI, 120, .inl D)), ((ad 6), .inl (cI, 120, .inl U)), ((ad 7), .inl (cI, 120, .inl (upd V i ((nI (vl (pvN v) nd i)))))), ((ad 8), .inl (cL, 3840, .inr (.inl PT)))] := hD
      refine lv_iinc (v := (nI (i + 1))) (lv' := [(4, .int (nI (i + 1))), (0, .ref (ad 1)), (1, .int (nI x)), (2, .long v)]) hx hb d_Lv_valueFor_23 hl (k := 3) rfl (nI_1 _) (by decide) rfl (fun ls hl => ?_)
      refine lv_goto (tgt := 3) hx hb d_Lv_valueFor_26 (by decide) ?_
      exact ih (i + 1) (upd V i (nI (vl (pvN v) nd i))) ⟨by omega, up_lt (f := fun z => nI (vl (pvN v) nd z)) hV⟩ H locs ls hP hD hS (lv_sub hl [1, 2, 3, 0] rfl)

set_option maxHeartbeats 4000000 in
set_option maxRecDepth 100000 in
theorem c_Lv_valueFor (l : Launch) (dC : Nat → ClassId) (dI : Nat → Nat → Nat) (cI cL cZ : ClassId) (ad : Nat → Nat) (K F S D U V : Nat → Int32) (PT : Nat → Int64) (n : Nat) (hn : n ≤ 120) (nd : Nat → Nat × Nat × Nat) (hWn : Wn nd n) (hRw : Rw nd n K F S) (v : Int64) (x : Nat) (hx1 : x < n) (sz : Nat) : Met l y_Lv_valueFor (cw_Lv_valueFor :: tb) (rmH 4 0 0) (va_Pc [.ref (ad 1), .int (nI x), .long v] (wy_P (dC, dI) classes (wLv cI cL ad K F S D U V PT n) (tyI cI cL cZ) sz)) (wy_Q ry_i (fun r (u : Nat → Int32) => r = nI (vl (pvN v) nd x)) (wy_B (dC, dI) classes (tyI cI cL cZ) (va_A (wLv cI cL ad K F S D U V PT n) sz) (fun u : Nat → Int32 => wLv cI cL ad K F S D U u PT n)) (va_A (wLv cI cL ad K F S D U V PT n) sz)) 0 0 (va_A (wLv cI cL ad K F S D U V PT n) sz) := by
  refine Met.ofW (cc := b_Lv_valueFor) (maxL := 5) (ret := (some .int)) (by decide +kernel) rfl ?_
  intro p e s m args below meth c s₁ B hml0 hv
  have C0 := cx_of B hml0 rfl
  obtain ⟨hx, hb, hr, hml, hown, htb, hlocks⟩ := id C0
  obtain ⟨rfl, hsz, hP, hK, hD0⟩ := hv
  subst hsz
  have hD := hD0.self (sz := s.heap.size)
  generalize hAe : va_A (wLv cI cL ad K F S D U V PT n) s.heap.size = A at hD ⊢
  have hA : ∀ q : Nat, s.heap.size ≤ q → A q := fun q h => by rw [← hAe]; exact Or.inr h
  have hS : va_S A s.heap s.heap [] := va_S.rf
  have hl := lv_entry ([.ref (ad 1), .int (nI x), .long v]) (n := 5) (Nat.le_of_ble_eq_true rfl)
  rw [lg_entry_eq]
  generalize (lg_sl ([.ref (ad 1), .int (nI x), .long v]) ++ List.replicate (5 - (lg_sl ([.ref (ad 1), .int (nI x), .long v])).length) Slot.unset).toArray = ls at hl ⊢
  have hl : lv_has ls 5 [(0, .ref (ad 1)), (1, .int (nI x)), (2, .long v)] := hl
  have hP : va_P (dC, dI) classes [((ad 1), .inr (1, [.ref (ad 2), .ref (ad 3), .ref (ad 4), .ref (ad 5), .ref (ad 6), .ref (ad 7), .ref (ad 8), .int (nI n)])), ((ad 2), .inl (cI, 120, .inl K)), ((ad 3), .inl (cI, 120, .inl F)), ((ad 4), .inl (cI, 120, .inl S)), ((ad 5), .inl (cI, 120, .inl D)), ((ad 6), .inl (cI, 120, .inl U)), ((ad 7), .inl (cI, 120, .inl V)), ((ad 8), .inl (cL, 3840, .inr (.inl PT)))] s.heap := hP
  have hD : va_D A [((ad 1), .inr (1, [.ref (ad 2), .ref (ad 3), .ref (ad 4), .ref (ad 5), .ref (ad 6), .ref (ad 7), .ref (ad 8), .int (nI n)])), ((ad 2), .inl (cI, 120, .inl K)), ((ad 3), .inl (cI, 120, .inl F)), ((ad 4), .inl (cI, 120, .inl S)), ((ad 5), .inl (cI, 120, .inl D)), ((ad 6), .inl (cI, 120, .inl U)), ((ad 7), .inl (cI, 120, .inl V)), ((ad 8), .inl (cL, 3840, .inr (.inl PT)))] := hD
  have hA0 := hA
  refine lv_iconst (v := 0) hx hb d_Lv_valueFor_0 (by decide) ?_
  refine lv_istore (lv' := [(4, .int 0), (0, .ref (ad 1)), (1, .int (nI x)), (2, .long v)]) hx hb d_Lv_valueFor_1 hl (by decide) rfl (fun ls hl => ?_)
  refine lp_Lv_valueFor l C0 dC dI cI cL cZ ad K F S D U PT n hn nd hWn hRw v x hx1 hK hA (fun V H locs ls hV hP hD hS hl => ?_) (x + 1) 0 V ⟨by omega, fun z hz => by omega⟩ s.heap [] ls hP hD hS (lv_sub hl [1, 2, 3, 0] rfl)
  refine lv_aload_n hx hb d_Lv_valueFor_29 rfl (lv_at hl 0 rfl) ?_
  refine va_get (D := (dC, dI)) (ci := 1) (v := .ref (ad 7)) (C := R_Lv) (T := F_Lv) (N := 8) hx hb htb ul_Lv hown hK hP 0 rfl rfl 5 (by decide) (htb _ mw_34) (fun _ h9 => h9) rfl d_Lv_valueFor_30 ?_
  refine lv_iload_n hx hb d_Lv_valueFor_33 rfl (lv_at hl 1 rfl) ?_
  refine ry_iald (D := (dC, dI)) (j := x) hx hb hK hP 6 0 rfl rfl (by omega) (by decide) d_Lv_valueFor_34 ?_
  exact W.iret (v := (V x)) hx hb hr (fun t ht hW => ⟨⟨(V x), V, rfl, (hV x (by omega)), by rw [ht]; exact hP, va_K.moved hW.alike hK, hD⟩, hS.F ht⟩) hS.2.2 d_Lv_valueFor_35
