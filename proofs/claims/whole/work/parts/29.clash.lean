theorem d_Ar_fill_0 : decode b_Ar_fill 0 = .ok (.iconst 0, 1) := by decide +kernel
theorem d_Ar_fill_1 : decode b_Ar_fill 1 = .ok (.istore_n 2, 1) := by decide +kernel
theorem d_Ar_fill_2 : decode b_Ar_fill 2 = .ok (.aload_n 0, 1) := by decide +kernel
theorem d_Ar_fill_3 : decode b_Ar_fill 3 = .ok (.arraylength, 1) := by decide +kernel
theorem d_Ar_fill_4 : decode b_Ar_fill 4 = .ok (.istore_n 3, 1) := by decide +kernel
theorem d_Ar_fill_5 : decode b_Ar_fill 5 = .ok (.iload_n 2, 1) := by decide +kernel
theorem d_Ar_fill_6 : decode b_Ar_fill 6 = .ok (.iload_n 3, 1) := by decide +kernel
theorem d_Ar_fill_7 : decode b_Ar_fill 7 = .ok (.if_icmp .ge 13, 3) := by decide +kernel
theorem d_Ar_fill_10 : decode b_Ar_fill 10 = .ok (.aload_n 0, 1) := by decide +kernel
theorem d_Ar_fill_11 : decode b_Ar_fill 11 = .ok (.iload_n 2, 1) := by decide +kernel
theorem d_Ar_fill_12 : decode b_Ar_fill 12 = .ok (.iload_n 1, 1) := by decide +kernel
theorem d_Ar_fill_13 : decode b_Ar_fill 13 = .ok (.iastore, 1) := by decide +kernel
theorem d_Ar_fill_14 : decode b_Ar_fill 14 = .ok (.iinc 2 1, 3) := by decide +kernel
theorem d_Ar_fill_17 : decode b_Ar_fill 17 = .ok (.goto (-12), 3) := by decide +kernel
theorem d_Ar_fill_20 : decode b_Ar_fill 20 = .ok (.return_, 1) := by decide +kernel

set_option maxHeartbeats 4000000 in
set_option maxRecDepth 100000 in
theorem lp_Ar_fill {p : Program} (l : Launch) {e : Env} {s : State} {m : MethodId} {args : Array Value} {below : List Frame} {meth : Method} {c : Code} {Q : State → Prop} {A : Nat → Prop} {H0 : Heap} (C0 : cx p s m args meth c b_Ar_fill 4 none R_Ar) (dC : Nat → ClassId) (dI : Nat → Nat → Nat) (cI cL cZ : ClassId) (bb : Nat) (f : Nat → Int32) (x : Int32) (hK : va_K (dC, dI) classes (tyI cI cL cZ) s) (hA : ∀ q : Nat, H0.size ≤ q → A q) 
    (KB : ∀ (H : Heap) (locs : List Loc) (ls : Array Slot), va_P (dC, dI) classes [(bb, .inl (cI, 11, .inl (fl 11 x f)))] H → va_D A [(bb, .inl (cI, 11, .inl (fl 11 x f)))] → va_S A H0 H locs → lv_has ls 4 [(0, .ref bb)] → W p l e (rmH 1 0 0) s m args below meth c H locs 0 0 Q (F0 m 20 ls []))
    : ∀ (q : Nat) (i : Nat), i + q = 11 → ∀ (H : Heap) (locs : List Loc) (ls : Array Slot), va_P (dC, dI) classes [(bb, .inl (cI, 11, .inl (fl i x f)))] H → va_D A [(bb, .inl (cI, 11, .inl (fl i x f)))] → va_S A H0 H locs → lv_has ls 4 [(0, .ref bb), (1, .int x), (2, .int (nI i)), (3, .int 11)] → W p l e (rmH 1 0 0) s m args below meth c H locs 0 0 Q (F0 m 5 ls []) := by
  obtain ⟨hx, hb, hr, hml, hown, htb, hlocks⟩ := id C0
  intro q
  induction q with
  | zero =>
    intro i hi H locs ls hP hD hS hl
    refine lv_iload_n hx hb d_Ar_fill_5 rfl (lv_at hl 2 rfl) ?_
    refine lv_iload_n hx hb d_Ar_fill_6 rfl (lv_at hl 3 rfl) ?_
    refine lv_icmp_ge (tgt := 20) hx hb d_Ar_fill_7 (by decide) (fun c_7 => ?_) (fun c_7 => ?_)
    · exact KB H locs ls (by rw [show fl 11 x f = fl i x f from by rw [show 11 = i by omega]]; exact hP) (by rw [show fl 11 x f = fl i x f from by rw [show 11 = i by omega]]; exact hD) hS (lv_sub hl [0] rfl)
    · exact absurd ((nI_leI (a := 11) (b := i) (by decide) (by omega)).mpr (by omega)) c_7
  | succ q ih =>
    intro i hi H locs ls hP hD hS hl
    refine lv_iload_n hx hb d_Ar_fill_5 rfl (lv_at hl 2 rfl) ?_
    refine lv_iload_n hx hb d_Ar_fill_6 rfl (lv_at hl 3 rfl) ?_
    refine lv_icmp_ge (tgt := 20) hx hb d_Ar_fill_7 (by decide) (fun c_7 => ?_) (fun c_7 => ?_)
    · exact absurd ((nI_leI (a := 11) (b := i) (by decide) (by omega)).mp c_7) (by omega)
    · refine lv_aload_n hx hb d_Ar_fill_10 rfl (lv_at hl 0 rfl) ?_
      refine lv_iload_n hx hb d_Ar_fill_11 rfl (lv_at hl 2 rfl) ?_
      refine lv_iload_n hx hb d_Ar_fill_12 rfl (lv_at hl 1 rfl) ?_
      refine ry_iast (D := (dC, dI)) (j := i) hx hb hK hP hD hS 0 0 rfl rfl (by omega) (by decide) d_Ar_fill_13 (fun H locs hP hD hS => ?_)
      have hP : va_P (dC, dI) classes [(bb, .inl (cI, 11, .inl (upd (fl i x f) i x)))] H := hP
      have hD : va_D A [(bb, .inl (cI, 11, .inl (upd (fl i x f) i x)))] := hD
      refine lv_iinc (v := (nI (i + 1))) (lv' := [(2, .int (nI (i + 1))), (0, .ref bb), (1, .int x), (3, .int 11)]) hx hb d_Ar_fill_14 hl (k := 2) rfl (nI_1 _) (by decide) rfl (fun ls hl => ?_)
      refine lv_goto (tgt := 5) hx hb d_Ar_fill_17 (by decide) ?_
      exact ih (i + 1) (by omega) H locs ls (by rw [← fl_s]; exact hP) (by rw [← fl_s]; exact hD) hS (lv_sub hl [1, 2, 0, 3] rfl)

set_option maxHeartbeats 4000000 in
set_option maxRecDepth 100000 in
theorem c_Ar_fill (l : Launch) (dC : Nat → ClassId) (dI : Nat → Nat → Nat) (cI cL cZ : ClassId) (bb : Nat) (f : Nat → Int32) (x : Int32) (sz : Nat) : Met l y_Ar_fill (cw_Ar_fill :: tb) (rmH 1 0 0) (va_Pc [.ref bb, .int x] (wy_P (dC, dI) classes [(bb, .inl (cI, 11, .inl f))] (tyI cI cL cZ) sz)) (wy_Q ry_v (fun _ (u : Unit) => True) (wy_B (dC, dI) classes (tyI cI cL cZ) (va_A [(bb, .inl (cI, 11, .inl f))] sz) (fun u : Unit => [(bb, .inl (cI, 11, .inl (fl 11 x f)))])) (va_A [(bb, .inl (cI, 11, .inl f))] sz)) 0 0 (va_A [(bb, .inl (cI, 11, .inl f))] sz) := by
  refine Met.ofW (cc := b_Ar_fill) (maxL := 4) (ret := none) (by decide +kernel) rfl ?_
  intro p e s m args below meth c s₁ B hml0 hv
  have C0 := cx_of B hml0 rfl
  obtain ⟨hx, hb, hr, hml, hown, htb, hlocks⟩ := id C0
  obtain ⟨rfl, hsz, hP, hK, hD0⟩ := hv
  subst hsz
  have hD := hD0.self (sz := s.heap.size)
  generalize hAe : va_A [(bb, .inl (cI, 11, .inl f))] s.heap.size = A at hD ⊢
  have hA : ∀ q : Nat, s.heap.size ≤ q → A q := fun q h => by rw [← hAe]; exact Or.inr h
  have hS : va_S A s.heap s.heap [] := va_S.rf
  have hl := lv_entry ([.ref bb, .int x]) (n := 4) (Nat.le_of_ble_eq_true rfl)
  rw [lg_entry_eq]
  generalize (lg_sl ([.ref bb, .int x]) ++ List.replicate (4 - (lg_sl ([.ref bb, .int x])).length) Slot.unset).toArray = ls at hl ⊢
  have hl : lv_has ls 4 [(0, .ref bb), (1, .int x)] := hl
  have hP : va_P (dC, dI) classes [(bb, .inl (cI, 11, .inl f))] s.heap := hP
  have hD : va_D A [(bb, .inl (cI, 11, .inl f))] := hD
  have hA0 := hA
  refine lv_iconst (v := 0) hx hb d_Ar_fill_0 (by decide) ?_
  refine lv_istore_n (lv' := [(2, .int 0), (0, .ref bb), (1, .int x)]) hx hb d_Ar_fill_1 rfl hl (by decide) rfl (fun ls hl => ?_)
  refine lv_aload_n hx hb d_Ar_fill_2 rfl (lv_at hl 1 rfl) ?_
  refine va_alen (D := (dC, dI)) (v := 11) hx hb hK hP 0 0 rfl rfl rfl d_Ar_fill_3 ?_
  refine lv_istore_n (lv' := [(3, .int 11), (2, .int 0), (0, .ref bb), (1, .int x)]) hx hb d_Ar_fill_4 rfl hl (by decide) rfl (fun ls hl => ?_)
  refine lp_Ar_fill l C0 dC dI cI cL cZ bb f x hK hA (fun H locs ls hP hD hS hl => ?_) 11 0 (by omega) s.heap [] ls (by rw [fl_0]; exact hP) (by rw [fl_0]; exact hD) hS (lv_sub hl [2, 3, 1, 0] rfl)
  exact W.vret hx hb hr (fun t ht hW => ⟨⟨(), (), rfl, trivial, by rw [ht]; exact hP, va_K.moved hW.alike hK, hD⟩, hS.F ht⟩) hS.2.2 d_Ar_fill_20

set_option maxHeartbeats 4000000 in
set_option maxRecDepth 100000 in
theorem lp_Nd_canKeptBeSolved {p : Program} (l : Launch) {e : Env} {s : State} {m : MethodId} {args : Array Value} {below : List Frame} {meth : Method} {c : Code} {Q : State → Prop} {A : Nat → Prop} {H0 : Heap} (C0 : cx p s m args meth c b_Nd_canKeptBeSolved 2 (some .boolean) R_Nd) (dC : Nat → ClassId) (dI : Nat → Nat → Nat) (cI cL cZ : ClassId) (ad : Nat → Nat) (LO ST HI KP : Nat → Int32) (unk cnt : Nat) (sv sk ck : Int32) (hunk : unk ≤ 10) (hcnt : cnt ≤ 30) (lo hi : Nat → Nat) (hlo : ∀ j, j < cnt → LO j = nI (lo j) ∧ lo j < 11) (hhi : ∀ j, j < cnt → HI j = nI (hi j) ∧ hi j < 11) (RR : Int32 × (Nat → Int32)) (hK : va_K (dC, dI) classes (tyI cI cL cZ) s) (hA : ∀ q : Nat, H0.size ≤ q → A q) 
    (KA : ∀ (NB : Nat → Int32) (H : Heap) (locs : List Loc) (ls : Array Slot), RR = (1, NB) → va_P (dC, dI) classes [((ad 12), .inr (3, [.ref (ad 13), .ref (ad 14), .ref (ad 15), .ref (ad 16), .ref (ad 17), .int (nI unk), .int (nI cnt), .int sv, .int sk, .int ck])), ((ad 13), .inl (cI, 30, .inl LO)), ((ad 14), .inl (cI, 30, .inl ST)), ((ad 15), .inl (cI, 30, .inl HI)), ((ad 16), .inl (cZ, 30, .inl KP)), ((ad 17), .inl (cI, 11, .inl NB))] H → va_D A [((ad 12), .inr (3, [.ref (ad 13), .ref (ad 14), .ref (ad 15), .ref (ad 16), .ref (ad 17), .int (nI unk), .int (nI cnt), .int sv, .int sk, .int ck])), ((ad 13), .inl (cI, 30, .inl LO)), ((ad 14), .inl (cI, 30, .inl ST)), ((ad 15), .inl (cI, 30, .inl HI)), ((ad 16), .inl (cZ, 30, .inl KP)), ((ad 17), .inl (cI, 11, .inl NB))] → va_S A H0 H locs → lv_has ls 2 [(0, .ref (ad 12))] → W p l e (rmH 3 0 0) s m args below meth c H locs 0 0 Q (F0 m 23 ls []))
    (KC : ∀ (NB : Nat → Int32) (H : Heap) (locs : List Loc) (ls : Array Slot), RR = (0, NB) → va_P (dC, dI) classes [((ad 12), .inr (3, [.ref (ad 13), .ref (ad 14), .ref (ad 15), .ref (ad 16), .ref (ad 17), .int (nI unk), .int (nI cnt), .int sv, .int sk, .int ck])), ((ad 13), .inl (cI, 30, .inl LO)), ((ad 14), .inl (cI, 30, .inl ST)), ((ad 15), .inl (cI, 30, .inl HI)), ((ad 16), .inl (cZ, 30, .inl KP)), ((ad 17), .inl (cI, 11, .inl NB))] H → va_D A [((ad 12), .inr (3, [.ref (ad 13), .ref (ad 14), .ref (ad 15), .ref (ad 16), .ref (ad 17), .int (nI unk), .int (nI cnt), .int sv, .int sk, .int ck])), ((ad 13), .inl (cI, 30, .inl LO)), ((ad 14), .inl (cI, 30, .inl ST)), ((ad 15), .inl (cI, 30, .inl HI)), ((ad 16), .inl (cZ, 30, .inl KP)), ((ad 17), .inl (cI, 11, .inl NB))] → va_S A H0 H locs → lv_has ls 2 [(0, .ref (ad 12))] → W p l e (rmH 3 0 0) s m args below meth c H locs 0 0 Q (F0 m 35 ls []))
    (KB : ∀ (NB : Nat → Int32) (H : Heap) (locs : List Loc) (ls : Array Slot), RR = (0, NB) → va_P (dC, dI) classes [((ad 12), .inr (3, [.ref (ad 13), .ref (ad 14), .ref (ad 15), .ref (ad 16), .ref (ad 17), .int (nI unk), .int (nI cnt), .int sv, .int sk, .int ck])), ((ad 13), .inl (cI, 30, .inl LO)), ((ad 14), .inl (cI, 30, .inl ST)), ((ad 15), .inl (cI, 30, .inl HI)), ((ad 16), .inl (cZ, 30, .inl KP)), ((ad 17), .inl (cI, 11, .inl NB))] H → va_D A [((ad 12), .inr (3, [.ref (ad 13), .ref (ad 14), .ref (ad 15), .ref (ad 16), .ref (ad 17), .int (nI unk), .int (nI cnt), .int sv, .int sk, .int ck])), ((ad 13), .inl (cI, 30, .inl LO)), ((ad 14), .inl (cI, 30, .inl ST)), ((ad 15), .inl (cI, 30, .inl HI)), ((ad 16), .inl (cZ, 30, .inl KP)), ((ad 17), .inl (cI, 11, .inl NB))] → va_S A H0 H locs → lv_has ls 2 [(0, .ref (ad 12))] → W p l e (rmH 3 0 0) s m args below meth c H locs 0 0 Q (F0 m 43 ls []))
    : ∀ (q : Nat) (i : Nat) (NB : Nat → Int32), i + q = 12 ∧ RR = rds lo hi ST KP cnt q NB → ∀ (H : Heap) (locs : List Loc) (ls : Array Slot), va_P (dC, dI) classes [((ad 12), .inr (3, [.ref (ad 13), .ref (ad 14), .ref (ad 15), .ref (ad 16), .ref (ad 17), .int (nI unk), .int (nI cnt), .int sv, .int sk, .int ck])), ((ad 13), .inl (cI, 30, .inl LO)), ((ad 14), .inl (cI, 30, .inl ST)), ((ad 15), .inl (cI, 30, .inl HI)), ((ad 16), .inl (cZ, 30, .inl KP)), ((ad 17), .inl (cI, 11, .inl NB))] H → va_D A [((ad 12), .inr (3, [.ref (ad 13), .ref (ad 14), .ref (ad 15), .ref (ad 16), .ref (ad 17), .int (nI unk), .int (nI cnt), .int sv, .int sk, .int ck])), ((ad 13), .inl (cI, 30, .inl LO)), ((ad 14), .inl (cI, 30, .inl ST)), ((ad 15), .inl (cI, 30, .inl HI)), ((ad 16), .inl (cZ, 30, .inl KP)), ((ad 17), .inl (cI, 11, .inl NB))] → va_S A H0 H locs → lv_has ls 2 [(0, .ref (ad 12)), (1, .int (nI i))] → W p l e (rmH 3 0 0) s m args below meth c H locs 0 0 Q (F0 m 10 ls []) := by
  obtain ⟨hx, hb, hr, hml, hown, htb, hlocks⟩ := id C0
  intro q
  induction q with
  | zero =>
    intro i NB hiV H locs ls hP hD hS hl
    obtain ⟨hi0, hR⟩ := hiV
    refine lv_iload_n hx hb d_Nd_canKeptBeSolved_10 rfl (lv_at hl 1 rfl) ?_
    refine lv_bipush (v := 11) hx hb d_Nd_canKeptBeSolved_11 (by decide) ?_
    refine lv_icmp_gt (tgt := 43) hx hb d_Nd_canKeptBeSolved_13 (by decide) (fun c_13 => ?_) (fun c_13 => ?_)
    · exact KB NB H locs ls hR hP hD hS (lv_sub hl [0] rfl)
    · exact absurd ((nI_ltI (a := 11) (b := i) (by decide) (by omega)).mpr (by omega)) c_13
  | succ q ih =>
    intro i NB hiV H locs ls hP hD hS hl
    obtain ⟨hi0, hR⟩ := hiV
    refine lv_iload_n hx hb d_Nd_canKeptBeSolved_10 rfl (lv_at hl 1 rfl) ?_
    refine lv_bipush (v := 11) hx hb d_Nd_canKeptBeSolved_11 (by decide) ?_
    refine lv_icmp_gt (tgt := 43) hx hb d_Nd_canKeptBeSolved_13 (by decide) (fun c_13 => ?_) (fun c_13 => ?_)
    · exact absurd ((nI_ltI (a := 11) (b := i) (by decide) (by omega)).mp c_13) (by omega)
    · refine lv_aload_n hx hb d_Nd_canKeptBeSolved_16 rfl (lv_at hl 0 rfl) ?_
      refine wy_callV (n := 0) (wr := []) (As := []) (rest := []) ⟨hx, hb, hml, hown, htb⟩ (c_Nd_raiseNumbers l dC dI cI cL cZ ad LO ST HI KP NB unk cnt sv sk ck hunk hcnt lo hi hlo hhi H.size) (gV mw_166 mw_168 mp_3 mw_4 mc_Nd_raiseNumbers) rfl rfl (by decide +kernel) ⟨Nat.le_of_ble_eq_true rfl, Nat.le_of_ble_eq_true rfl⟩ hP hD hS hA hK [0, 1, 2, 3, 4, 5] [] rfl rfl (by decide) (by decide) (hP.sub [0, 1, 2, 3, 4, 5] rfl) ((hD.sub [0, 1, 2, 3, 4, 5] (by decide) rfl).weaken (fun _ _ _ _ => trivial)) (ci := 3) (q0 := 0) rfl rfl rfl rfl hl.1 rfl (Nat.le_of_ble_eq_true rfl) d_Nd_canKeptBeSolved_17 ⟨Nat.le_of_ble_eq_true rfl, Nat.le_of_ble_eq_true rfl⟩ (fun r u H locs hpost hP hD hS => ?_)
      obtain ⟨h1, h2⟩ := hpost
      subst h1; subst h2
      have hP : va_P (dC, dI) classes [((ad 12), .inr (3, [.ref (ad 13), .ref (ad 14), .ref (ad 15), .ref (ad 16), .ref (ad 17), .int (nI unk), .int (nI cnt), .int sv, .int sk, .int ck])), ((ad 13), .inl (cI, 30, .inl LO)), ((ad 14), .inl (cI, 30, .inl ST)), ((ad 15), .inl (cI, 30, .inl HI)), ((ad 16), .inl (cZ, 30, .inl KP)), ((ad 17), .inl (cI, 11, .inl ((ps lo hi ST KP 0 cnt NB 0).1)))] H := hP
      have hD : va_D A [((ad 12), .inr (3, [.ref (ad 13), .ref (ad 14), .ref (ad 15), .ref (ad 16), .ref (ad 17), .int (nI unk), .int (nI cnt), .int sv, .int sk, .int ck])), ((ad 13), .inl (cI, 30, .inl LO)), ((ad 14), .inl (cI, 30, .inl ST)), ((ad 15), .inl (cI, 30, .inl HI)), ((ad 16), .inl (cZ, 30, .inl KP)), ((ad 17), .inl (cI, 11, .inl ((ps lo hi ST KP 0 cnt NB 0).1)))] := hD
      refine W.eq (g2 := F0 m 20 ls [.int (ps lo hi ST KP 0 cnt NB 0).2]) rfl ?_
      refine lv_if_ne (tgt := 25) hx hb d_Nd_canKeptBeSolved_20 (by decide) (fun c_20 => ?_) (fun c_20 => ?_)
      · refine lv_aload_n hx hb d_Nd_canKeptBeSolved_25 rfl (lv_at hl 0 rfl) ?_
        refine va_get (D := (dC, dI)) (ci := 3) (v := .ref (ad 17)) (C := R_Nd) (T := F_Nd) (N := 10) hx hb htb ul_Nd hown hK hP 0 rfl rfl 4 (by decide) (htb _ mw_82) (fun _ h9 => h9) rfl d_Nd_canKeptBeSolved_26 ?_
        refine lv_bipush (v := 10) hx hb d_Nd_canKeptBeSolved_29 (by decide) ?_
        refine ry_iald (D := (dC, dI)) (j := 10) hx hb hK hP 5 0 rfl rfl (by decide) (by decide) d_Nd_canKeptBeSolved_31 ?_
        refine lv_if_le (tgt := 37) hx hb d_Nd_canKeptBeSolved_32 (by decide) (fun c_32 => ?_) (fun c_32 => ?_)
        · refine lv_iinc (v := (nI (i + 1))) (lv' := [(1, .int (nI (i + 1))), (0, .ref (ad 12))]) hx hb d_Nd_canKeptBeSolved_37 hl (k := 1) rfl (nI_1 _) (by decide) rfl (fun ls hl => ?_)
          refine lv_goto (tgt := 10) hx hb d_Nd_canKeptBeSolved_40 (by decide) ?_
          exact ih (i + 1) (ps lo hi ST KP 0 cnt NB 0).1 ⟨by omega, by rw [hR, rds, if_neg c_20, if_pos c_32]⟩ H locs ls hP hD hS (lv_sub hl [1, 0] rfl)
        · exact KC (ps lo hi ST KP 0 cnt NB 0).1 H locs ls (by rw [hR, rds, if_neg c_20, if_neg c_32]) hP hD hS (lv_sub hl [0] rfl)
      · exact KA (ps lo hi ST KP 0 cnt NB 0).1 H locs ls (by rw [hR, rds, if_pos c_20]) hP hD hS (lv_sub hl [0] rfl)

set_option maxHeartbeats 4000000 in
set_option maxRecDepth 100000 in
theorem c_Nd_canKeptBeSolved (l : Launch) (dC : Nat → ClassId) (dI : Nat → Nat → Nat) (cI cL cZ : ClassId) (ad : Nat → Nat) (LO ST HI KP NB : Nat → Int32) (unk cnt : Nat) (sv sk ck : Int32) (hunk : unk ≤ 10) (hcnt : cnt ≤ 30) (lo hi : Nat → Nat) (hlo : ∀ j, j < cnt → LO j = nI (lo j) ∧ lo j < 11) (hhi : ∀ j, j < cnt → HI j = nI (hi j) ∧ hi j < 11) (sz : Nat) : Met l y_Nd_canKeptBeSolved (cw_Nd_canKeptBeSolved :: tb) (rmH 3 0 0) (va_Pc [.ref (ad 12)] (wy_P (dC, dI) classes (wNd cI cZ ad LO ST HI KP NB unk cnt sv sk ck) (tyI cI cL cZ) sz)) (wy_Q ry_i (fun r (u : Nat → Int32) => r = (cks lo hi ST KP cnt NB).1 ∧ u = (cks lo hi ST KP cnt NB).2) (wy_B (dC, dI) classes (tyI cI cL cZ) (va_A (wNd cI cZ ad LO ST HI KP NB unk cnt sv sk ck) sz) (fun u : Nat → Int32 => (wNd cI cZ ad LO ST HI KP u unk cnt sv sk ck))) (va_A (wNd cI cZ ad LO ST HI KP NB unk cnt sv sk ck) sz)) 0 0 (va_A (wNd cI cZ ad LO ST HI KP NB unk cnt sv sk ck) sz) := by
  refine Met.ofW (cc := b_Nd_canKeptBeSolved) (maxL := 2) (ret := (some .boolean)) (by decide +kernel) rfl ?_
  intro p e s m args below meth c s₁ B hml0 hv
  have C0 := cx_of B hml0 rfl
  obtain ⟨hx, hb, hr, hml, hown, htb, hlocks⟩ := id C0
  obtain ⟨rfl, hsz, hP, hK, hD0⟩ := hv
  subst hsz
  have hD := hD0.self (sz := s.heap.size)
  generalize hAe : va_A (wNd cI cZ ad LO ST HI KP NB unk cnt sv sk ck) s.heap.size = A at hD ⊢
  have hA : ∀ q : Nat, s.heap.size ≤ q → A q := fun q h => by rw [← hAe]; exact Or.inr h
  have hS : va_S A s.heap s.heap [] := va_S.rf
  have hl := lv_entry ([.ref (ad 12)]) (n := 2) (Nat.le_of_ble_eq_true rfl)
  rw [lg_entry_eq]
  generalize (lg_sl ([.ref (ad 12)]) ++ List.replicate (2 - (lg_sl ([.ref (ad 12)])).length) Slot.unset).toArray = ls at hl ⊢
  have hl : lv_has ls 2 [(0, .ref (ad 12))] := hl
  have hP : va_P (dC, dI) classes [((ad 12), .inr (3, [.ref (ad 13), .ref (ad 14), .ref (ad 15), .ref (ad 16), .ref (ad 17), .int (nI unk), .int (nI cnt), .int sv, .int sk, .int ck])), ((ad 13), .inl (cI, 30, .inl LO)), ((ad 14), .inl (cI, 30, .inl ST)), ((ad 15), .inl (cI, 30, .inl HI)), ((ad 16), .inl (cZ, 30, .inl KP)), ((ad 17), .inl (cI, 11, .inl NB))] s.heap := hP
  have hD : va_D A [((ad 12), .inr (3, [.ref (ad 13), .ref (ad 14), .ref (ad 15), .ref (ad 16), .ref (ad 17), .int (nI unk), .int (nI cnt), .int sv, .int sk, .int ck])), ((ad 13), .inl (cI, 30, .inl LO)), ((ad 14), .inl (cI, 30, .inl ST)), ((ad 15), .inl (cI, 30, .inl HI)), ((ad 16), .inl (cZ, 30, .inl KP)), ((ad 17), .inl (cI, 11, .inl NB))] := hD
  have hA0 := hA
  refine lv_aload_n hx hb d_Nd_canKeptBeSolved_0 rfl (lv_at hl 0 rfl) ?_
  refine va_get (D := (dC, dI)) (ci := 3) (v := .ref (ad 17)) (C := R_Nd) (T := F_Nd) (N := 10) hx hb htb ul_Nd hown hK hP 0 rfl rfl 4 (by decide) (htb _ mw_82) (fun _ h9 => h9) rfl d_Nd_canKeptBeSolved_1 ?_
  refine lv_iconst (v := 0) hx hb d_Nd_canKeptBeSolved_4 (by decide) ?_
  refine wy_callS (n := 2) (wr := [((ad 12), .inr (3, [.ref (ad 13), .ref (ad 14), .ref (ad 15), .ref (ad 16), .ref (ad 17), .int (nI unk), .int (nI cnt), .int sv, .int sk, .int ck])), ((ad 13), .inl (cI, 30, .inl LO)), ((ad 14), .inl (cI, 30, .inl ST)), ((ad 15), .inl (cI, 30, .inl HI)), ((ad 16), .inl (cZ, 30, .inl KP))]) (As := [.ref (ad 17), .int 0]) (rest := []) ⟨hx, hb, hml, hown, htb⟩ (c_Ar_fill l dC dI cI cL cZ (ad 17) NB 0 s.heap.size) (gS mw_163 mw_164 mw_14 mc_Ar_fill) rfl rfl (by decide +kernel) ⟨Nat.le_of_ble_eq_true rfl, Nat.le_of_ble_eq_true rfl⟩ hP hD hS hA hK [5] [0, 1, 2, 3, 4] rfl rfl (by decide) (by decide) (hP.sub [5] rfl) ((hD.sub [5] (by decide) rfl).weaken (fun _ _ _ _ => trivial)) rfl hl.1 rfl (Nat.le_of_ble_eq_true rfl) d_Nd_canKeptBeSolved_5 ⟨Nat.le_of_ble_eq_true rfl, Nat.le_of_ble_eq_true rfl⟩ (fun r u H locs hpost hP hD hS => ?_)
  have hP : va_P (dC, dI) classes [((ad 12), .inr (3, [.ref (ad 13), .ref (ad 14), .ref (ad 15), .ref (ad 16), .ref (ad 17), .int (nI unk), .int (nI cnt), .int sv, .int sk, .int ck])), ((ad 13), .inl (cI, 30, .inl LO)), ((ad 14), .inl (cI, 30, .inl ST)), ((ad 15), .inl (cI, 30, .inl HI)), ((ad 16), .inl (cZ, 30, .inl KP)), ((ad 17), .inl (cI, 11, .inl (fl 11 0 NB)))] H := hP
  have hD : va_D A [((ad 12), .inr (3, [.ref (ad 13), .ref (ad 14), .ref (ad 15), .ref (ad 16), .ref (ad 17), .int (nI unk), .int (nI cnt), .int sv, .int sk, .int ck])), ((ad 13), .inl (cI, 30, .inl LO)), ((ad 14), .inl (cI, 30, .inl ST)), ((ad 15), .inl (cI, 30, .inl HI)), ((ad 16), .inl (cZ, 30, .inl KP)), ((ad 17), .inl (cI, 11, .inl (fl 11 0 NB)))] := hD
  refine W.eq (g2 := F0 m 8 ls []) rfl ?_
  refine lv_iconst (v := 0) hx hb d_Nd_canKeptBeSolved_8 (by decide) ?_
  refine lv_istore_n (lv' := [(1, .int 0), (0, .ref (ad 12))]) hx hb d_Nd_canKeptBeSolved_9 rfl hl (by decide) rfl (fun ls hl => ?_)
  refine lp_Nd_canKeptBeSolved l C0 dC dI cI cL cZ ad LO ST HI KP unk cnt sv sk ck hunk hcnt lo hi hlo hhi (cks lo hi ST KP cnt NB) hK hA (fun NB9 H locs ls hR hP hD hS hl => ?_) (fun NB9 H locs ls hR hP hD hS hl => ?_) (fun NB9 H locs ls hR hP hD hS hl => ?_) 12 0 (fl 11 0 NB) ⟨rfl, rfl⟩ H locs ls hP hD hS (lv_sub hl [1, 0] rfl)
  · refine lv_iconst (v := 1) hx hb d_Nd_canKeptBeSolved_23 (by decide) ?_
    exact W.zret (v := 1) hx hb hr rfl (fun t ht hW => ⟨⟨1, NB9, rfl, ⟨by rw [hR], by rw [hR]⟩, by rw [ht]; exact hP, va_K.moved hW.alike hK, hD⟩, hS.F ht⟩) hS.2.2 d_Nd_canKeptBeSolved_24
  · refine lv_iconst (v := 0) hx hb d_Nd_canKeptBeSolved_35 (by decide) ?_
    exact W.zret (v := 0) hx hb hr rfl (fun t ht hW => ⟨⟨0, NB9, rfl, ⟨by rw [hR], by rw [hR]⟩, by rw [ht]; exact hP, va_K.moved hW.alike hK, hD⟩, hS.F ht⟩) hS.2.2 d_Nd_canKeptBeSolved_36
  · refine lv_iconst (v := 0) hx hb d_Nd_canKeptBeSolved_43 (by decide) ?_
    exact W.zret (v := 0) hx hb hr rfl (fun t ht hW => ⟨⟨0, NB9, rfl, ⟨by rw [hR], by rw [hR]⟩, by rw [ht]; exact hP, va_K.moved hW.alike hK, hD⟩, hS.F ht⟩) hS.2.2 d_Nd_canKeptBeSolved_44
