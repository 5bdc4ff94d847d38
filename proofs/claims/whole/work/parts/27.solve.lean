set_option maxHeartbeats 4000000 in
set_option maxRecDepth 100000 in
theorem lp_Nd_raiseNumbers {p : Program} (l : Launch) {e : Env} {s : State} {m : MethodId} {args : Array Value} {below : List Frame} {meth : Method} {c : Code} {Q : State → Prop} {A : Nat → Prop} {H0 : Heap} (C0 : cx p s m args meth c b_Nd_raiseNumbers 4 (some .boolean) R_Nd) (dC : Nat → ClassId) (dI : Nat → Nat → Nat) (cI cL cZ : ClassId) (ad : Nat → Nat) (LO ST HI KP : Nat → Int32) (unk cnt : Nat) (sv sk ck : Int32) (hunk : unk ≤ 10) (hcnt : cnt ≤ 30) (lo hi : Nat → Nat) (hlo : ∀ j, j < cnt → LO j = nI (lo j) ∧ lo j < 11) (hhi : ∀ j, j < cnt → HI j = nI (hi j) ∧ hi j < 11) (RR : (Nat → Int32) × Int32) (hK : va_K (dC, dI) classes (tyI cI cL cZ) s) (hA : ∀ q : Nat, H0.size ≤ q → A q) 
    (KB : ∀ (NB : Nat → Int32) (b : Int32) (H : Heap) (locs : List Loc) (ls : Array Slot), RR = (NB, b) → va_P (dC, dI) classes [((ad 12), .inr (3, [.ref (ad 13), .ref (ad 14), .ref (ad 15), .ref (ad 16), .ref (ad 17), .int (nI unk), .int (nI cnt), .int sv, .int sk, .int ck])), ((ad 13), .inl (cI, 30, .inl LO)), ((ad 14), .inl (cI, 30, .inl ST)), ((ad 15), .inl (cI, 30, .inl HI)), ((ad 16), .inl (cZ, 30, .inl KP)), ((ad 17), .inl (cI, 11, .inl NB))] H → va_D A [((ad 12), .inr (3, [.ref (ad 13), .ref (ad 14), .ref (ad 15), .ref (ad 16), .ref (ad 17), .int (nI unk), .int (nI cnt), .int sv, .int sk, .int ck])), ((ad 13), .inl (cI, 30, .inl LO)), ((ad 14), .inl (cI, 30, .inl ST)), ((ad 15), .inl (cI, 30, .inl HI)), ((ad 16), .inl (cZ, 30, .inl KP)), ((ad 17), .inl (cI, 11, .inl NB))] → va_S A H0 H locs → lv_has ls 4 [(0, .ref (ad 12)), (1, .int b)] → W p l e (rmH 1 0 0) s m args below meth c H locs 0 0 Q (F0 m 75 ls []))
    : ∀ (q : Nat) (i : Nat) (NB : Nat → Int32) (b : Int32), i + q = cnt ∧ RR = ps lo hi ST KP i q NB b → ∀ (H : Heap) (locs : List Loc) (ls : Array Slot), va_P (dC, dI) classes [((ad 12), .inr (3, [.ref (ad 13), .ref (ad 14), .ref (ad 15), .ref (ad 16), .ref (ad 17), .int (nI unk), .int (nI cnt), .int sv, .int sk, .int ck])), ((ad 13), .inl (cI, 30, .inl LO)), ((ad 14), .inl (cI, 30, .inl ST)), ((ad 15), .inl (cI, 30, .inl HI)), ((ad 16), .inl (cZ, 30, .inl KP)), ((ad 17), .inl (cI, 11, .inl NB))] H → va_D A [((ad 12), .inr (3, [.ref (ad 13), .ref (ad 14), .ref (ad 15), .ref (ad 16), .ref (ad 17), .int (nI unk), .int (nI cnt), .int sv, .int sk, .int ck])), ((ad 13), .inl (cI, 30, .inl LO)), ((ad 14), .inl (cI, 30, .inl ST)), ((ad 15), .inl (cI, 30, .inl HI)), ((ad 16), .inl (cZ, 30, .inl KP)), ((ad 17), .inl (cI, 11, .inl NB))] → va_S A H0 H locs → lv_has ls 4 [(0, .ref (ad 12)), (1, .int b), (2, .int (nI i))] → W p l e (rmH 1 0 0) s m args below meth c H locs 0 0 Q (F0 m 4 ls []) := by
  obtain ⟨hx, hb, hr, hml, hown, htb, hlocks⟩ := id C0
  intro q
  induction q with
  | zero =>
    intro i NB b hiV H locs ls hP hD hS hl
    obtain ⟨hi0, hR⟩ := hiV
    refine lv_iload_n hx hb d_Nd_raiseNumbers_4 rfl (lv_at hl 2 rfl) ?_
    refine lv_aload_n hx hb d_Nd_raiseNumbers_5 rfl (lv_at hl 0 rfl) ?_
    refine va_get (D := (dC, dI)) (ci := 3) (v := .int (nI cnt)) (C := R_Nd) (T := F_Nd) (N := 10) hx hb htb ul_Nd hown hK hP 0 rfl rfl 6 (by decide) (htb _ mw_84) (fun _ h9 => h9) rfl d_Nd_raiseNumbers_6 ?_
    refine lv_icmp_ge (tgt := 75) hx hb d_Nd_raiseNumbers_9 (by decide) (fun c_9 => ?_) (fun c_9 => ?_)
    · exact KB NB b H locs ls hR hP hD hS (lv_sub hl [0, 1] rfl)
    · exact absurd ((nI_leI (a := cnt) (b := i) (by omega) (by omega)).mpr (by omega)) c_9
  | succ q ih =>
    intro i NB b hiV H locs ls hP hD hS hl
    obtain ⟨hi0, hR⟩ := hiV
    refine lv_iload_n hx hb d_Nd_raiseNumbers_4 rfl (lv_at hl 2 rfl) ?_
    refine lv_aload_n hx hb d_Nd_raiseNumbers_5 rfl (lv_at hl 0 rfl) ?_
    refine va_get (D := (dC, dI)) (ci := 3) (v := .int (nI cnt)) (C := R_Nd) (T := F_Nd) (N := 10) hx hb htb ul_Nd hown hK hP 0 rfl rfl 6 (by decide) (htb _ mw_84) (fun _ h9 => h9) rfl d_Nd_raiseNumbers_6 ?_
    refine lv_icmp_ge (tgt := 75) hx hb d_Nd_raiseNumbers_9 (by decide) (fun c_9 => ?_) (fun c_9 => ?_)
    · exact absurd ((nI_leI (a := cnt) (b := i) (by omega) (by omega)).mp c_9) (by omega)
    · obtain ⟨el, hl1⟩ := hlo i (by omega)
      obtain ⟨eh, hh1⟩ := hhi i (by omega)
      refine lv_aload_n hx hb d_Nd_raiseNumbers_12 rfl (lv_at hl 0 rfl) ?_
      refine va_get (D := (dC, dI)) (ci := 3) (v := .ref (ad 17)) (C := R_Nd) (T := F_Nd) (N := 10) hx hb htb ul_Nd hown hK hP 0 rfl rfl 4 (by decide) (htb _ mw_82) (fun _ h9 => h9) rfl d_Nd_raiseNumbers_13 ?_
      refine lv_aload_n hx hb d_Nd_raiseNumbers_16 rfl (lv_at hl 0 rfl) ?_
      refine va_get (D := (dC, dI)) (ci := 3) (v := .ref (ad 13)) (C := R_Nd) (T := F_Nd) (N := 10) hx hb htb ul_Nd hown hK hP 0 rfl rfl 0 (by decide) (htb _ mw_78) (fun _ h9 => h9) rfl d_Nd_raiseNumbers_17 ?_
      refine lv_iload_n hx hb d_Nd_raiseNumbers_20 rfl (lv_at hl 2 rfl) ?_
      refine ry_iald (D := (dC, dI)) (j := i) hx hb hK hP 1 0 rfl rfl (by omega) (by decide) d_Nd_raiseNumbers_21 ?_
      rw [el]
      refine ry_iald (D := (dC, dI)) (j := lo i) hx hb hK hP 5 0 rfl rfl (by omega) (by decide) d_Nd_raiseNumbers_22 ?_
      refine lv_aload_n hx hb d_Nd_raiseNumbers_23 rfl (lv_at hl 0 rfl) ?_
      refine va_get (D := (dC, dI)) (ci := 3) (v := .ref (ad 14)) (C := R_Nd) (T := F_Nd) (N := 10) hx hb htb ul_Nd hown hK hP 0 rfl rfl 1 (by decide) (htb _ mw_79) (fun _ h9 => h9) rfl d_Nd_raiseNumbers_24 ?_
      refine lv_iload_n hx hb d_Nd_raiseNumbers_27 rfl (lv_at hl 2 rfl) ?_
      refine ry_iald (D := (dC, dI)) (j := i) hx hb hK hP 2 0 rfl rfl (by omega) (by decide) d_Nd_raiseNumbers_28 ?_
      refine lv_iadd hx hb d_Nd_raiseNumbers_29 ?_
      refine lv_istore_n (lv' := [(3, .int ((NB (lo i)) + (ST i))), (0, .ref (ad 12)), (1, .int b), (2, .int (nI i))]) hx hb d_Nd_raiseNumbers_30 rfl hl (by decide) rfl (fun ls hl => ?_)
      refine lv_aload_n hx hb d_Nd_raiseNumbers_31 rfl (lv_at hl 1 rfl) ?_
      refine va_get (D := (dC, dI)) (ci := 3) (v := .ref (ad 16)) (C := R_Nd) (T := F_Nd) (N := 10) hx hb htb ul_Nd hown hK hP 0 rfl rfl 3 (by decide) (htb _ mw_81) (fun _ h9 => h9) rfl d_Nd_raiseNumbers_32 ?_
      refine lv_iload_n hx hb d_Nd_raiseNumbers_35 rfl (lv_at hl 3 rfl) ?_
      refine ry_zald (D := (dC, dI)) (j := i) hx hb hK hP 4 2 rfl rfl (by omega) (by decide) d_Nd_raiseNumbers_36 ?_
      refine lv_if_eq (tgt := 69) hx hb d_Nd_raiseNumbers_37 (by decide) (fun c_37 => ?_) (fun c_37 => ?_)
      · refine lv_iinc (v := (nI (i + 1))) (lv' := [(2, .int (nI (i + 1))), (3, .int ((NB (lo i)) + (ST i))), (0, .ref (ad 12)), (1, .int b)]) hx hb d_Nd_raiseNumbers_69 hl (k := 3) rfl (nI_1 _) (by decide) rfl (fun ls hl => ?_)
        refine lv_goto (tgt := 4) hx hb d_Nd_raiseNumbers_72 (by decide) ?_
        exact ih (i + 1) NB b ⟨by omega, by rw [hR, ps_0 c_37]⟩ H locs ls hP hD hS (lv_sub hl [2, 3, 0] rfl)
      · refine lv_iload_n hx hb d_Nd_raiseNumbers_40 rfl (lv_at hl 0 rfl) ?_
        refine lv_aload_n hx hb d_Nd_raiseNumbers_41 rfl (lv_at hl 1 rfl) ?_
        refine va_get (D := (dC, dI)) (ci := 3) (v := .ref (ad 17)) (C := R_Nd) (T := F_Nd) (N := 10) hx hb htb ul_Nd hown hK hP 0 rfl rfl 4 (by decide) (htb _ mw_82) (fun _ h9 => h9) rfl d_Nd_raiseNumbers_42 ?_
        refine lv_aload_n hx hb d_Nd_raiseNumbers_45 rfl (lv_at hl 1 rfl) ?_
        refine va_get (D := (dC, dI)) (ci := 3) (v := .ref (ad 15)) (C := R_Nd) (T := F_Nd) (N := 10) hx hb htb ul_Nd hown hK hP 0 rfl rfl 2 (by decide) (htb _ mw_80) (fun _ h9 => h9) rfl d_Nd_raiseNumbers_46 ?_
        refine lv_iload_n hx hb d_Nd_raiseNumbers_49 rfl (lv_at hl 3 rfl) ?_
        refine ry_iald (D := (dC, dI)) (j := i) hx hb hK hP 3 0 rfl rfl (by omega) (by decide) d_Nd_raiseNumbers_50 ?_
        rw [eh]
        refine ry_iald (D := (dC, dI)) (j := hi i) hx hb hK hP 5 0 rfl rfl (by omega) (by decide) d_Nd_raiseNumbers_51 ?_
        refine lv_icmp_le (tgt := 69) hx hb d_Nd_raiseNumbers_52 (by decide) (fun c_52 => ?_) (fun c_52 => ?_)
        · refine lv_iinc (v := (nI (i + 1))) (lv' := [(2, .int (nI (i + 1))), (3, .int ((NB (lo i)) + (ST i))), (0, .ref (ad 12)), (1, .int b)]) hx hb d_Nd_raiseNumbers_69 hl (k := 3) rfl (nI_1 _) (by decide) rfl (fun ls hl => ?_)
          refine lv_goto (tgt := 4) hx hb d_Nd_raiseNumbers_72 (by decide) ?_
          exact ih (i + 1) NB b ⟨by omega, by rw [hR, ps_1 c_37 c_52]⟩ H locs ls hP hD hS (lv_sub hl [2, 3, 0] rfl)
        · refine lv_aload_n hx hb d_Nd_raiseNumbers_55 rfl (lv_at hl 1 rfl) ?_
          refine va_get (D := (dC, dI)) (ci := 3) (v := .ref (ad 17)) (C := R_Nd) (T := F_Nd) (N := 10) hx hb htb ul_Nd hown hK hP 0 rfl rfl 4 (by decide) (htb _ mw_82) (fun _ h9 => h9) rfl d_Nd_raiseNumbers_56 ?_
          refine lv_aload_n hx hb d_Nd_raiseNumbers_59 rfl (lv_at hl 1 rfl) ?_
          refine va_get (D := (dC, dI)) (ci := 3) (v := .ref (ad 15)) (C := R_Nd) (T := F_Nd) (N := 10) hx hb htb ul_Nd hown hK hP 0 rfl rfl 2 (by decide) (htb _ mw_80) (fun _ h9 => h9) rfl d_Nd_raiseNumbers_60 ?_
          refine lv_iload_n hx hb d_Nd_raiseNumbers_63 rfl (lv_at hl 3 rfl) ?_
          refine ry_iald (D := (dC, dI)) (j := i) hx hb hK hP 3 0 rfl rfl (by omega) (by decide) d_Nd_raiseNumbers_64 ?_
          rw [eh]
          refine lv_iload_n hx hb d_Nd_raiseNumbers_65 rfl (lv_at hl 0 rfl) ?_
          refine ry_iast (D := (dC, dI)) (j := hi i) hx hb hK hP hD hS 5 0 rfl rfl (by omega) (by decide) d_Nd_raiseNumbers_66 (fun H locs hP hD hS => ?_)
          have hP : va_P (dC, dI) classes [((ad 12), .inr (3, [.ref (ad 13), .ref (ad 14), .ref (ad 15), .ref (ad 16), .ref (ad 17), .int (nI unk), .int (nI cnt), .int sv, .int sk, .int ck])), ((ad 13), .inl (cI, 30, .inl LO)), ((ad 14), .inl (cI, 30, .inl ST)), ((ad 15), .inl (cI, 30, .inl HI)), ((ad 16), .inl (cZ, 30, .inl KP)), ((ad 17), .inl (cI, 11, .inl (upd NB (hi i) (((NB (lo i)) + (ST i))))))] H := hP
          have hD : va_D A [((ad 12), .inr (3, [.ref (ad 13), .ref (ad 14), .ref (ad 15), .ref (ad 16), .ref (ad 17), .int (nI unk), .int (nI cnt), .int sv, .int sk, .int ck])), ((ad 13), .inl (cI, 30, .inl LO)), ((ad 14), .inl (cI, 30, .inl ST)), ((ad 15), .inl (cI, 30, .inl HI)), ((ad 16), .inl (cZ, 30, .inl KP)), ((ad 17), .inl (cI, 11, .inl (upd NB (hi i) (((NB (lo i)) + (ST i))))))] := hD
          refine lv_iconst (v := 1) hx hb d_Nd_raiseNumbers_67 (by decide) ?_
          refine lv_istore_n (lv' := [(1, .int 1), (3, .int ((NB (lo i)) + (ST i))), (0, .ref (ad 12)), (2, .int (nI i))]) hx hb d_Nd_raiseNumbers_68 rfl hl (by decide) rfl (fun ls hl => ?_)
          refine lv_iinc (v := (nI (i + 1))) (lv' := [(2, .int (nI (i + 1))), (1, .int 1), (3, .int ((NB (lo i)) + (ST i))), (0, .ref (ad 12))]) hx hb d_Nd_raiseNumbers_69 hl (k := 3) rfl (nI_1 _) (by decide) rfl (fun ls hl => ?_)
          refine lv_goto (tgt := 4) hx hb d_Nd_raiseNumbers_72 (by decide) ?_
          exact ih (i + 1) (upd NB (hi i) (NB (lo i) + ST i)) 1 ⟨by omega, by rw [hR, ps_2 c_37 c_52]⟩ H locs ls hP hD hS (lv_sub hl [3, 1, 0] rfl)

set_option maxHeartbeats 4000000 in
set_option maxRecDepth 100000 in
theorem c_Nd_raiseNumbers (l : Launch) (dC : Nat → ClassId) (dI : Nat → Nat → Nat) (cI cL cZ : ClassId) (ad : Nat → Nat) (LO ST HI KP NB : Nat → Int32) (unk cnt : Nat) (sv sk ck : Int32) (hunk : unk ≤ 10) (hcnt : cnt ≤ 30) (lo hi : Nat → Nat) (hlo : ∀ j, j < cnt → LO j = nI (lo j) ∧ lo j < 11) (hhi : ∀ j, j < cnt → HI j = nI (hi j) ∧ hi j < 11) (sz : Nat) : Met l y_Nd_raiseNumbers (cw_Nd_raiseNumbers :: tb) (rmH 1 0 0) (va_Pc [.ref (ad 12)] (wy_P (dC, dI) classes (wNd cI cZ ad LO ST HI KP NB unk cnt sv sk ck) (tyI cI cL cZ) sz)) (wy_Q ry_i (fun r (u : Nat → Int32) => r = (ps lo hi ST KP 0 cnt NB 0).2 ∧ u = (ps lo hi ST KP 0 cnt NB 0).1) (wy_B (dC, dI) classes (tyI cI cL cZ) (va_A (wNd cI cZ ad LO ST HI KP NB unk cnt sv sk ck) sz) (fun u : Nat → Int32 => (wNd cI cZ ad LO ST HI KP u unk cnt sv sk ck))) (va_A (wNd cI cZ ad LO ST HI KP NB unk cnt sv sk ck) sz)) 0 0 (va_A (wNd cI cZ ad LO ST HI KP NB unk cnt sv sk ck) sz) := by
  refine Met.ofW (cc := b_Nd_raiseNumbers) (maxL := 4) (ret := (some .boolean)) (by decide +kernel) rfl ?_
  intro p e s m args below meth c s₁ B hml0 hv
  have C0 := cx_of B hml0 rfl
  obtain ⟨hx, hb, hr, hml, hown, htb, hlocks⟩ := id C0
  obtain ⟨rfl, hsz, hP, hK, hD0⟩ := hv
  subst hsz
  have hD := hD0.self (sz := s.heap.size)
  generalize hAe : va_A (wNd cI cZ ad LO ST HI KP NB unk cnt sv sk ck) s.heap.size = A at hD ⊢
  have hA : ∀ q : Nat, s.heap.size ≤ q → A q := fun q h => by rw [← hAe]; exact Or.inr h
  have hS : va_S A s.heap s.heap [] := va_S.rf
  have hl := lv_entry ([.ref (ad 12)]) (n := 4) (Nat.le_of_ble_eq_true rfl)
  rw [lg_entry_eq]
  generalize (lg_sl ([.ref (ad 12)]) ++ List.replicate (4 - (lg_sl ([.ref (ad 12)])).length) Slot.unset).toArray = ls at hl ⊢
  have hl : lv_has ls 4 [(0, .ref (ad 12))] := hl
  have hP : va_P (dC, dI) classes [((ad 12), .inr (3, [.ref (ad 13), .ref (ad 14), .ref (ad 15), .ref (ad 16), .ref (ad 17), .int (nI unk), .int (nI cnt), .int sv, .int sk, .int ck])), ((ad 13), .inl (cI, 30, .inl LO)), ((ad 14), .inl (cI, 30, .inl ST)), ((ad 15), .inl (cI, 30, .inl HI)), ((ad 16), .inl (cZ, 30, .inl KP)), ((ad 17), .inl (cI, 11, .inl NB))] s.heap := hP
  have hD : va_D A [((ad 12), .inr (3, [.ref (ad 13), .ref (ad 14), .ref (ad 15), .ref (ad 16), .ref (ad 17), .int (nI unk), .int (nI cnt), .int sv, .int sk, .int ck])), ((ad 13), .inl (cI, 30, .inl LO)), ((ad 14), .inl (cI, 30, .inl ST)), ((ad 15), .inl (cI, 30, .inl HI)), ((ad 16), .inl (cZ, 30, .inl KP)), ((ad 17), .inl (cI, 11, .inl NB))] := hD
  have hA0 := hA
  refine lv_iconst (v := 0) hx hb d_Nd_raiseNumbers_0 (by decide) ?_
  refine lv_istore_n (lv' := [(1, .int 0), (0, .ref (ad 12))]) hx hb d_Nd_raiseNumbers_1 rfl hl (by decide) rfl (fun ls hl => ?_)
  refine lv_iconst (v := 0) hx hb d_Nd_raiseNumbers_2 (by decide) ?_
  refine lv_istore_n (lv' := [(2, .int 0), (1, .int 0), (0, .ref (ad 12))]) hx hb d_Nd_raiseNumbers_3 rfl hl (by decide) rfl (fun ls hl => ?_)
  refine lp_Nd_raiseNumbers l C0 dC dI cI cL cZ ad LO ST HI KP unk cnt sv sk ck hunk hcnt lo hi hlo hhi (ps lo hi ST KP 0 cnt NB 0) hK hA (fun NB9 b9 H locs ls hR hP hD hS hl => ?_) cnt 0 NB 0 ⟨by omega, rfl⟩ s.heap [] ls hP hD hS (lv_sub hl [2, 1, 0] rfl)
  refine lv_iload_n hx hb d_Nd_raiseNumbers_75 rfl (lv_at hl 1 rfl) ?_
  exact W.zret (v := b9) hx hb hr (bn (by have := ps_b (lo := lo) (hi := hi) (ST := ST) (KP := KP) cnt 0 NB 0 (Or.inl rfl); rw [hR] at this; exact this)) (fun t ht hW => ⟨⟨b9, NB9, rfl, ⟨by rw [hR], by rw [hR]⟩, by rw [ht]; exact hP, va_K.moved hW.alike hK, hD⟩, hS.F ht⟩) hS.2.2 d_Nd_raiseNumbers_76
