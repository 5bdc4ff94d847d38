set_option maxHeartbeats 4000000 in
set_option maxRecDepth 100000 in
theorem lp_Mo_reckon {p : Program} (l : Launch) {e : Env} {s : State} {m : MethodId} {args : Array Value} {below : List Frame} {meth : Method} {c : Code} {Q : State → Prop} {A : Nat → Prop} {H0 : Heap} (C0 : cx p s m args meth c b_Mo_reckon 4 none R_Mo) (dC : Nat → ClassId) (dI : Nat → Nat → Nat) (cI cL cZ : ClassId) (bd : Nat → Nat) (th : Int32) (K F S DD : Nat → Int32) (n : Nat) (NU BE WA LE AA RI UN CO : Nat → Int32) (unk cnt : Nat) (hn : n ≤ 120) (hunk : unk ≤ 10) (hcnt : cnt ≤ 30) (nd : Nat → Nat × Nat × Nat) (hok : MoOk nd n K F S DD) (nu : Nat → Nat) (hnu : nus nu) (hNU : ∀ a, a < 5 → NU a = nI (nu a)) (hK : va_K (dC, dI) classes (tyI cI cL cZ) s) (hA : ∀ q : Nat, H0.size ≤ q → A q) 
    (KB : ∀ (VA : Nat → Int32) (H : Heap) (locs : List Loc) (ls : Array Slot), (∀ z, z < n → VA z = nI (vl nu nd z)) → va_P (dC, dI) classes [((bd 0), .inr (4, [.int th, .ref (bd 1), .ref (bd 2), .ref (bd 3), .ref (bd 4), .int (nI n), .ref (bd 5), .ref (bd 6), .ref (bd 7), .ref (bd 8), .ref (bd 9), .ref (bd 10), .ref (bd 11), .ref (bd 12), .ref (bd 13), .int (nI unk), .int (nI cnt)])), ((bd 1), .inl (cI, 120, .inl K)), ((bd 2), .inl (cI, 120, .inl F)), ((bd 3), .inl (cI, 120, .inl S)), ((bd 4), .inl (cI, 120, .inl DD)), ((bd 5), .inl (cI, 5, .inl NU)), ((bd 6), .inl (cI, 120, .inl VA)), ((bd 7), .inl (cI, 120, .inl BE)), ((bd 8), .inl (cI, 128, .inl WA)), ((bd 9), .inl (cI, 30, .inl LE)), ((bd 10), .inl (cI, 30, .inl AA)), ((bd 11), .inl (cI, 30, .inl RI)), ((bd 12), .inl (cI, 10, .inl UN)), ((bd 13), .inl (cZ, 30, .inl CO))] H → va_D A [((bd 0), .inr (4, [.int th, .ref (bd 1), .ref (bd 2), .ref (bd 3), .ref (bd 4), .int (nI n), .ref (bd 5), .ref (bd 6), .ref (bd 7), .ref (bd 8), .ref (bd 9), .ref (bd 10), .ref (bd 11), .ref (bd 12), .ref (bd 13), .int (nI unk), .int (nI cnt)])), ((bd 1), .inl (cI, 120, .inl K)), ((bd 2), .inl (cI, 120, .inl F)), ((bd 3), .inl (cI, 120, .inl S)), ((bd 4), .inl (cI, 120, .inl DD)), ((bd 5), .inl (cI, 5, .inl NU)), ((bd 6), .inl (cI, 120, .inl VA)), ((bd 7), .inl (cI, 120, .inl BE)), ((bd 8), .inl (cI, 128, .inl WA)), ((bd 9), .inl (cI, 30, .inl LE)), ((bd 10), .inl (cI, 30, .inl AA)), ((bd 11), .inl (cI, 30, .inl RI)), ((bd 12), .inl (cI, 10, .inl UN)), ((bd 13), .inl (cZ, 30, .inl CO))] → va_S A H0 H locs → lv_has ls 4 [(0, .ref (bd 0))] → W p l e (rmH 1 0 0) s m args below meth c H locs 0 0 Q (F0 m 163 ls []))
    : ∀ (q : Nat) (i : Nat) (VA : Nat → Int32), i + q = n ∧ (∀ z, z < i → VA z = nI (vl nu nd z)) → ∀ (H : Heap) (locs : List Loc) (ls : Array Slot), va_P (dC, dI) classes [((bd 0), .inr (4, [.int th, .ref (bd 1), .ref (bd 2), .ref (bd 3), .ref (bd 4), .int (nI n), .ref (bd 5), .ref (bd 6), .ref (bd 7), .ref (bd 8), .ref (bd 9), .ref (bd 10), .ref (bd 11), .ref (bd 12), .ref (bd 13), .int (nI unk), .int (nI cnt)])), ((bd 1), .inl (cI, 120, .inl K)), ((bd 2), .inl (cI, 120, .inl F)), ((bd 3), .inl (cI, 120, .inl S)), ((bd 4), .inl (cI, 120, .inl DD)), ((bd 5), .inl (cI, 5, .inl NU)), ((bd 6), .inl (cI, 120, .inl VA)), ((bd 7), .inl (cI, 120, .inl BE)), ((bd 8), .inl (cI, 128, .inl WA)), ((bd 9), .inl (cI, 30, .inl LE)), ((bd 10), .inl (cI, 30, .inl AA)), ((bd 11), .inl (cI, 30, .inl RI)), ((bd 12), .inl (cI, 10, .inl UN)), ((bd 13), .inl (cZ, 30, .inl CO))] H → va_D A [((bd 0), .inr (4, [.int th, .ref (bd 1), .ref (bd 2), .ref (bd 3), .ref (bd 4), .int (nI n), .ref (bd 5), .ref (bd 6), .ref (bd 7), .ref (bd 8), .ref (bd 9), .ref (bd 10), .ref (bd 11), .ref (bd 12), .ref (bd 13), .int (nI unk), .int (nI cnt)])), ((bd 1), .inl (cI, 120, .inl K)), ((bd 2), .inl (cI, 120, .inl F)), ((bd 3), .inl (cI, 120, .inl S)), ((bd 4), .inl (cI, 120, .inl DD)), ((bd 5), .inl (cI, 5, .inl NU)), ((bd 6), .inl (cI, 120, .inl VA)), ((bd 7), .inl (cI, 120, .inl BE)), ((bd 8), .inl (cI, 128, .inl WA)), ((bd 9), .inl (cI, 30, .inl LE)), ((bd 10), .inl (cI, 30, .inl AA)), ((bd 11), .inl (cI, 30, .inl RI)), ((bd 12), .inl (cI, 10, .inl UN)), ((bd 13), .inl (cZ, 30, .inl CO))] → va_S A H0 H locs → lv_has ls 4 [(0, .ref (bd 0)), (1, .int (nI i))] → W p l e (rmH 1 0 0) s m args below meth c H locs 0 0 Q (F0 m 2 ls []) := by
  obtain ⟨hx, hb, hr, hml, hown, htb, hlocks⟩ := id C0
  intro q
  induction q with
  | zero =>
    intro i VA hiV H locs ls hP hD hS hl
    obtain ⟨hi, hV⟩ := hiV
    refine lv_iload_n hx hb d_Mo_reckon_2 rfl (lv_at hl 1 rfl) ?_
    refine lv_aload_n hx hb d_Mo_reckon_3 rfl (lv_at hl 0 rfl) ?_
    refine va_get (D := (dC, dI)) (ci := 4) (v := .int (nI n)) (C := R_Mo) (T := F_Mo) (N := 17) hx hb htb ul_Mo hown hK hP 0 rfl rfl 5 (by decide) (htb _ mw_553) (fun _ h9 => h9) rfl d_Mo_reckon_4 ?_
    refine lv_icmp_ge (tgt := 163) hx hb d_Mo_reckon_7 (by decide) (fun c_7 => ?_) (fun c_7 => ?_)
    · exact KB VA H locs ls (fun z hz => hV z (by omega)) hP hD hS (lv_sub hl [0] rfl)
    · exact absurd ((nI_leI (a := n) (b := i) (by omega) (by omega)).mpr (by omega)) c_7
  | succ q ih =>
    intro i VA hiV H locs ls hP hD hS hl
    obtain ⟨hi, hV⟩ := hiV
    refine lv_iload_n hx hb d_Mo_reckon_2 rfl (lv_at hl 1 rfl) ?_
    refine lv_aload_n hx hb d_Mo_reckon_3 rfl (lv_at hl 0 rfl) ?_
    refine va_get (D := (dC, dI)) (ci := 4) (v := .int (nI n)) (C := R_Mo) (T := F_Mo) (N := 17) hx hb htb ul_Mo hown hK hP 0 rfl rfl 5 (by decide) (htb _ mw_553) (fun _ h9 => h9) rfl d_Mo_reckon_4 ?_
    refine lv_icmp_ge (tgt := 163) hx hb d_Mo_reckon_7 (by decide) (fun c_7 => ?_) (fun c_7 => ?_)
    · exact absurd ((nI_leI (a := n) (b := i) (by omega) (by omega)).mp c_7) (by omega)
    · have hri := hok.1.2.1 i (by omega)
      have hqi := hok.2.1 i (by omega)
      refine lv_aload_n hx hb d_Mo_reckon_10 rfl (lv_at hl 0 rfl) ?_
      refine va_get (D := (dC, dI)) (ci := 4) (v := .ref (bd 2)) (C := R_Mo) (T := F_Mo) (N := 17) hx hb htb ul_Mo hown hK hP 0 rfl rfl 2 (by decide) (htb _ mw_550) (fun _ h9 => h9) rfl d_Mo_reckon_11 ?_
      refine lv_iload_n hx hb d_Mo_reckon_14 rfl (lv_at hl 1 rfl) ?_
      refine ry_iald (D := (dC, dI)) (j := i) hx hb hK hP 2 0 rfl rfl (by omega) (by decide) d_Mo_reckon_15 ?_
      rw [hqi.2.1]
      refine lv_istore_n (lv' := [(2, .int (fF (nd i))), (0, .ref (bd 0)), (1, .int (nI i))]) hx hb d_Mo_reckon_16 rfl hl (by decide) rfl (fun ls hl => ?_)
      refine lv_aload_n hx hb d_Mo_reckon_17 rfl (lv_at hl 1 rfl) ?_
      refine va_get (D := (dC, dI)) (ci := 4) (v := .ref (bd 3)) (C := R_Mo) (T := F_Mo) (N := 17) hx hb htb ul_Mo hown hK hP 0 rfl rfl 3 (by decide) (htb _ mw_551) (fun _ h9 => h9) rfl d_Mo_reckon_18 ?_
      refine lv_iload_n hx hb d_Mo_reckon_21 rfl (lv_at hl 2 rfl) ?_
      refine ry_iald (D := (dC, dI)) (j := i) hx hb hK hP 3 0 rfl rfl (by omega) (by decide) d_Mo_reckon_22 ?_
      rw [hqi.2.2]
      refine lv_istore_n (lv' := [(3, .int (fS (nd i))), (2, .int (fF (nd i))), (0, .ref (bd 0)), (1, .int (nI i))]) hx hb d_Mo_reckon_23 rfl hl (by decide) rfl (fun ls hl => ?_)
      refine lv_aload_n hx hb d_Mo_reckon_24 rfl (lv_at hl 2 rfl) ?_
      refine va_get (D := (dC, dI)) (ci := 4) (v := .ref (bd 1)) (C := R_Mo) (T := F_Mo) (N := 17) hx hb htb ul_Mo hown hK hP 0 rfl rfl 1 (by decide) (htb _ mw_549) (fun _ h9 => h9) rfl d_Mo_reckon_25 ?_
      refine lv_iload_n hx hb d_Mo_reckon_28 rfl (lv_at hl 3 rfl) ?_
      refine ry_iald (D := (dC, dI)) (j := i) hx hb hK hP 1 0 rfl rfl (by omega) (by decide) d_Mo_reckon_29 ?_
      rw [hqi.1]
      rcases (show (nd i).1 = 0 ∨ (nd i).1 = 1 ∨ (nd i).1 = 2 ∨ (nd i).1 = 3 ∨ (nd i).1 = 4 by have := hri.1; omega) with hk | hk | hk | hk | hk
      · refine lv_tableIn (off := 26) (tgt := 56) hx hb d_Mo_reckon_30 (by rw [hk]; decide) (by rw [hk]; decide) (by rw [hk]; decide) (by decide) ?_
        refine lv_aload_n hx hb d_Mo_reckon_56 rfl (lv_at hl 2 rfl) ?_
        refine va_get (D := (dC, dI)) (ci := 4) (v := .ref (bd 6)) (C := R_Mo) (T := F_Mo) (N := 17) hx hb htb ul_Mo hown hK hP 0 rfl rfl 7 (by decide) (htb _ mw_555) (fun _ h9 => h9) rfl d_Mo_reckon_57 ?_
        refine lv_iload_n hx hb d_Mo_reckon_60 rfl (lv_at hl 3 rfl) ?_
        refine lv_iconst (v := 0) hx hb d_Mo_reckon_61 (by decide) ?_
        rw [show (0 : Int32) = nI (vl nu nd i) from by rw [vl_k0 hri hk]; rfl]
        refine ry_iast (D := (dC, dI)) (j := i) hx hb hK hP hD hS 6 0 rfl rfl (by omega) (by decide) d_Mo_reckon_62 (fun H locs hP hD hS => ?_)
        have hP : va_P (dC, dI) classes [((bd 0), .inr (4, [.int th, .ref (bd 1), .ref (bd 2), .ref (bd 3), .ref (bd 4), .int (nI n), .ref (bd 5), .ref (bd 6), .ref (bd 7), .ref (bd 8), .ref (bd 9), .ref (bd 10), .ref (bd 11), .ref (bd 12), .ref (bd 13), .int (nI unk), .int (nI cnt)])), ((bd 1), .inl (cI, 120, .inl K)), ((bd 2), .inl (cI, 120, .inl F)), ((bd 3), .inl (cI, 120, .inl S)), ((bd 4), .inl (cI, 120, .inl DD)), ((bd 5), .inl (cI, 5, .inl NU)), ((bd 6), .inl (cI, 120, .inl (upd VA i (nI (vl nu nd i))))), ((bd 7), .inl (cI, 120, .inl BE)), ((bd 8), .inl (cI, 128, .inl WA)), ((bd 9), .inl (cI, 30, .inl LE)), ((bd 10), .inl (cI, 30, .inl AA)), ((bd 11), .inl (cI, 30, .inl RI)), ((bd 12), .inl (cI, 10, .inl UN)), ((bd 13), .inl (cZ, 30, .inl CO))] H := hP
        have hD : va_D A [((bd 0), .inr (4, [.int th, .ref (bd 1), .ref (bd 2), .ref (bd 3), .ref (bd 4), .int (nI n), .ref (bd 5), .ref (bd 6), .ref (bd 7), .ref (bd 8), .ref (bd 9), .ref (bd 10), .ref (bd 11), .ref (bd 12), .ref (bd 13), .int (nI unk), .int (nI cnt)])), ((bd 1), .inl (cI, 120, .inl K)), ((bd 2), .inl (cI, 120, .inl F)), ((bd 3), .inl (cI, 120, .inl S)), ((bd 4), .inl (cI, 120, .inl DD)), ((bd 5), .inl (cI, 5, .inl NU)), ((bd 6), .inl (cI, 120, .inl (upd VA i (nI (vl nu nd i))))), ((bd 7), .inl (cI, 120, .inl BE)), ((bd 8), .inl (cI, 128, .inl WA)), ((bd 9), .inl (cI, 30, .inl LE)), ((bd 10), .inl (cI, 30, .inl AA)), ((bd 11), .inl (cI, 30, .inl RI)), ((bd 12), .inl (cI, 10, .inl UN)), ((bd 13), .inl (cZ, 30, .inl CO))] := hD
        refine lv_goto (tgt := 157) hx hb d_Mo_reckon_63 (by decide) ?_
        refine lv_iinc (v := (nI (i + 1))) (lv' := [(1, .int (nI (i + 1))), (3, .int (fS (nd i))), (2, .int (fF (nd i))), (0, .ref (bd 0))]) hx hb d_Mo_reckon_157 hl (k := 3) rfl (nI_1 _) (by decide) rfl (fun ls hl => ?_)
        refine lv_goto (tgt := 2) hx hb d_Mo_reckon_160 (by decide) ?_
        exact ih (i + 1) (upd VA i (nI (vl nu nd i))) ⟨by omega, up_lt (f := fun z => nI (vl nu nd z)) hV⟩ H locs ls hP hD hS (lv_sub hl [3, 0] rfl)
      · refine lv_tableIn (off := 36) (tgt := 66) hx hb d_Mo_reckon_30 (by rw [hk]; decide) (by rw [hk]; decide) (by rw [hk]; decide) (by decide) ?_
        rw [fF_n (by omega)] at hl
        have ha5 := hri.2.1 hk
        refine lv_aload_n hx hb d_Mo_reckon_66 rfl (lv_at hl 2 rfl) ?_
        refine va_get (D := (dC, dI)) (ci := 4) (v := .ref (bd 6)) (C := R_Mo) (T := F_Mo) (N := 17) hx hb htb ul_Mo hown hK hP 0 rfl rfl 7 (by decide) (htb _ mw_555) (fun _ h9 => h9) rfl d_Mo_reckon_67 ?_
        refine lv_iload_n hx hb d_Mo_reckon_70 rfl (lv_at hl 3 rfl) ?_
        refine lv_aload_n hx hb d_Mo_reckon_71 rfl (lv_at hl 2 rfl) ?_
        refine va_get (D := (dC, dI)) (ci := 4) (v := .ref (bd 5)) (C := R_Mo) (T := F_Mo) (N := 17) hx hb htb ul_Mo hown hK hP 0 rfl rfl 6 (by decide) (htb _ mw_554) (fun _ h9 => h9) rfl d_Mo_reckon_72 ?_
        refine lv_iload_n hx hb d_Mo_reckon_75 rfl (lv_at hl 1 rfl) ?_
        refine ry_iald (D := (dC, dI)) (j := (nd i).2.1) hx hb hK hP 5 0 rfl rfl (by omega) (by decide) d_Mo_reckon_76 ?_
        rw [hNU _ (hri.2.1 hk)]
        rw [show ((nI (nu (nd i).2.1)) : Int32) = nI (vl nu nd i) from by rw [vl_k1 hri hk]]
        refine ry_iast (D := (dC, dI)) (j := i) hx hb hK hP hD hS 6 0 rfl rfl (by omega) (by decide) d_Mo_reckon_77 (fun H locs hP hD hS => ?_)
        have hP : va_P (dC, dI) classes [((bd 0), .inr (4, [.int th, .ref (bd 1), .ref (bd 2), .ref (bd 3), .ref (bd 4), .int (nI n), .ref (bd 5), .ref (bd 6), .ref (bd 7), .ref (bd 8), .ref (bd 9), .ref (bd 10), .ref (bd 11), .ref (bd 12), .ref (bd 13), .int (nI unk), .int (nI cnt)])), ((bd 1), .inl (cI, 120, .inl K)), ((bd 2), .inl (cI, 120, .inl F)), ((bd 3), .inl (cI, 120, .inl S)), ((bd 4), .inl (cI, 120, .inl DD)), ((bd 5), .inl (cI, 5, .inl NU)), ((bd 6), .inl (cI, 120, .inl (upd VA i (nI (vl nu nd i))))), ((bd 7), .inl (cI, 120, .inl BE)), ((bd 8), .inl (cI, 128, .inl WA)), ((bd 9), .inl (cI, 30, .inl LE)), ((bd 10), .inl (cI, 30, .inl AA)), ((bd 11), .inl (cI, 30, .inl RI)), ((bd 12), .inl (cI, 10, .inl UN)), ((bd 13), .inl (cZ, 30, .inl CO))] H := hP
        have hD : va_D A [((bd 0), .inr (4, [.int th, .ref (bd 1), .ref (bd 2), .ref (bd 3), .ref (bd 4), .int (nI n), .ref (bd 5), .ref (bd 6), .ref (bd 7), .ref (bd 8), .ref (bd 9), .ref (bd 10), .ref (bd 11), .ref (bd 12), .ref (bd 13), .int (nI unk), .int (nI cnt)])), ((bd 1), .inl (cI, 120, .inl K)), ((bd 2), .inl (cI, 120, .inl F)), ((bd 3), .inl (cI, 120, .inl S)), ((bd 4), .inl (cI, 120, .inl DD)), ((bd 5), .inl (cI, 5, .inl NU)), ((bd 6), .inl (cI, 120, .inl (upd VA i (nI (vl nu nd i))))), ((bd 7), .inl (cI, 120, .inl BE)), ((bd 8), .inl (cI, 128, .inl WA)), ((bd 9), .inl (cI, 30, .inl LE)), ((bd 10), .inl (cI, 30, .inl AA)), ((bd 11), .inl (cI, 30, .inl RI)), ((bd 12), .inl (cI, 10, .inl UN)), ((bd 13), .inl (cZ, 30, .inl CO))] := hD
        refine lv_goto (tgt := 157) hx hb d_Mo_reckon_78 (by decide) ?_
        refine lv_iinc (v := (nI (i + 1))) (lv' := [(1, .int (nI (i + 1))), (3, .int (fS (nd i))), (2, .int (nI (nd i).2.1)), (0, .ref (bd 0))]) hx hb d_Mo_reckon_157 hl (k := 3) rfl (nI_1 _) (by decide) rfl (fun ls hl => ?_)
        refine lv_goto (tgt := 2) hx hb d_Mo_reckon_160 (by decide) ?_
        exact ih (i + 1) (upd VA i (nI (vl nu nd i))) ⟨by omega, up_lt (f := fun z => nI (vl nu nd z)) hV⟩ H locs ls hP hD hS (lv_sub hl [3, 0] rfl)
      · refine lv_tableIn (off := 51) (tgt := 81) hx hb d_Mo_reckon_30 (by rw [hk]; decide) (by rw [hk]; decide) (by rw [hk]; decide) (by decide) ?_
        rw [fF_n (by omega)] at hl
        have hai := hri.2.2.1 (by omega)
        have hVa := hV _ hai
        have hva := vl_nus hnu hok.1 (j := (nd i).2.1) (by omega)
        refine lv_aload_n hx hb d_Mo_reckon_81 rfl (lv_at hl 2 rfl) ?_
        refine va_get (D := (dC, dI)) (ci := 4) (v := .ref (bd 6)) (C := R_Mo) (T := F_Mo) (N := 17) hx hb htb ul_Mo hown hK hP 0 rfl rfl 7 (by decide) (htb _ mw_555) (fun _ h9 => h9) rfl d_Mo_reckon_82 ?_
        refine lv_iload_n hx hb d_Mo_reckon_85 rfl (lv_at hl 3 rfl) ?_
        refine lv_aload_n hx hb d_Mo_reckon_86 rfl (lv_at hl 2 rfl) ?_
        refine va_get (D := (dC, dI)) (ci := 4) (v := .ref (bd 6)) (C := R_Mo) (T := F_Mo) (N := 17) hx hb htb ul_Mo hown hK hP 0 rfl rfl 7 (by decide) (htb _ mw_555) (fun _ h9 => h9) rfl d_Mo_reckon_87 ?_
        refine lv_iload_n hx hb d_Mo_reckon_90 rfl (lv_at hl 1 rfl) ?_
        refine ry_iald (D := (dC, dI)) (j := (nd i).2.1) hx hb hK hP 6 0 rfl rfl (by omega) (by decide) d_Mo_reckon_91 ?_
        rw [hVa]
        refine lv_iconst (v := 1) hx hb d_Mo_reckon_92 (by decide) ?_
        refine lv_iadd hx hb d_Mo_reckon_93 ?_
        rw [show (((nI (vl nu nd (nd i).2.1)) + 1) : Int32) = nI (vl nu nd i) from by rw [vl_k2 hri hk]; exact nI_1 _]
        refine ry_iast (D := (dC, dI)) (j := i) hx hb hK hP hD hS 6 0 rfl rfl (by omega) (by decide) d_Mo_reckon_94 (fun H locs hP hD hS => ?_)
        have hP : va_P (dC, dI) classes [((bd 0), .inr (4, [.int th, .ref (bd 1), .ref (bd 2), .ref (bd 3), .ref (bd 4), .int (nI n), .ref (bd 5), .ref (bd 6), .ref (bd 7), .ref (bd 8), .ref (bd 9), .ref (bd 10), .ref (bd 11), .ref (bd 12), .ref (bd 13), .int (nI unk), .int (nI cnt)])), ((bd 1), .inl (cI, 120, .inl K)), ((bd 2), .inl (cI, 120, .inl F)), ((bd 3), .inl (cI, 120, .inl S)), ((bd 4), .inl (cI, 120, .inl DD)), ((bd 5), .inl (cI, 5, .inl NU)), ((bd 6), .inl (cI, 120, .inl (upd VA i (nI (vl nu nd i))))), ((bd 7), .inl (cI, 120, .inl BE)), ((bd 8), .inl (cI, 128, .inl WA)), ((bd 9), .inl (cI, 30, .inl LE)), ((bd 10), .inl (cI, 30, .inl AA)), ((bd 11), .inl (cI, 30, .inl RI)), ((bd 12), .inl (cI, 10, .inl UN)), ((bd 13), .inl (cZ, 30, .inl CO))] H := hP
        have hD : va_D A [((bd 0), .inr (4, [.int th, .ref (bd 1), .ref (bd 2), .ref (bd 3), .ref (bd 4), .int (nI n), .ref (bd 5), .ref (bd 6), .ref (bd 7), .ref (bd 8), .ref (bd 9), .ref (bd 10), .ref (bd 11), .ref (bd 12), .ref (bd 13), .int (nI unk), .int (nI cnt)])), ((bd 1), .inl (cI, 120, .inl K)), ((bd 2), .inl (cI, 120, .inl F)), ((bd 3), .inl (cI, 120, .inl S)), ((bd 4), .inl (cI, 120, .inl DD)), ((bd 5), .inl (cI, 5, .inl NU)), ((bd 6), .inl (cI, 120, .inl (upd VA i (nI (vl nu nd i))))), ((bd 7), .inl (cI, 120, .inl BE)), ((bd 8), .inl (cI, 128, .inl WA)), ((bd 9), .inl (cI, 30, .inl LE)), ((bd 10), .inl (cI, 30, .inl AA)), ((bd 11), .inl (cI, 30, .inl RI)), ((bd 12), .inl (cI, 10, .inl UN)), ((bd 13), .inl (cZ, 30, .inl CO))] := hD
        refine lv_goto (tgt := 157) hx hb d_Mo_reckon_95 (by decide) ?_
        refine lv_iinc (v := (nI (i + 1))) (lv' := [(1, .int (nI (i + 1))), (3, .int (fS (nd i))), (2, .int (nI (nd i).2.1)), (0, .ref (bd 0))]) hx hb d_Mo_reckon_157 hl (k := 3) rfl (nI_1 _) (by decide) rfl (fun ls hl => ?_)
        refine lv_goto (tgt := 2) hx hb d_Mo_reckon_160 (by decide) ?_
        exact ih (i + 1) (upd VA i (nI (vl nu nd i))) ⟨by omega, up_lt (f := fun z => nI (vl nu nd z)) hV⟩ H locs ls hP hD hS (lv_sub hl [3, 0] rfl)
      · refine lv_tableOut (tgt := 98) hx hb d_Mo_reckon_30 (by rw [hk]; decide) (by decide) ?_
        rw [fF_n (by omega)] at hl
        have hai := hri.2.2.1 (by omega)
        have hVa := hV _ hai
        have hva := vl_nus hnu hok.1 (j := (nd i).2.1) (by omega)
        rw [fS_n (by omega)] at hl
        have hbi := hri.2.2.2.1 (by omega)
        have hVb := hV _ hbi
        have hvb := vl_nus hnu hok.1 (j := (nd i).2.2) (by omega)
        refine lv_aload_n hx hb d_Mo_reckon_98 rfl (lv_at hl 2 rfl) ?_
        refine va_get (D := (dC, dI)) (ci := 4) (v := .ref (bd 6)) (C := R_Mo) (T := F_Mo) (N := 17) hx hb htb ul_Mo hown hK hP 0 rfl rfl 7 (by decide) (htb _ mw_555) (fun _ h9 => h9) rfl d_Mo_reckon_99 ?_
        refine lv_iload_n hx hb d_Mo_reckon_102 rfl (lv_at hl 3 rfl) ?_
        refine lv_aload_n hx hb d_Mo_reckon_103 rfl (lv_at hl 2 rfl) ?_
        refine va_get (D := (dC, dI)) (ci := 4) (v := .ref (bd 1)) (C := R_Mo) (T := F_Mo) (N := 17) hx hb htb ul_Mo hown hK hP 0 rfl rfl 1 (by decide) (htb _ mw_549) (fun _ h9 => h9) rfl d_Mo_reckon_104 ?_
        refine lv_iload_n hx hb d_Mo_reckon_107 rfl (lv_at hl 3 rfl) ?_
        refine ry_iald (D := (dC, dI)) (j := i) hx hb hK hP 1 0 rfl rfl (by omega) (by decide) d_Mo_reckon_108 ?_
        rw [hqi.1]
        refine lv_iconst (v := 4) hx hb d_Mo_reckon_109 (by decide) ?_
        refine lv_icmp_ne (tgt := 126) hx hb d_Mo_reckon_110 (by decide) (fun c_110 => ?_) (fun c_110 => ?_)
        · refine lv_aload_n hx hb d_Mo_reckon_126 rfl (lv_at hl 2 rfl) ?_
          refine va_get (D := (dC, dI)) (ci := 4) (v := .ref (bd 6)) (C := R_Mo) (T := F_Mo) (N := 17) hx hb htb ul_Mo hown hK hP 0 rfl rfl 7 (by decide) (htb _ mw_555) (fun _ h9 => h9) rfl d_Mo_reckon_127 ?_
          refine lv_iload_n hx hb d_Mo_reckon_130 rfl (lv_at hl 1 rfl) ?_
          refine ry_iald (D := (dC, dI)) (j := (nd i).2.1) hx hb hK hP 6 0 rfl rfl (by omega) (by decide) d_Mo_reckon_131 ?_
          rw [hVa]
          refine lv_aload_n hx hb d_Mo_reckon_132 rfl (lv_at hl 2 rfl) ?_
          refine va_get (D := (dC, dI)) (ci := 4) (v := .ref (bd 6)) (C := R_Mo) (T := F_Mo) (N := 17) hx hb htb ul_Mo hown hK hP 0 rfl rfl 7 (by decide) (htb _ mw_555) (fun _ h9 => h9) rfl d_Mo_reckon_133 ?_
          refine lv_iload_n hx hb d_Mo_reckon_136 rfl (lv_at hl 0 rfl) ?_
          refine ry_iald (D := (dC, dI)) (j := (nd i).2.2) hx hb hK hP 6 0 rfl rfl (by omega) (by decide) d_Mo_reckon_137 ?_
          rw [hVb]
          refine lv_icmp_le (tgt := 150) hx hb d_Mo_reckon_138 (by decide) (fun c_138 => ?_) (fun c_138 => ?_)
          · refine lv_aload_n hx hb d_Mo_reckon_150 rfl (lv_at hl 2 rfl) ?_
            refine va_get (D := (dC, dI)) (ci := 4) (v := .ref (bd 6)) (C := R_Mo) (T := F_Mo) (N := 17) hx hb htb ul_Mo hown hK hP 0 rfl rfl 7 (by decide) (htb _ mw_555) (fun _ h9 => h9) rfl d_Mo_reckon_151 ?_
            refine lv_iload_n hx hb d_Mo_reckon_154 rfl (lv_at hl 0 rfl) ?_
            refine ry_iald (D := (dC, dI)) (j := (nd i).2.2) hx hb hK hP 6 0 rfl rfl (by omega) (by decide) d_Mo_reckon_155 ?_
            rw [hVb]
            rw [show ((nI (vl nu nd (nd i).2.2)) : Int32) = nI (vl nu nd i) from by rw [vl_k3 hri hk]; rw [Nat.max_eq_right ((nI_leI (by omega) (by omega)).mp c_138)]]
            refine ry_iast (D := (dC, dI)) (j := i) hx hb hK hP hD hS 6 0 rfl rfl (by omega) (by decide) d_Mo_reckon_156 (fun H locs hP hD hS => ?_)
            have hP : va_P (dC, dI) classes [((bd 0), .inr (4, [.int th, .ref (bd 1), .ref (bd 2), .ref (bd 3), .ref (bd 4), .int (nI n), .ref (bd 5), .ref (bd 6), .ref (bd 7), .ref (bd 8), .ref (bd 9), .ref (bd 10), .ref (bd 11), .ref (bd 12), .ref (bd 13), .int (nI unk), .int (nI cnt)])), ((bd 1), .inl (cI, 120, .inl K)), ((bd 2), .inl (cI, 120, .inl F)), ((bd 3), .inl (cI, 120, .inl S)), ((bd 4), .inl (cI, 120, .inl DD)), ((bd 5), .inl (cI, 5, .inl NU)), ((bd 6), .inl (cI, 120, .inl (upd VA i (nI (vl nu nd i))))), ((bd 7), .inl (cI, 120, .inl BE)), ((bd 8), .inl (cI, 128, .inl WA)), ((bd 9), .inl (cI, 30, .inl LE)), ((bd 10), .inl (cI, 30, .inl AA)), ((bd 11), .inl (cI, 30, .inl RI)), ((bd 12), .inl (cI, 10, .inl UN)), ((bd 13), .inl (cZ, 30, .inl CO))] H := hP
            have hD : va_D A [((bd 0), .inr (4, [.int th, .ref (bd 1), .ref (bd 2), .ref (bd 3), .ref (bd 4), .int (nI n), .ref (bd 5), .ref (bd 6), .ref (bd 7), .ref (bd 8), .ref (bd 9), .ref (bd 10), .ref (bd 11), .ref (bd 12), .ref (bd 13), .int (nI unk), .int (nI cnt)])), ((bd 1), .inl (cI, 120, .inl K)), ((bd 2), .inl (cI, 120, .inl F)), ((bd 3), .inl (cI, 120, .inl S)), ((bd 4), .inl (cI, 120, .inl DD)), ((bd 5), .inl (cI, 5, .inl NU)), ((bd 6), .inl (cI, 120, .inl (upd VA i (nI (vl nu nd i))))), ((bd 7), .inl (cI, 120, .inl BE)), ((bd 8), .inl (cI, 128, .inl WA)), ((bd 9), .inl (cI, 30, .inl LE)), ((bd 10), .inl (cI, 30, .inl AA)), ((bd 11), .inl (cI, 30, .inl RI)), ((bd 12), .inl (cI, 10, .inl UN)), ((bd 13), .inl (cZ, 30, .inl CO))] := hD
            refine lv_iinc (v := (nI (i + 1))) (lv' := [(1, .int (nI (i + 1))), (3, .int (nI (nd i).2.2)), (2, .int (nI (nd i).2.1)), (0, .ref (bd 0))]) hx hb d_Mo_reckon_157 hl (k := 3) rfl (nI_1 _) (by decide) rfl (fun ls hl => ?_)
            refine lv_goto (tgt := 2) hx hb d_Mo_reckon_160 (by decide) ?_
            exact ih (i + 1) (upd VA i (nI (vl nu nd i))) ⟨by omega, up_lt (f := fun z => nI (vl nu nd z)) hV⟩ H locs ls hP hD hS (lv_sub hl [3, 0] rfl)
          · refine lv_aload_n hx hb d_Mo_reckon_141 rfl (lv_at hl 2 rfl) ?_
            refine va_get (D := (dC, dI)) (ci := 4) (v := .ref (bd 6)) (C := R_Mo) (T := F_Mo) (N := 17) hx hb htb ul_Mo hown hK hP 0 rfl rfl 7 (by decide) (htb _ mw_555) (fun _ h9 => h9) rfl d_Mo_reckon_142 ?_
            refine lv_iload_n hx hb d_Mo_reckon_145 rfl (lv_at hl 1 rfl) ?_
            refine ry_iald (D := (dC, dI)) (j := (nd i).2.1) hx hb hK hP 6 0 rfl rfl (by omega) (by decide) d_Mo_reckon_146 ?_
            rw [hVa]
            refine lv_goto (tgt := 156) hx hb d_Mo_reckon_147 (by decide) ?_
            rw [show ((nI (vl nu nd (nd i).2.1)) : Int32) = nI (vl nu nd i) from by rw [vl_k3 hri hk]; rw [Nat.max_eq_left (Nat.le_of_not_le fun z => c_138 ((nI_leI (by omega) (by omega)).mpr z))]]
            refine ry_iast (D := (dC, dI)) (j := i) hx hb hK hP hD hS 6 0 rfl rfl (by omega) (by decide) d_Mo_reckon_156 (fun H locs hP hD hS => ?_)
            have hP : va_P (dC, dI) classes [((bd 0), .inr (4, [.int th, .ref (bd 1), .ref (bd 2), .ref (bd 3), .ref (bd 4), .int (nI n), .ref (bd 5), .ref (bd 6), .ref (bd 7), .ref (bd 8), .ref (bd 9), .ref (bd 10), .ref (bd 11), .ref (bd 12), .ref (bd 13), .int (nI unk), .int (nI cnt)])), ((bd 1), .inl (cI, 120, .inl K)), ((bd 2), .inl (cI, 120, .inl F)), ((bd 3), .inl (cI, 120, .inl S)), ((bd 4), .inl (cI, 120, .inl DD)), ((bd 5), .inl (cI, 5, .inl NU)), ((bd 6), .inl (cI, 120, .inl (upd VA i (nI (vl nu nd i))))), ((bd 7), .inl (cI, 120, .inl BE)), ((bd 8), .inl (cI, 128, .inl WA)), ((bd 9), .inl (cI, 30, .inl LE)), ((bd 10), .inl (cI, 30, .inl AA)), ((bd 11), .inl (cI, 30, .inl RI)), ((bd 12), .inl (cI, 10, .inl UN)), ((bd 13), .inl (cZ, 30, .inl CO))] H := hP
            have hD : va_D A [((bd 0), .inr (4, [.int th, .ref (bd 1), .ref (bd 2), .ref (bd 3), .ref (bd 4), .int (nI n), .ref (bd 5), .ref (bd 6), .ref (bd 7), .ref (bd 8), .ref (bd 9), .ref (bd 10), .ref (bd 11), .ref (bd 12), .ref (bd 13), .int (nI unk), .int (nI cnt)])), ((bd 1), .inl (cI, 120, .inl K)), ((bd 2), .inl (cI, 120, .inl F)), ((bd 3), .inl (cI, 120, .inl S)), ((bd 4), .inl (cI, 120, .inl DD)), ((bd 5), .inl (cI, 5, .inl NU)), ((bd 6), .inl (cI, 120, .inl (upd VA i (nI (vl nu nd i))))), ((bd 7), .inl (cI, 120, .inl BE)), ((bd 8), .inl (cI, 128, .inl WA)), ((bd 9), .inl (cI, 30, .inl LE)), ((bd 10), .inl (cI, 30, .inl AA)), ((bd 11), .inl (cI, 30, .inl RI)), ((bd 12), .inl (cI, 10, .inl UN)), ((bd 13), .inl (cZ, 30, .inl CO))] := hD
            refine lv_iinc (v := (nI (i + 1))) (lv' := [(1, .int (nI (i + 1))), (3, .int (nI (nd i).2.2)), (2, .int (nI (nd i).2.1)), (0, .ref (bd 0))]) hx hb d_Mo_reckon_157 hl (k := 3) rfl (nI_1 _) (by decide) rfl (fun ls hl => ?_)
            refine lv_goto (tgt := 2) hx hb d_Mo_reckon_160 (by decide) ?_
            exact ih (i + 1) (upd VA i (nI (vl nu nd i))) ⟨by omega, up_lt (f := fun z => nI (vl nu nd z)) hV⟩ H locs ls hP hD hS (lv_sub hl [3, 0] rfl)
        · exact absurd ((nI_eq (b := 4) (by omega) (by decide)).mp c_110) (by omega)
      · refine lv_tableOut (tgt := 98) hx hb d_Mo_reckon_30 (by rw [hk]; decide) (by decide) ?_
        rw [fF_n (by omega)] at hl
        have hai := hri.2.2.1 (by omega)
        have hVa := hV _ hai
        have hva := vl_nus hnu hok.1 (j := (nd i).2.1) (by omega)
        rw [fS_n (by omega)] at hl
        have hbi := hri.2.2.2.1 (by omega)
        have hVb := hV _ hbi
        have hvb := vl_nus hnu hok.1 (j := (nd i).2.2) (by omega)
        refine lv_aload_n hx hb d_Mo_reckon_98 rfl (lv_at hl 2 rfl) ?_
        refine va_get (D := (dC, dI)) (ci := 4) (v := .ref (bd 6)) (C := R_Mo) (T := F_Mo) (N := 17) hx hb htb ul_Mo hown hK hP 0 rfl rfl 7 (by decide) (htb _ mw_555) (fun _ h9 => h9) rfl d_Mo_reckon_99 ?_
        refine lv_iload_n hx hb d_Mo_reckon_102 rfl (lv_at hl 3 rfl) ?_
        refine lv_aload_n hx hb d_Mo_reckon_103 rfl (lv_at hl 2 rfl) ?_
        refine va_get (D := (dC, dI)) (ci := 4) (v := .ref (bd 1)) (C := R_Mo) (T := F_Mo) (N := 17) hx hb htb ul_Mo hown hK hP 0 rfl rfl 1 (by decide) (htb _ mw_549) (fun _ h9 => h9) rfl d_Mo_reckon_104 ?_
        refine lv_iload_n hx hb d_Mo_reckon_107 rfl (lv_at hl 3 rfl) ?_
        refine ry_iald (D := (dC, dI)) (j := i) hx hb hK hP 1 0 rfl rfl (by omega) (by decide) d_Mo_reckon_108 ?_
        rw [hqi.1]
        refine lv_iconst (v := 4) hx hb d_Mo_reckon_109 (by decide) ?_
        refine lv_icmp_ne (tgt := 126) hx hb d_Mo_reckon_110 (by decide) (fun c_110 => ?_) (fun c_110 => ?_)
        · exact absurd (by rw [hk]; rfl) c_110
        · refine lv_aload_n hx hb d_Mo_reckon_113 rfl (lv_at hl 2 rfl) ?_
          refine va_get (D := (dC, dI)) (ci := 4) (v := .ref (bd 6)) (C := R_Mo) (T := F_Mo) (N := 17) hx hb htb ul_Mo hown hK hP 0 rfl rfl 7 (by decide) (htb _ mw_555) (fun _ h9 => h9) rfl d_Mo_reckon_114 ?_
          refine lv_iload_n hx hb d_Mo_reckon_117 rfl (lv_at hl 0 rfl) ?_
          refine ry_iald (D := (dC, dI)) (j := (nd i).2.2) hx hb hK hP 6 0 rfl rfl (by omega) (by decide) d_Mo_reckon_118 ?_
          rw [hVb]
          refine lv_if_ne (tgt := 126) hx hb d_Mo_reckon_119 (by decide) (fun c_119 => ?_) (fun c_119 => ?_)
          · refine lv_aload_n hx hb d_Mo_reckon_126 rfl (lv_at hl 2 rfl) ?_
            refine va_get (D := (dC, dI)) (ci := 4) (v := .ref (bd 6)) (C := R_Mo) (T := F_Mo) (N := 17) hx hb htb ul_Mo hown hK hP 0 rfl rfl 7 (by decide) (htb _ mw_555) (fun _ h9 => h9) rfl d_Mo_reckon_127 ?_
            refine lv_iload_n hx hb d_Mo_reckon_130 rfl (lv_at hl 1 rfl) ?_
            refine ry_iald (D := (dC, dI)) (j := (nd i).2.1) hx hb hK hP 6 0 rfl rfl (by omega) (by decide) d_Mo_reckon_131 ?_
            rw [hVa]
            refine lv_aload_n hx hb d_Mo_reckon_132 rfl (lv_at hl 2 rfl) ?_
            refine va_get (D := (dC, dI)) (ci := 4) (v := .ref (bd 6)) (C := R_Mo) (T := F_Mo) (N := 17) hx hb htb ul_Mo hown hK hP 0 rfl rfl 7 (by decide) (htb _ mw_555) (fun _ h9 => h9) rfl d_Mo_reckon_133 ?_
            refine lv_iload_n hx hb d_Mo_reckon_136 rfl (lv_at hl 0 rfl) ?_
            refine ry_iald (D := (dC, dI)) (j := (nd i).2.2) hx hb hK hP 6 0 rfl rfl (by omega) (by decide) d_Mo_reckon_137 ?_
            rw [hVb]
            refine lv_icmp_le (tgt := 150) hx hb d_Mo_reckon_138 (by decide) (fun c_138 => ?_) (fun c_138 => ?_)
            · refine lv_aload_n hx hb d_Mo_reckon_150 rfl (lv_at hl 2 rfl) ?_
              refine va_get (D := (dC, dI)) (ci := 4) (v := .ref (bd 6)) (C := R_Mo) (T := F_Mo) (N := 17) hx hb htb ul_Mo hown hK hP 0 rfl rfl 7 (by decide) (htb _ mw_555) (fun _ h9 => h9) rfl d_Mo_reckon_151 ?_
              refine lv_iload_n hx hb d_Mo_reckon_154 rfl (lv_at hl 0 rfl) ?_
              refine ry_iald (D := (dC, dI)) (j := (nd i).2.2) hx hb hK hP 6 0 rfl rfl (by omega) (by decide) d_Mo_reckon_155 ?_
              rw [hVb]
              rw [show ((nI (vl nu nd (nd i).2.2)) : Int32) = nI (vl nu nd i) from by rw [vl_k4 hri hk, if_neg (fun z => c_119 (by rw [z]; rfl))]; rw [Nat.max_eq_right ((nI_leI (by omega) (by omega)).mp c_138)]]
              refine ry_iast (D := (dC, dI)) (j := i) hx hb hK hP hD hS 6 0 rfl rfl (by omega) (by decide) d_Mo_reckon_156 (fun H locs hP hD hS => ?_)
              have hP : va_P (dC, dI) classes [((bd 0), .inr (4, [.int th, .ref (bd 1), .ref (bd 2), .ref (bd 3), .ref (bd 4), .int (nI n), .ref (bd 5), .ref (bd 6), .ref (bd 7), .ref (bd 8), .ref (bd 9), .ref (bd 10), .ref (bd 11), .ref (bd 12), .ref (bd 13), .int (nI unk), .int (nI cnt)])), ((bd 1), .inl (cI, 120, .inl K)), ((bd 2), .inl (cI, 120, .inl F)), ((bd 3), .inl (cI, 120, .inl S)), ((bd 4), .inl (cI, 120, .inl DD)), ((bd 5), .inl (cI, 5, .inl NU)), ((bd 6), .inl (cI, 120, .inl (upd VA i (nI (vl nu nd i))))), ((bd 7), .inl (cI, 120, .inl BE)), ((bd 8), .inl (cI, 128, .inl WA)), ((bd 9), .inl (cI, 30, .inl LE)), ((bd 10), .inl (cI, 30, .inl AA)), ((bd 11), .inl (cI, 30, .inl RI)), ((bd 12), .inl (cI, 10, .inl UN)), ((bd 13), .inl (cZ, 30, .inl CO))] H := hP
              have hD : va_D A [((bd 0), .inr (4, [.int th, .ref (bd 1), .ref (bd 2), .ref (bd 3), .ref (bd 4), .int (nI n), .ref (bd 5), .ref (bd 6), .ref (bd 7), .ref (bd 8), .ref (bd 9), .ref (bd 10), .ref (bd 11), .ref (bd 12), .ref (bd 13), .int (nI unk), .int (nI cnt)])), ((bd 1), .inl (cI, 120, .inl K)), ((bd 2), .inl (cI, 120, .inl F)), ((bd 3), .inl (cI, 120, .inl S)), ((bd 4), .inl (cI, 120, .inl DD)), ((bd 5), .inl (cI, 5, .inl NU)), ((bd 6), .inl (cI, 120, .inl (upd VA i (nI (vl nu nd i))))), ((bd 7), .inl (cI, 120, .inl BE)), ((bd 8), .inl (cI, 128, .inl WA)), ((bd 9), .inl (cI, 30, .inl LE)), ((bd 10), .inl (cI, 30, .inl AA)), ((bd 11), .inl (cI, 30, .inl RI)), ((bd 12), .inl (cI, 10, .inl UN)), ((bd 13), .inl (cZ, 30, .inl CO))] := hD
              refine lv_iinc (v := (nI (i + 1))) (lv' := [(1, .int (nI (i + 1))), (3, .int (nI (nd i).2.2)), (2, .int (nI (nd i).2.1)), (0, .ref (bd 0))]) hx hb d_Mo_reckon_157 hl (k := 3) rfl (nI_1 _) (by decide) rfl (fun ls hl => ?_)
              refine lv_goto (tgt := 2) hx hb d_Mo_reckon_160 (by decide) ?_
              exact ih (i + 1) (upd VA i (nI (vl nu nd i))) ⟨by omega, up_lt (f := fun z => nI (vl nu nd z)) hV⟩ H locs ls hP hD hS (lv_sub hl [3, 0] rfl)
            · refine lv_aload_n hx hb d_Mo_reckon_141 rfl (lv_at hl 2 rfl) ?_
              refine va_get (D := (dC, dI)) (ci := 4) (v := .ref (bd 6)) (C := R_Mo) (T := F_Mo) (N := 17) hx hb htb ul_Mo hown hK hP 0 rfl rfl 7 (by decide) (htb _ mw_555) (fun _ h9 => h9) rfl d_Mo_reckon_142 ?_
              refine lv_iload_n hx hb d_Mo_reckon_145 rfl (lv_at hl 1 rfl) ?_
              refine ry_iald (D := (dC, dI)) (j := (nd i).2.1) hx hb hK hP 6 0 rfl rfl (by omega) (by decide) d_Mo_reckon_146 ?_
              rw [hVa]
              refine lv_goto (tgt := 156) hx hb d_Mo_reckon_147 (by decide) ?_
              rw [show ((nI (vl nu nd (nd i).2.1)) : Int32) = nI (vl nu nd i) from by rw [vl_k4 hri hk, if_neg (fun z => c_119 (by rw [z]; rfl))]; rw [Nat.max_eq_left (Nat.le_of_not_le fun z => c_138 ((nI_leI (by omega) (by omega)).mpr z))]]
              refine ry_iast (D := (dC, dI)) (j := i) hx hb hK hP hD hS 6 0 rfl rfl (by omega) (by decide) d_Mo_reckon_156 (fun H locs hP hD hS => ?_)
              have hP : va_P (dC, dI) classes [((bd 0), .inr (4, [.int th, .ref (bd 1), .ref (bd 2), .ref (bd 3), .ref (bd 4), .int (nI n), .ref (bd 5), .ref (bd 6), .ref (bd 7), .ref (bd 8), .ref (bd 9), .ref (bd 10), .ref (bd 11), .ref (bd 12), .ref (bd 13), .int (nI unk), .int (nI cnt)])), ((bd 1), .inl (cI, 120, .inl K)), ((bd 2), .inl (cI, 120, .inl F)), ((bd 3), .inl (cI, 120, .inl S)), ((bd 4), .inl (cI, 120, .inl DD)), ((bd 5), .inl (cI, 5, .inl NU)), ((bd 6), .inl (cI, 120, .inl (upd VA i (nI (vl nu nd i))))), ((bd 7), .inl (cI, 120, .inl BE)), ((bd 8), .inl (cI, 128, .inl WA)), ((bd 9), .inl (cI, 30, .inl LE)), ((bd 10), .inl (cI, 30, .inl AA)), ((bd 11), .inl (cI, 30, .inl RI)), ((bd 12), .inl (cI, 10, .inl UN)), ((bd 13), .inl (cZ, 30, .inl CO))] H := hP
              have hD : va_D A [((bd 0), .inr (4, [.int th, .ref (bd 1), .ref (bd 2), .ref (bd 3), .ref (bd 4), .int (nI n), .ref (bd 5), .ref (bd 6), .ref (bd 7), .ref (bd 8), .ref (bd 9), .ref (bd 10), .ref (bd 11), .ref (bd 12), .ref (bd 13), .int (nI unk), .int (nI cnt)])), ((bd 1), .inl (cI, 120, .inl K)), ((bd 2), .inl (cI, 120, .inl F)), ((bd 3), .inl (cI, 120, .inl S)), ((bd 4), .inl (cI, 120, .inl DD)), ((bd 5), .inl (cI, 5, .inl NU)), ((bd 6), .inl (cI, 120, .inl (upd VA i (nI (vl nu nd i))))), ((bd 7), .inl (cI, 120, .inl BE)), ((bd 8), .inl (cI, 128, .inl WA)), ((bd 9), .inl (cI, 30, .inl LE)), ((bd 10), .inl (cI, 30, .inl AA)), ((bd 11), .inl (cI, 30, .inl RI)), ((bd 12), .inl (cI, 10, .inl UN)), ((bd 13), .inl (cZ, 30, .inl CO))] := hD
              refine lv_iinc (v := (nI (i + 1))) (lv' := [(1, .int (nI (i + 1))), (3, .int (nI (nd i).2.2)), (2, .int (nI (nd i).2.1)), (0, .ref (bd 0))]) hx hb d_Mo_reckon_157 hl (k := 3) rfl (nI_1 _) (by decide) rfl (fun ls hl => ?_)
              refine lv_goto (tgt := 2) hx hb d_Mo_reckon_160 (by decide) ?_
              exact ih (i + 1) (upd VA i (nI (vl nu nd i))) ⟨by omega, up_lt (f := fun z => nI (vl nu nd z)) hV⟩ H locs ls hP hD hS (lv_sub hl [3, 0] rfl)
          · refine lv_iconst (v := 0) hx hb d_Mo_reckon_122 (by decide) ?_
            refine lv_goto (tgt := 156) hx hb d_Mo_reckon_123 (by decide) ?_
            rw [show (0 : Int32) = nI (vl nu nd i) from by rw [vl_k4 hri hk, if_pos ((nI_eq (b := 0) (by omega) (by decide)).mp c_119)]; rfl]
            refine ry_iast (D := (dC, dI)) (j := i) hx hb hK hP hD hS 6 0 rfl rfl (by omega) (by decide) d_Mo_reckon_156 (fun H locs hP hD hS => ?_)
            have hP : va_P (dC, dI) classes [((bd 0), .inr (4, [.int th, .ref (bd 1), .ref (bd 2), .ref (bd 3), .ref (bd 4), .int (nI n), .ref (bd 5), .ref (bd 6), .ref (bd 7), .ref (bd 8), .ref (bd 9), .ref (bd 10), .ref (bd 11), .ref (bd 12), .ref (bd 13), .int (nI unk), .int (nI cnt)])), ((bd 1), .inl (cI, 120, .inl K)), ((bd 2), .inl (cI, 120, .inl F)), ((bd 3), .inl (cI, 120, .inl S)), ((bd 4), .inl (cI, 120, .inl DD)), ((bd 5), .inl (cI, 5, .inl NU)), ((bd 6), .inl (cI, 120, .inl (upd VA i (nI (vl nu nd i))))), ((bd 7), .inl (cI, 120, .inl BE)), ((bd 8), .inl (cI, 128, .inl WA)), ((bd 9), .inl (cI, 30, .inl LE)), ((bd 10), .inl (cI, 30, .inl AA)), ((bd 11), .inl (cI, 30, .inl RI)), ((bd 12), .inl (cI, 10, .inl UN)), ((bd 13), .inl (cZ, 30, .inl CO))] H := hP
            have hD : va_D A [((bd 0), .inr (4, [.int th, .ref (bd 1), .ref (bd 2), .ref (bd 3), .ref (bd 4), .int (nI n), .ref (bd 5), .ref (bd 6), .ref (bd 7), .ref (bd 8), .ref (bd 9), .ref (bd 10), .ref (bd 11), .ref (bd 12), .ref (bd 13), .int (nI unk), .int (nI cnt)])), ((bd 1), .inl (cI, 120, .inl K)), ((bd 2), .inl (cI, 120, .inl F)), ((bd 3), .inl (cI, 120, .inl S)), ((bd 4), .inl (cI, 120, .inl DD)), ((bd 5), .inl (cI, 5, .inl NU)), ((bd 6), .inl (cI, 120, .inl (upd VA i (nI (vl nu nd i))))), ((bd 7), .inl (cI, 120, .inl BE)), ((bd 8), .inl (cI, 128, .inl WA)), ((bd 9), .inl (cI, 30, .inl LE)), ((bd 10), .inl (cI, 30, .inl AA)), ((bd 11), .inl (cI, 30, .inl RI)), ((bd 12), .inl (cI, 10, .inl UN)), ((bd 13), .inl (cZ, 30, .inl CO))] := hD
            refine lv_iinc (v := (nI (i + 1))) (lv' := [(1, .int (nI (i + 1))), (3, .int (nI (nd i).2.2)), (2, .int (nI (nd i).2.1)), (0, .ref (bd 0))]) hx hb d_Mo_reckon_157 hl (k := 3) rfl (nI_1 _) (by decide) rfl (fun ls hl => ?_)
            refine lv_goto (tgt := 2) hx hb d_Mo_reckon_160 (by decide) ?_
            exact ih (i + 1) (upd VA i (nI (vl nu nd i))) ⟨by omega, up_lt (f := fun z => nI (vl nu nd z)) hV⟩ H locs ls hP hD hS (lv_sub hl [3, 0] rfl)

set_option maxHeartbeats 4000000 in
set_option maxRecDepth 100000 in
theorem c_Mo_reckon (l : Launch) (dC : Nat → ClassId) (dI : Nat → Nat → Nat) (cI cL cZ : ClassId) (bd : Nat → Nat) (th : Int32) (K F S DD : Nat → Int32) (n : Nat) (NU VA BE WA LE AA RI UN CO : Nat → Int32) (unk cnt : Nat) (hn : n ≤ 120) (hunk : unk ≤ 10) (hcnt : cnt ≤ 30) (nd : Nat → Nat × Nat × Nat) (hok : MoOk nd n K F S DD) (nu : Nat → Nat) (hnu : nus nu) (hNU : ∀ a, a < 5 → NU a = nI (nu a)) (sz : Nat) : Met l y_Mo_reckon (cw_Mo_reckon :: tb) (rmH 1 0 0) (va_Pc [.ref (bd 0)] (wy_P (dC, dI) classes (wMo cI cZ bd th K F S DD n NU VA BE WA LE AA RI UN CO unk cnt) (tyI cI cL cZ) sz)) (wy_Q ry_v (fun _ (u : Nat → Int32) => ∀ z, z < n → u z = nI (vl nu nd z)) (wy_B (dC, dI) classes (tyI cI cL cZ) (va_A (wMo cI cZ bd th K F S DD n NU VA BE WA LE AA RI UN CO unk cnt) sz) (fun u : Nat → Int32 => (wMo cI cZ bd th K F S DD n NU u BE WA LE AA RI UN CO unk cnt))) (va_A (wMo cI cZ bd th K F S DD n NU VA BE WA LE AA RI UN CO unk cnt) sz)) 0 0 (va_A (wMo cI cZ bd th K F S DD n NU VA BE WA LE AA RI UN CO unk cnt) sz) := by
  refine Met.ofW (cc := b_Mo_reckon) (maxL := 4) (ret := none) (by decide +kernel) rfl ?_
  intro p e s m args below meth c s₁ B hml0 hv
  have C0 := cx_of B hml0 rfl
  obtain ⟨hx, hb, hr, hml, hown, htb, hlocks⟩ := id C0
  obtain ⟨rfl, hsz, hP, hK, hD0⟩ := hv
  subst hsz
  have hD := hD0.self (sz := s.heap.size)
  generalize hAe : va_A (wMo cI cZ bd th K F S DD n NU VA BE WA LE AA RI UN CO unk cnt) s.heap.size = A at hD ⊢
  have hA : ∀ q : Nat, s.heap.size ≤ q → A q := fun q h => by rw [← hAe]; exact Or.inr h
  have hS : va_S A s.heap s.heap [] := va_S.rf
  have hl := lv_entry ([.ref (bd 0)]) (n := 4) (Nat.le_of_ble_eq_true rfl)
  rw [lg_entry_eq]
  generalize (lg_sl ([.ref (bd 0)]) ++ List.replicate (4 - (lg_sl ([.ref (bd 0)])).length) Slot.unset).toArray = ls at hl ⊢
  have hl : lv_has ls 4 [(0, .ref (bd 0))] := hl
  have hP : va_P (dC, dI) classes [((bd 0), .inr (4, [.int th, .ref (bd 1), .ref (bd 2), .ref (bd 3), .ref (bd 4), .int (nI n), .ref (bd 5), .ref (bd 6), .ref (bd 7), .ref (bd 8), .ref (bd 9), .ref (bd 10), .ref (bd 11), .ref (bd 12), .ref (bd 13), .int (nI unk), .int (nI cnt)])), ((bd 1), .inl (cI, 120, .inl K)), ((bd 2), .inl (cI, 120, .inl F)), ((bd 3), .inl (cI, 120, .inl S)), ((bd 4), .inl (cI, 120, .inl DD)), ((bd 5), .inl (cI, 5, .inl NU)), ((bd 6), .inl (cI, 120, .inl VA)), ((bd 7), .inl (cI, 120, .inl BE)), ((bd 8), .inl (cI, 128, .inl WA)), ((bd 9), .inl (cI, 30, .inl LE)), ((bd 10), .inl (cI, 30, .inl AA)), ((bd 11), .inl (cI, 30, .inl RI)), ((bd 12), .inl (cI, 10, .inl UN)), ((bd 13), .inl (cZ, 30, .inl CO))] s.heap := hP
  have hD : va_D A [((bd 0), .inr (4, [.int th, .ref (bd 1), .ref (bd 2), .ref (bd 3), .ref (bd 4), .int (nI n), .ref (bd 5), .ref (bd 6), .ref (bd 7), .ref (bd 8), .ref (bd 9), .ref (bd 10), .ref (bd 11), .ref (bd 12), .ref (bd 13), .int (nI unk), .int (nI cnt)])), ((bd 1), .inl (cI, 120, .inl K)), ((bd 2), .inl (cI, 120, .inl F)), ((bd 3), .inl (cI, 120, .inl S)), ((bd 4), .inl (cI, 120, .inl DD)), ((bd 5), .inl (cI, 5, .inl NU)), ((bd 6), .inl (cI, 120, .inl VA)), ((bd 7), .inl (cI, 120, .inl BE)), ((bd 8), .inl (cI, 128, .inl WA)), ((bd 9), .inl (cI, 30, .inl LE)), ((bd 10), .inl (cI, 30, .inl AA)), ((bd 11), .inl (cI, 30, .inl RI)), ((bd 12), .inl (cI, 10, .inl UN)), ((bd 13), .inl (cZ, 30, .inl CO))] := hD
  have hA0 := hA
  refine lv_iconst (v := 0) hx hb d_Mo_reckon_0 (by decide) ?_
  refine lv_istore_n (lv' := [(1, .int 0), (0, .ref (bd 0))]) hx hb d_Mo_reckon_1 rfl hl (by decide) rfl (fun ls hl => ?_)
  refine lp_Mo_reckon l C0 dC dI cI cL cZ bd th K F S DD n NU BE WA LE AA RI UN CO unk cnt hn hunk hcnt nd hok nu hnu hNU hK hA (fun VA9 H locs ls hV hP hD hS hl => ?_) n 0 VA ⟨by omega, fun z hz => by omega⟩ s.heap [] ls hP hD hS (lv_sub hl [1, 0] rfl)
  exact W.vret hx hb hr (fun t ht hW => ⟨⟨(), VA9, rfl, hV, by rw [ht]; exact hP, va_K.moved hW.alike hK, hD⟩, hS.F ht⟩) hS.2.2 d_Mo_reckon_163
