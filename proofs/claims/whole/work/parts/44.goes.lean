set_option maxHeartbeats 4000000 in
set_option maxRecDepth 100000 in
theorem lp_Mo_goesOn {p : Program} (l : Launch) {e : Env} {s : State} {m : MethodId} {args : Array Value} {below : List Frame} {meth : Method} {c : Code} {Q : State → Prop} {A : Nat → Prop} {H0 : Heap} (C0 : cx p s m args meth c b_Mo_goesOn 7 (some .boolean) R_Mo) (dC : Nat → ClassId) (dI : Nat → Nat → Nat) (cI cL cZ : ClassId) (bd : Nat → Nat) (th : Int32) (K F S DD : Nat → Int32) (n : Nat) (BE WA LE AA RI UN CO : Nat → Int32) (unk cnt : Nat) (hn : n ≤ 120) (hunk : unk ≤ 10) (hcnt : cnt ≤ 30) (nd : Nat → Nat × Nat × Nat) (hok : MoOk nd n K F S DD) (x y g fr : Nat) (hx1 : x < n) (hy1 : y < n) (hg : g < 32) (hfr : fr ≤ 5) (nu : Nat → Nat) (hnu : ∀ a, a < fr → nu a < 100000) (R : Int32) (hK : va_K (dC, dI) classes (tyI cI cL cZ) s) (hA : ∀ q : Nat, H0.size ≤ q → A q) 
    (KB : ∀ (b9 : Int32) (NU VA : Nat → Int32) (H : Heap) (locs : List Loc) (ls : Array Slot), (((b9 = 1 ∧ ¬ R = -1) ∨ (b9 = 0 ∧ R = -1)) ∧ ∀ a, a < fr → NU a = nI (nu a)) → va_P (dC, dI) classes [((bd 0), .inr (4, [.int th, .ref (bd 1), .ref (bd 2), .ref (bd 3), .ref (bd 4), .int (nI n), .ref (bd 5), .ref (bd 6), .ref (bd 7), .ref (bd 8), .ref (bd 9), .ref (bd 10), .ref (bd 11), .ref (bd 12), .ref (bd 13), .int (nI unk), .int (nI cnt)])), ((bd 1), .inl (cI, 120, .inl K)), ((bd 2), .inl (cI, 120, .inl F)), ((bd 3), .inl (cI, 120, .inl S)), ((bd 4), .inl (cI, 120, .inl DD)), ((bd 5), .inl (cI, 5, .inl NU)), ((bd 6), .inl (cI, 120, .inl VA)), ((bd 7), .inl (cI, 120, .inl BE)), ((bd 8), .inl (cI, 128, .inl WA)), ((bd 9), .inl (cI, 30, .inl LE)), ((bd 10), .inl (cI, 30, .inl AA)), ((bd 11), .inl (cI, 30, .inl RI)), ((bd 12), .inl (cI, 10, .inl UN)), ((bd 13), .inl (cZ, 30, .inl CO))] H → va_D A [((bd 0), .inr (4, [.int th, .ref (bd 1), .ref (bd 2), .ref (bd 3), .ref (bd 4), .int (nI n), .ref (bd 5), .ref (bd 6), .ref (bd 7), .ref (bd 8), .ref (bd 9), .ref (bd 10), .ref (bd 11), .ref (bd 12), .ref (bd 13), .int (nI unk), .int (nI cnt)])), ((bd 1), .inl (cI, 120, .inl K)), ((bd 2), .inl (cI, 120, .inl F)), ((bd 3), .inl (cI, 120, .inl S)), ((bd 4), .inl (cI, 120, .inl DD)), ((bd 5), .inl (cI, 5, .inl NU)), ((bd 6), .inl (cI, 120, .inl VA)), ((bd 7), .inl (cI, 120, .inl BE)), ((bd 8), .inl (cI, 128, .inl WA)), ((bd 9), .inl (cI, 30, .inl LE)), ((bd 10), .inl (cI, 30, .inl AA)), ((bd 11), .inl (cI, 30, .inl RI)), ((bd 12), .inl (cI, 10, .inl UN)), ((bd 13), .inl (cZ, 30, .inl CO))] → va_S A H0 H locs → lv_has ls 7 [(0, .ref (bd 0)), (5, .int b9)] → W p l e (rmH 3 0 0) s m args below meth c H locs 0 0 Q (F0 m 87 ls []))
    : ∀ (q : Nat) (i : Nat) (NU VA : Nat → Int32), i + q = 6 ∧ fr ≤ i ∧ R = ff (gob nd x y g fr nu) i q ∧ (∀ a, a < fr → NU a = nI (nu a)) → ∀ (H : Heap) (locs : List Loc) (ls : Array Slot), va_P (dC, dI) classes [((bd 0), .inr (4, [.int th, .ref (bd 1), .ref (bd 2), .ref (bd 3), .ref (bd 4), .int (nI n), .ref (bd 5), .ref (bd 6), .ref (bd 7), .ref (bd 8), .ref (bd 9), .ref (bd 10), .ref (bd 11), .ref (bd 12), .ref (bd 13), .int (nI unk), .int (nI cnt)])), ((bd 1), .inl (cI, 120, .inl K)), ((bd 2), .inl (cI, 120, .inl F)), ((bd 3), .inl (cI, 120, .inl S)), ((bd 4), .inl (cI, 120, .inl DD)), ((bd 5), .inl (cI, 5, .inl NU)), ((bd 6), .inl (cI, 120, .inl VA)), ((bd 7), .inl (cI, 120, .inl BE)), ((bd 8), .inl (cI, 128, .inl WA)), ((bd 9), .inl (cI, 30, .inl LE)), ((bd 10), .inl (cI, 30, .inl AA)), ((bd 11), .inl (cI, 30, .inl RI)), ((bd 12), .inl (cI, 10, .inl UN)), ((bd 13), .inl (cZ, 30, .inl CO))] H → va_D A [((bd 0), .inr (4, [.int th, .ref (bd 1), .ref (bd 2), .ref (bd 3), .ref (bd 4), .int (nI n), .ref (bd 5), .ref (bd 6), .ref (bd 7), .ref (bd 8), .ref (bd 9), .ref (bd 10), .ref (bd 11), .ref (bd 12), .ref (bd 13), .int (nI unk), .int (nI cnt)])), ((bd 1), .inl (cI, 120, .inl K)), ((bd 2), .inl (cI, 120, .inl F)), ((bd 3), .inl (cI, 120, .inl S)), ((bd 4), .inl (cI, 120, .inl DD)), ((bd 5), .inl (cI, 5, .inl NU)), ((bd 6), .inl (cI, 120, .inl VA)), ((bd 7), .inl (cI, 120, .inl BE)), ((bd 8), .inl (cI, 128, .inl WA)), ((bd 9), .inl (cI, 30, .inl LE)), ((bd 10), .inl (cI, 30, .inl AA)), ((bd 11), .inl (cI, 30, .inl RI)), ((bd 12), .inl (cI, 10, .inl UN)), ((bd 13), .inl (cZ, 30, .inl CO))] → va_S A H0 H locs → lv_has ls 7 [(0, .ref (bd 0)), (1, .int (nI x)), (2, .int (nI y)), (3, .int (nI g)), (4, .int (nI fr)), (5, .int 0), (6, .int (nI i - 1))] → W p l e (rmH 3 0 0) s m args below meth c H locs 0 0 Q (F0 m 9 ls []) := by
  obtain ⟨hx, hb, hr, hml, hown, htb, hlocks⟩ := id C0
  intro q
  induction q with
  | zero =>
    intro i NU VA hiV H locs ls hP hD hS hl
    obtain ⟨hi, hfi, hR, hNU⟩ := hiV
    refine lv_iload hx hb d_Mo_goesOn_9 (lv_at hl 6 rfl) ?_
    refine lv_iconst (v := 5) hx hb d_Mo_goesOn_11 (by decide) ?_
    refine lv_icmp_ge (tgt := 87) hx hb d_Mo_goesOn_12 (by decide) (fun c_12 => ?_) (fun c_12 => ?_)
    · exact KB 0 NU VA H locs ls ⟨Or.inr ⟨rfl, hR⟩, hNU⟩ hP hD hS (lv_sub hl [0, 5] rfl)
    · exact absurd ((five_m1 (by omega)).mpr (by omega)) c_12
  | succ q ih =>
    intro i NU VA hiV H locs ls hP hD hS hl
    obtain ⟨hi, hfi, hR, hNU⟩ := hiV
    refine lv_iload hx hb d_Mo_goesOn_9 (lv_at hl 6 rfl) ?_
    refine lv_iconst (v := 5) hx hb d_Mo_goesOn_11 (by decide) ?_
    refine lv_icmp_ge (tgt := 87) hx hb d_Mo_goesOn_12 (by decide) (fun c_12 => ?_) (fun c_12 => ?_)
    · exact absurd ((five_m1 (by omega)).mp c_12) (by omega)
    · refine lv_iload hx hb d_Mo_goesOn_15 (lv_at hl 5 rfl) ?_
      refine lv_if_ne (tgt := 87) hx hb d_Mo_goesOn_17 (by decide) (fun c_17 => ?_) (fun c_17 => ?_)
      · exact absurd rfl c_17
      · refine lv_iload hx hb d_Mo_goesOn_20 (lv_at hl 6 rfl) ?_
        refine lv_iload hx hb d_Mo_goesOn_22 (lv_at hl 4 rfl) ?_
        refine lv_icmp_lt (tgt := 39) hx hb d_Mo_goesOn_24 (by decide) (fun c_24 => ?_) (fun c_24 => ?_)
        · have hif : i = fr := by have := (m1_lt_n (by omega) (by omega)).mp c_24; omega
          refine lv_aload_n hx hb d_Mo_goesOn_39 rfl (lv_at hl 0 rfl) ?_
          refine lv_iload_n hx hb d_Mo_goesOn_40 rfl (lv_at hl 3 rfl) ?_
          refine lv_iload hx hb d_Mo_goesOn_41 (lv_at hl 4 rfl) ?_
          refine lv_iload hx hb d_Mo_goesOn_43 (lv_at hl 6 rfl) ?_
          refine lv_iload hx hb d_Mo_goesOn_45 (lv_at hl 4 rfl) ?_
          refine lv_icmp_ge (tgt := 54) hx hb d_Mo_goesOn_47 (by decide) (fun c_47 => ?_) (fun c_47 => ?_)
          · exact absurd ((n_le_m1 (by omega) (by omega)).mp c_47) (by omega)
          · refine lv_iconst (v := (-1)) hx hb d_Mo_goesOn_50 (by decide) ?_
            refine lv_goto (tgt := 56) hx hb d_Mo_goesOn_51 (by decide) ?_
            have egf : ((-1) : Int32) = gof fr i := (by rw [gof, if_pos hif])
            refine wy_callV (n := 3) (wr := []) (As := [.int (nI g), .int (nI fr), .int (-1)]) (rest := []) ⟨hx, hb, hml, hown, htb⟩ (c_Mo_rest l dC dI cI cL cZ bd th K F S DD n NU VA BE WA LE AA RI UN CO unk cnt hn hunk hcnt nd hok g fr hg hfr (-1) nu hnu hNU H.size) (gV mw_665 mw_667 mp_24 mw_5 mc_Mo_rest) rfl rfl (by decide +kernel) ⟨Nat.le_of_ble_eq_true rfl, Nat.le_of_ble_eq_true rfl⟩ hP hD hS hA hK [0, 1, 2, 3, 4, 5, 6, 7, 8, 9, 10, 11, 12, 13] [] rfl rfl (by decide) (by decide) (hP.sub [0, 1, 2, 3, 4, 5, 6, 7, 8, 9, 10, 11, 12, 13] rfl) ((hD.sub [0, 1, 2, 3, 4, 5, 6, 7, 8, 9, 10, 11, 12, 13] (by decide) rfl).weaken (fun _ _ _ _ => trivial)) (ci := 4) (q0 := 0) rfl rfl rfl rfl hl.1 rfl (Nat.le_of_ble_eq_true rfl) d_Mo_goesOn_56 ⟨Nat.le_of_ble_eq_true rfl, Nat.le_of_ble_eq_true rfl⟩ (fun r u H locs hpost hP hD hS => ?_)
            rw [egf] at hpost
            have hP : va_P (dC, dI) classes [((bd 0), .inr (4, [.int th, .ref (bd 1), .ref (bd 2), .ref (bd 3), .ref (bd 4), .int (nI n), .ref (bd 5), .ref (bd 6), .ref (bd 7), .ref (bd 8), .ref (bd 9), .ref (bd 10), .ref (bd 11), .ref (bd 12), .ref (bd 13), .int (nI unk), .int (nI cnt)])), ((bd 1), .inl (cI, 120, .inl K)), ((bd 2), .inl (cI, 120, .inl F)), ((bd 3), .inl (cI, 120, .inl S)), ((bd 4), .inl (cI, 120, .inl DD)), ((bd 5), .inl (cI, 5, .inl u.1)), ((bd 6), .inl (cI, 120, .inl u.2)), ((bd 7), .inl (cI, 120, .inl BE)), ((bd 8), .inl (cI, 128, .inl WA)), ((bd 9), .inl (cI, 30, .inl LE)), ((bd 10), .inl (cI, 30, .inl AA)), ((bd 11), .inl (cI, 30, .inl RI)), ((bd 12), .inl (cI, 10, .inl UN)), ((bd 13), .inl (cZ, 30, .inl CO))] H := hP
            have hD : va_D A [((bd 0), .inr (4, [.int th, .ref (bd 1), .ref (bd 2), .ref (bd 3), .ref (bd 4), .int (nI n), .ref (bd 5), .ref (bd 6), .ref (bd 7), .ref (bd 8), .ref (bd 9), .ref (bd 10), .ref (bd 11), .ref (bd 12), .ref (bd 13), .int (nI unk), .int (nI cnt)])), ((bd 1), .inl (cI, 120, .inl K)), ((bd 2), .inl (cI, 120, .inl F)), ((bd 3), .inl (cI, 120, .inl S)), ((bd 4), .inl (cI, 120, .inl DD)), ((bd 5), .inl (cI, 5, .inl u.1)), ((bd 6), .inl (cI, 120, .inl u.2)), ((bd 7), .inl (cI, 120, .inl BE)), ((bd 8), .inl (cI, 128, .inl WA)), ((bd 9), .inl (cI, 30, .inl LE)), ((bd 10), .inl (cI, 30, .inl AA)), ((bd 11), .inl (cI, 30, .inl RI)), ((bd 12), .inl (cI, 10, .inl UN)), ((bd 13), .inl (cZ, 30, .inl CO))] := hD
            refine W.eq (g2 := F0 m 59 ls []) rfl ?_
            have bx := vl_nus (rs_nus (g := g) (far := gof fr i) hnu) hok.1 hx1
            have by1 := vl_nus (rs_nus (g := g) (far := gof fr i) hnu) hok.1 hy1
            refine lv_aload_n hx hb d_Mo_goesOn_59 rfl (lv_at hl 0 rfl) ?_
            refine va_get (D := (dC, dI)) (ci := 4) (v := .ref (bd 6)) (C := R_Mo) (T := F_Mo) (N := 17) hx hb htb ul_Mo hown hK hP 0 rfl rfl 7 (by decide) (htb _ mw_555) (fun _ h9 => h9) rfl d_Mo_goesOn_60 ?_
            refine lv_iload_n hx hb d_Mo_goesOn_63 rfl (lv_at hl 1 rfl) ?_
            refine ry_iald (D := (dC, dI)) (j := x) hx hb hK hP 6 0 rfl rfl (by omega) (by decide) d_Mo_goesOn_64 ?_
            rw [hpost.2 x hx1]
            refine lv_aload_n hx hb d_Mo_goesOn_65 rfl (lv_at hl 0 rfl) ?_
            refine va_get (D := (dC, dI)) (ci := 4) (v := .ref (bd 6)) (C := R_Mo) (T := F_Mo) (N := 17) hx hb htb ul_Mo hown hK hP 0 rfl rfl 7 (by decide) (htb _ mw_555) (fun _ h9 => h9) rfl d_Mo_goesOn_66 ?_
            refine lv_iload_n hx hb d_Mo_goesOn_69 rfl (lv_at hl 2 rfl) ?_
            refine ry_iald (D := (dC, dI)) (j := y) hx hb hK hP 6 0 rfl rfl (by omega) (by decide) d_Mo_goesOn_70 ?_
            rw [hpost.2 y hy1]
            refine lv_icmp_le (tgt := 78) hx hb d_Mo_goesOn_71 (by decide) (fun c_71 => ?_) (fun c_71 => ?_)
            · refine lv_iconst (v := 0) hx hb d_Mo_goesOn_78 (by decide) ?_
              refine lv_istore (lv' := [(5, .int 0), (0, .ref (bd 0)), (1, .int (nI x)), (2, .int (nI y)), (3, .int (nI g)), (4, .int (nI fr)), (6, .int (nI i - 1))]) hx hb d_Mo_goesOn_79 hl (by decide) rfl (fun ls hl => ?_)
              refine lv_iinc (v := (nI (i + 1) - 1)) (lv' := [(6, .int (nI (i + 1) - 1)), (5, .int 0), (0, .ref (bd 0)), (1, .int (nI x)), (2, .int (nI y)), (3, .int (nI g)), (4, .int (nI fr))]) hx hb d_Mo_goesOn_81 hl (k := 6) rfl (m1_p1 (by omega)) (by decide) rfl (fun ls hl => ?_)
              refine lv_goto (tgt := 9) hx hb d_Mo_goesOn_84 (by decide) ?_
              exact ih (i + 1) u.1 u.2 ⟨by omega, by omega, by rw [hR, ff_f (by rw [gob, decide_eq_true_iff]; intro z; exact absurd ((nI_leI (by omega) (by omega)).mp c_71) (by omega))], (fun a ha => by rw [hpost.1 a (by omega), rs, if_pos ha])⟩ H locs ls hP hD hS (lv_sub hl [2, 3, 4, 5, 6, 1, 0] rfl)
            · refine lv_iconst (v := 1) hx hb d_Mo_goesOn_74 (by decide) ?_
              refine lv_goto (tgt := 79) hx hb d_Mo_goesOn_75 (by decide) ?_
              refine lv_istore (lv' := [(5, .int 1), (0, .ref (bd 0)), (1, .int (nI x)), (2, .int (nI y)), (3, .int (nI g)), (4, .int (nI fr)), (6, .int (nI i - 1))]) hx hb d_Mo_goesOn_79 hl (by decide) rfl (fun ls hl => ?_)
              refine lv_iinc (v := (nI (i + 1) - 1)) (lv' := [(6, .int (nI (i + 1) - 1)), (5, .int 1), (0, .ref (bd 0)), (1, .int (nI x)), (2, .int (nI y)), (3, .int (nI g)), (4, .int (nI fr))]) hx hb d_Mo_goesOn_81 hl (k := 6) rfl (m1_p1 (by omega)) (by decide) rfl (fun ls hl => ?_)
              refine lv_goto (tgt := 9) hx hb d_Mo_goesOn_84 (by decide) ?_
              refine lv_iload hx hb d_Mo_goesOn_9 (lv_at hl 0 rfl) ?_
              refine lv_iconst (v := 5) hx hb d_Mo_goesOn_11 (by decide) ?_
              refine lv_icmp_ge (tgt := 87) hx hb d_Mo_goesOn_12 (by decide) (fun c_12_1 => ?_) (fun c_12_1 => ?_)
              · exact KB 1 u.1 u.2 H locs ls ⟨Or.inl ⟨rfl, by rw [hR, ff_t (by rw [gob, decide_eq_true_iff]; exact ⟨Or.inl hif, Nat.lt_of_not_le fun z => c_71 ((nI_leI (by omega) (by omega)).mpr z)⟩)]; exact nI_m1 (by omega)⟩, fun a ha => by rw [hpost.1 a (by omega), rs, if_pos ha]⟩ hP hD hS (lv_sub hl [2, 1] rfl)
              · refine lv_iload hx hb d_Mo_goesOn_15 (lv_at hl 1 rfl) ?_
                refine lv_if_ne (tgt := 87) hx hb d_Mo_goesOn_17 (by decide) (fun c_17_1 => ?_) (fun c_17_1 => ?_)
                · exact KB 1 u.1 u.2 H locs ls ⟨Or.inl ⟨rfl, by rw [hR, ff_t (by rw [gob, decide_eq_true_iff]; exact ⟨Or.inl hif, Nat.lt_of_not_le fun z => c_71 ((nI_leI (by omega) (by omega)).mpr z)⟩)]; exact nI_m1 (by omega)⟩, fun a ha => by rw [hpost.1 a (by omega), rs, if_pos ha]⟩ hP hD hS (lv_sub hl [2, 1] rfl)
                · exact absurd c_17_1 (by decide)
        · have hif : fr + 1 ≤ i := Nat.le_of_not_lt fun z => c_24 ((m1_lt_n (by omega) (by omega)).mpr z)
          have e9 : (nI i - 1 : Int32) = nI (i - 1) := pk_sub (b := 1) (by omega)
          rw [e9] at hl
          refine lv_iload_n hx hb d_Mo_goesOn_27 rfl (lv_at hl 3 rfl) ?_
          refine lv_iload hx hb d_Mo_goesOn_28 (lv_at hl 6 rfl) ?_
          refine lv_ishr hx hb d_Mo_goesOn_30 ?_
          refine lv_iconst (v := 1) hx hb d_Mo_goesOn_31 (by decide) ?_
          refine lv_iand hx hb d_Mo_goesOn_32 ?_
          refine lv_if_ne (tgt := 39) hx hb d_Mo_goesOn_33 (by decide) (fun c_33 => ?_) (fun c_33 => ?_)
          · refine lv_aload_n hx hb d_Mo_goesOn_39 rfl (lv_at hl 0 rfl) ?_
            refine lv_iload_n hx hb d_Mo_goesOn_40 rfl (lv_at hl 3 rfl) ?_
            refine lv_iload hx hb d_Mo_goesOn_41 (lv_at hl 4 rfl) ?_
            refine lv_iload hx hb d_Mo_goesOn_43 (lv_at hl 6 rfl) ?_
            refine lv_iload hx hb d_Mo_goesOn_45 (lv_at hl 4 rfl) ?_
            refine lv_icmp_ge (tgt := 54) hx hb d_Mo_goesOn_47 (by decide) (fun c_47 => ?_) (fun c_47 => ?_)
            · refine lv_iload hx hb d_Mo_goesOn_54 (lv_at hl 6 rfl) ?_
              have egf : ((nI (i - 1)) : Int32) = gof fr i := (by rw [gof, if_neg (by omega)])
              refine wy_callV (n := 3) (wr := []) (As := [.int (nI g), .int (nI fr), .int (nI (i - 1))]) (rest := []) ⟨hx, hb, hml, hown, htb⟩ (c_Mo_rest l dC dI cI cL cZ bd th K F S DD n NU VA BE WA LE AA RI UN CO unk cnt hn hunk hcnt nd hok g fr hg hfr (nI (i - 1)) nu hnu hNU H.size) (gV mw_665 mw_667 mp_24 mw_5 mc_Mo_rest) rfl rfl (by decide +kernel) ⟨Nat.le_of_ble_eq_true rfl, Nat.le_of_ble_eq_true rfl⟩ hP hD hS hA hK [0, 1, 2, 3, 4, 5, 6, 7, 8, 9, 10, 11, 12, 13] [] rfl rfl (by decide) (by decide) (hP.sub [0, 1, 2, 3, 4, 5, 6, 7, 8, 9, 10, 11, 12, 13] rfl) ((hD.sub [0, 1, 2, 3, 4, 5, 6, 7, 8, 9, 10, 11, 12, 13] (by decide) rfl).weaken (fun _ _ _ _ => trivial)) (ci := 4) (q0 := 0) rfl rfl rfl rfl hl.1 rfl (Nat.le_of_ble_eq_true rfl) d_Mo_goesOn_56 ⟨Nat.le_of_ble_eq_true rfl, Nat.le_of_ble_eq_true rfl⟩ (fun r u H locs hpost hP hD hS => ?_)
              rw [egf] at hpost
              have hP : va_P (dC, dI) classes [((bd 0), .inr (4, [.int th, .ref (bd 1), .ref (bd 2), .ref (bd 3), .ref (bd 4), .int (nI n), .ref (bd 5), .ref (bd 6), .ref (bd 7), .ref (bd 8), .ref (bd 9), .ref (bd 10), .ref (bd 11), .ref (bd 12), .ref (bd 13), .int (nI unk), .int (nI cnt)])), ((bd 1), .inl (cI, 120, .inl K)), ((bd 2), .inl (cI, 120, .inl F)), ((bd 3), .inl (cI, 120, .inl S)), ((bd 4), .inl (cI, 120, .inl DD)), ((bd 5), .inl (cI, 5, .inl u.1)), ((bd 6), .inl (cI, 120, .inl u.2)), ((bd 7), .inl (cI, 120, .inl BE)), ((bd 8), .inl (cI, 128, .inl WA)), ((bd 9), .inl (cI, 30, .inl LE)), ((bd 10), .inl (cI, 30, .inl AA)), ((bd 11), .inl (cI, 30, .inl RI)), ((bd 12), .inl (cI, 10, .inl UN)), ((bd 13), .inl (cZ, 30, .inl CO))] H := hP
              have hD : va_D A [((bd 0), .inr (4, [.int th, .ref (bd 1), .ref (bd 2), .ref (bd 3), .ref (bd 4), .int (nI n), .ref (bd 5), .ref (bd 6), .ref (bd 7), .ref (bd 8), .ref (bd 9), .ref (bd 10), .ref (bd 11), .ref (bd 12), .ref (bd 13), .int (nI unk), .int (nI cnt)])), ((bd 1), .inl (cI, 120, .inl K)), ((bd 2), .inl (cI, 120, .inl F)), ((bd 3), .inl (cI, 120, .inl S)), ((bd 4), .inl (cI, 120, .inl DD)), ((bd 5), .inl (cI, 5, .inl u.1)), ((bd 6), .inl (cI, 120, .inl u.2)), ((bd 7), .inl (cI, 120, .inl BE)), ((bd 8), .inl (cI, 128, .inl WA)), ((bd 9), .inl (cI, 30, .inl LE)), ((bd 10), .inl (cI, 30, .inl AA)), ((bd 11), .inl (cI, 30, .inl RI)), ((bd 12), .inl (cI, 10, .inl UN)), ((bd 13), .inl (cZ, 30, .inl CO))] := hD
              refine W.eq (g2 := F0 m 59 ls []) rfl ?_
              have bx := vl_nus (rs_nus (g := g) (far := gof fr i) hnu) hok.1 hx1
              have by1 := vl_nus (rs_nus (g := g) (far := gof fr i) hnu) hok.1 hy1
              refine lv_aload_n hx hb d_Mo_goesOn_59 rfl (lv_at hl 0 rfl) ?_
              refine va_get (D := (dC, dI)) (ci := 4) (v := .ref (bd 6)) (C := R_Mo) (T := F_Mo) (N := 17) hx hb htb ul_Mo hown hK hP 0 rfl rfl 7 (by decide) (htb _ mw_555) (fun _ h9 => h9) rfl d_Mo_goesOn_60 ?_
              refine lv_iload_n hx hb d_Mo_goesOn_63 rfl (lv_at hl 1 rfl) ?_
              refine ry_iald (D := (dC, dI)) (j := x) hx hb hK hP 6 0 rfl rfl (by omega) (by decide) d_Mo_goesOn_64 ?_
              rw [hpost.2 x hx1]
              refine lv_aload_n hx hb d_Mo_goesOn_65 rfl (lv_at hl 0 rfl) ?_
              refine va_get (D := (dC, dI)) (ci := 4) (v := .ref (bd 6)) (C := R_Mo) (T := F_Mo) (N := 17) hx hb htb ul_Mo hown hK hP 0 rfl rfl 7 (by decide) (htb _ mw_555) (fun _ h9 => h9) rfl d_Mo_goesOn_66 ?_
              refine lv_iload_n hx hb d_Mo_goesOn_69 rfl (lv_at hl 2 rfl) ?_
              refine ry_iald (D := (dC, dI)) (j := y) hx hb hK hP 6 0 rfl rfl (by omega) (by decide) d_Mo_goesOn_70 ?_
              rw [hpost.2 y hy1]
              refine lv_icmp_le (tgt := 78) hx hb d_Mo_goesOn_71 (by decide) (fun c_71 => ?_) (fun c_71 => ?_)
              · refine lv_iconst (v := 0) hx hb d_Mo_goesOn_78 (by decide) ?_
                refine lv_istore (lv' := [(5, .int 0), (0, .ref (bd 0)), (1, .int (nI x)), (2, .int (nI y)), (3, .int (nI g)), (4, .int (nI fr)), (6, .int (nI (i - 1)))]) hx hb d_Mo_goesOn_79 hl (by decide) rfl (fun ls hl => ?_)
                rw [← e9] at hl
                refine lv_iinc (v := (nI (i + 1) - 1)) (lv' := [(6, .int (nI (i + 1) - 1)), (5, .int 0), (0, .ref (bd 0)), (1, .int (nI x)), (2, .int (nI y)), (3, .int (nI g)), (4, .int (nI fr))]) hx hb d_Mo_goesOn_81 hl (k := 6) rfl (m1_p1 (by omega)) (by decide) rfl (fun ls hl => ?_)
                refine lv_goto (tgt := 9) hx hb d_Mo_goesOn_84 (by decide) ?_
                exact ih (i + 1) u.1 u.2 ⟨by omega, by omega, by rw [hR, ff_f (by rw [gob, decide_eq_true_iff]; intro z; exact absurd ((nI_leI (by omega) (by omega)).mp c_71) (by omega))], (fun a ha => by rw [hpost.1 a (by omega), rs, if_pos ha])⟩ H locs ls hP hD hS (lv_sub hl [2, 3, 4, 5, 6, 1, 0] rfl)
              · refine lv_iconst (v := 1) hx hb d_Mo_goesOn_74 (by decide) ?_
                refine lv_goto (tgt := 79) hx hb d_Mo_goesOn_75 (by decide) ?_
                refine lv_istore (lv' := [(5, .int 1), (0, .ref (bd 0)), (1, .int (nI x)), (2, .int (nI y)), (3, .int (nI g)), (4, .int (nI fr)), (6, .int (nI (i - 1)))]) hx hb d_Mo_goesOn_79 hl (by decide) rfl (fun ls hl => ?_)
                rw [← e9] at hl
                refine lv_iinc (v := (nI (i + 1) - 1)) (lv' := [(6, .int (nI (i + 1) - 1)), (5, .int 1), (0, .ref (bd 0)), (1, .int (nI x)), (2, .int (nI y)), (3, .int (nI g)), (4, .int (nI fr))]) hx hb d_Mo_goesOn_81 hl (k := 6) rfl (m1_p1 (by omega)) (by decide) rfl (fun ls hl => ?_)
                refine lv_goto (tgt := 9) hx hb d_Mo_goesOn_84 (by decide) ?_
                refine lv_iload hx hb d_Mo_goesOn_9 (lv_at hl 0 rfl) ?_
                refine lv_iconst (v := 5) hx hb d_Mo_goesOn_11 (by decide) ?_
                refine lv_icmp_ge (tgt := 87) hx hb d_Mo_goesOn_12 (by decide) (fun c_12_1 => ?_) (fun c_12_1 => ?_)
                · exact KB 1 u.1 u.2 H locs ls ⟨Or.inl ⟨rfl, by rw [hR, ff_t (by rw [gob, decide_eq_true_iff]; exact ⟨Or.inr (Decidable.byContradiction fun z => c_33 ((bit5 g hg (i - 1) (by omega)).mpr z)), Nat.lt_of_not_le fun z => c_71 ((nI_leI (by omega) (by omega)).mpr z)⟩)]; exact nI_m1 (by omega)⟩, fun a ha => by rw [hpost.1 a (by omega), rs, if_pos ha]⟩ hP hD hS (lv_sub hl [2, 1] rfl)
                · refine lv_iload hx hb d_Mo_goesOn_15 (lv_at hl 1 rfl) ?_
                  refine lv_if_ne (tgt := 87) hx hb d_Mo_goesOn_17 (by decide) (fun c_17_1 => ?_) (fun c_17_1 => ?_)
                  · exact KB 1 u.1 u.2 H locs ls ⟨Or.inl ⟨rfl, by rw [hR, ff_t (by rw [gob, decide_eq_true_iff]; exact ⟨Or.inr (Decidable.byContradiction fun z => c_33 ((bit5 g hg (i - 1) (by omega)).mpr z)), Nat.lt_of_not_le fun z => c_71 ((nI_leI (by omega) (by omega)).mpr z)⟩)]; exact nI_m1 (by omega)⟩, fun a ha => by rw [hpost.1 a (by omega), rs, if_pos ha]⟩ hP hD hS (lv_sub hl [2, 1] rfl)
                  · exact absurd c_17_1 (by decide)
            · exact absurd ((nI_leI (by omega) (by omega)).mpr (by omega)) c_47
          · refine lv_goto (tgt := 81) hx hb d_Mo_goesOn_36 (by decide) ?_
            rw [← e9] at hl
            refine lv_iinc (v := (nI (i + 1) - 1)) (lv' := [(6, .int (nI (i + 1) - 1)), (0, .ref (bd 0)), (1, .int (nI x)), (2, .int (nI y)), (3, .int (nI g)), (4, .int (nI fr)), (5, .int 0)]) hx hb d_Mo_goesOn_81 hl (k := 6) rfl (m1_p1 (by omega)) (by decide) rfl (fun ls hl => ?_)
            refine lv_goto (tgt := 9) hx hb d_Mo_goesOn_84 (by decide) ?_
            exact ih (i + 1) NU VA ⟨by omega, by omega, by rw [hR, ff_f (by rw [gob, decide_eq_true_iff]; intro z; exact (bit5 g hg (i - 1) (by omega)).mp c_33 (z.1.resolve_left (by omega)))], hNU⟩ H locs ls hP hD hS (lv_sub hl [1, 2, 3, 4, 5, 6, 0] rfl)

set_option maxHeartbeats 4000000 in
set_option maxRecDepth 100000 in
theorem c_Mo_goesOn (l : Launch) (dC : Nat → ClassId) (dI : Nat → Nat → Nat) (cI cL cZ : ClassId) (bd : Nat → Nat) (th : Int32) (K F S DD : Nat → Int32) (n : Nat) (NU VA BE WA LE AA RI UN CO : Nat → Int32) (unk cnt : Nat) (hn : n ≤ 120) (hunk : unk ≤ 10) (hcnt : cnt ≤ 30) (nd : Nat → Nat × Nat × Nat) (hok : MoOk nd n K F S DD) (x y g fr : Nat) (hx1 : x < n) (hy1 : y < n) (hg : g < 32) (hfr : fr ≤ 5) (nu : Nat → Nat) (hnu : ∀ a, a < fr → nu a < 100000) (hNU : ∀ a, a < fr → NU a = nI (nu a)) (sz : Nat) : Met l y_Mo_goesOn (cw_Mo_goesOn :: tb) (rmH 3 0 0) (va_Pc [.ref (bd 0), .int (nI x), .int (nI y), .int (nI g), .int (nI fr)] (wy_P (dC, dI) classes (wMo cI cZ bd th K F S DD n NU VA BE WA LE AA RI UN CO unk cnt) (tyI cI cL cZ) sz)) (wy_Q ry_i (fun r (u : (Nat → Int32) × (Nat → Int32)) => (r = if gor nd x y g fr nu = -1 then 0 else 1) ∧ ∀ a, a < fr → u.1 a = nI (nu a)) (wy_B (dC, dI) classes (tyI cI cL cZ) (va_A (wMo cI cZ bd th K F S DD n NU VA BE WA LE AA RI UN CO unk cnt) sz) (fun u : (Nat → Int32) × (Nat → Int32) => (wMo cI cZ bd th K F S DD n u.1 u.2 BE WA LE AA RI UN CO unk cnt))) (va_A (wMo cI cZ bd th K F S DD n NU VA BE WA LE AA RI UN CO unk cnt) sz)) 0 0 (va_A (wMo cI cZ bd th K F S DD n NU VA BE WA LE AA RI UN CO unk cnt) sz) := by
  refine Met.ofW (cc := b_Mo_goesOn) (maxL := 7) (ret := (some .boolean)) (by decide +kernel) rfl ?_
  intro p e s m args below meth c s₁ B hml0 hv
  have C0 := cx_of B hml0 rfl
  obtain ⟨hx, hb, hr, hml, hown, htb, hlocks⟩ := id C0
  obtain ⟨rfl, hsz, hP, hK, hD0⟩ := hv
  subst hsz
  have hD := hD0.self (sz := s.heap.size)
  generalize hAe : va_A (wMo cI cZ bd th K F S DD n NU VA BE WA LE AA RI UN CO unk cnt) s.heap.size = A at hD ⊢
  have hA : ∀ q : Nat, s.heap.size ≤ q → A q := fun q h => by rw [← hAe]; exact Or.inr h
  have hS : va_S A s.heap s.heap [] := va_S.rf
  have hl := lv_entry ([.ref (bd 0), .int (nI x), .int (nI y), .int (nI g), .int (nI fr)]) (n := 7) (Nat.le_of_ble_eq_true rfl)
  rw [lg_entry_eq]
  generalize (lg_sl ([.ref (bd 0), .int (nI x), .int (nI y), .int (nI g), .int (nI fr)]) ++ List.replicate (7 - (lg_sl ([.ref (bd 0), .int (nI x), .int (nI y), .int (nI g), .int (nI fr)])).length) Slot.unset).toArray = ls at hl ⊢
  have hl : lv_has ls 7 [(0, .ref (bd 0)), (1, .int (nI x)), (2, .int (nI y)), (3, .int (nI g)), (4, .int (nI fr))] := hl
  have hP : va_P (dC, dI) classes [((bd 0), .inr (4, [.int th, .ref (bd 1), .ref (bd 2), .ref (bd 3), .ref (bd 4), .int (nI n), .ref (bd 5), .ref (bd 6), .ref (bd 7), .ref (bd 8), .ref (bd 9), .ref (bd 10), .ref (bd 11), .ref (bd 12), .ref (bd 13), .int (nI unk), .int (nI cnt)])), ((bd 1), .inl (cI, 120, .inl K)), ((bd 2), .inl (cI, 120, .inl F)), ((bd 3), .inl (cI, 120, .inl S)), ((bd 4), .inl (cI, 120, .inl DD)), ((bd 5), .inl (cI, 5, .inl NU)), ((bd 6), .inl (cI, 120, .inl VA)), ((bd 7), .inl (cI, 120, .inl BE)), ((bd 8), .inl (cI, 128, .inl WA)), ((bd 9), .inl (cI, 30, .inl LE)), ((bd 10), .inl (cI, 30, .inl AA)), ((bd 11), .inl (cI, 30, .inl RI)), ((bd 12), .inl (cI, 10, .inl UN)), ((bd 13), .inl (cZ, 30, .inl CO))] s.heap := hP
  have hD : va_D A [((bd 0), .inr (4, [.int th, .ref (bd 1), .ref (bd 2), .ref (bd 3), .ref (bd 4), .int (nI n), .ref (bd 5), .ref (bd 6), .ref (bd 7), .ref (bd 8), .ref (bd 9), .ref (bd 10), .ref (bd 11), .ref (bd 12), .ref (bd 13), .int (nI unk), .int (nI cnt)])), ((bd 1), .inl (cI, 120, .inl K)), ((bd 2), .inl (cI, 120, .inl F)), ((bd 3), .inl (cI, 120, .inl S)), ((bd 4), .inl (cI, 120, .inl DD)), ((bd 5), .inl (cI, 5, .inl NU)), ((bd 6), .inl (cI, 120, .inl VA)), ((bd 7), .inl (cI, 120, .inl BE)), ((bd 8), .inl (cI, 128, .inl WA)), ((bd 9), .inl (cI, 30, .inl LE)), ((bd 10), .inl (cI, 30, .inl AA)), ((bd 11), .inl (cI, 30, .inl RI)), ((bd 12), .inl (cI, 10, .inl UN)), ((bd 13), .inl (cZ, 30, .inl CO))] := hD
  have hA0 := hA
  refine lv_iconst (v := 0) hx hb d_Mo_goesOn_0 (by decide) ?_
  refine lv_istore (lv' := [(5, .int 0), (0, .ref (bd 0)), (1, .int (nI x)), (2, .int (nI y)), (3, .int (nI g)), (4, .int (nI fr))]) hx hb d_Mo_goesOn_1 hl (by decide) rfl (fun ls hl => ?_)
  refine lv_iload hx hb d_Mo_goesOn_3 (lv_at hl 5 rfl) ?_
  refine lv_iconst (v := 1) hx hb d_Mo_goesOn_5 (by decide) ?_
  refine lv_isub hx hb d_Mo_goesOn_6 ?_
  refine lv_istore (lv' := [(6, .int ((nI fr) - 1)), (5, .int 0), (0, .ref (bd 0)), (1, .int (nI x)), (2, .int (nI y)), (3, .int (nI g)), (4, .int (nI fr))]) hx hb d_Mo_goesOn_7 hl (by decide) rfl (fun ls hl => ?_)
  refine lp_Mo_goesOn l C0 dC dI cI cL cZ bd th K F S DD n BE WA LE AA RI UN CO unk cnt hn hunk hcnt nd hok x y g fr hx1 hy1 hg hfr nu hnu (gor nd x y g fr nu) hK hA (fun b9 NU9 VA9 H locs ls hI hP hD hS hl => ?_) (6 - fr) fr NU VA ⟨by omega, Nat.le_refl _, rfl, hNU⟩ s.heap [] ls hP hD hS (lv_sub hl [2, 3, 4, 5, 6, 1, 0] rfl)
  refine lv_iload hx hb d_Mo_goesOn_87 (lv_at hl 1 rfl) ?_
  exact W.zret (v := b9) hx hb hr (bn (hI.1.elim (fun z => Or.inr z.1) (fun z => Or.inl z.1))) (fun t ht hW => ⟨⟨b9, (NU9, VA9), rfl, ⟨gor_b hI.1, hI.2⟩, by rw [ht]; exact hP, va_K.moved hW.alike hK, hD⟩, hS.F ht⟩) hS.2.2 d_Mo_goesOn_89
