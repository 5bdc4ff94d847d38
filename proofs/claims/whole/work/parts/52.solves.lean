set_option maxHeartbeats 4000000 in
set_option maxRecDepth 100000 in
theorem lp_Mo_solves1 {p : Program} (l : Launch) {e : Env} {s : State} {m : MethodId} {args : Array Value} {below : List Frame} {meth : Method} {c : Code} {Q : State → Prop} {A : Nat → Prop} {H0 : Heap} (C0 : cx p s m args meth c b_Mo_solves 4 (some .boolean) R_Mo) (dC : Nat → ClassId) (dI : Nat → Nat → Nat) (cI cL cZ : ClassId) (bd : Nat → Nat) (th : Int32) (K F S DD : Nat → Int32) (n : Nat) (NU VA BE WA LE AA RI CO : Nat → Int32) (unk cnt : Nat) (hn : n ≤ 120) (hunk : unk ≤ 10) (hcnt : cnt ≤ 30) (lo hi : Nat → Nat) (hlo : ∀ j, j < cnt → sdN (LE j) (lo j)) (hhi : ∀ j, j < cnt → sdN (RI j) (hi j)) (RR : Int32 × (Nat → Int32) × Int32) (hK : va_K (dC, dI) classes (tyI cI cL cZ) s) (hA : ∀ q : Nat, H0.size ≤ q → A q) 
    (KA : ∀ (UN : Nat → Int32) (b : Int32) (H : Heap) (locs : List Loc) (ls : Array Slot), RR = (0, UN, b) → va_P (dC, dI) classes [((bd 0), .inr (4, [.int th, .ref (bd 1), .ref (bd 2), .ref (bd 3), .ref (bd 4), .int (nI n), .ref (bd 5), .ref (bd 6), .ref (bd 7), .ref (bd 8), .ref (bd 9), .ref (bd 10), .ref (bd 11), .ref (bd 12), .ref (bd 13), .int (nI unk), .int (nI cnt)])), ((bd 1), .inl (cI, 120, .inl K)), ((bd 2), .inl (cI, 120, .inl F)), ((bd 3), .inl (cI, 120, .inl S)), ((bd 4), .inl (cI, 120, .inl DD)), ((bd 5), .inl (cI, 5, .inl NU)), ((bd 6), .inl (cI, 120, .inl VA)), ((bd 7), .inl (cI, 120, .inl BE)), ((bd 8), .inl (cI, 128, .inl WA)), ((bd 9), .inl (cI, 30, .inl LE)), ((bd 10), .inl (cI, 30, .inl AA)), ((bd 11), .inl (cI, 30, .inl RI)), ((bd 12), .inl (cI, 10, .inl UN)), ((bd 13), .inl (cZ, 30, .inl CO))] H → va_D A [((bd 0), .inr (4, [.int th, .ref (bd 1), .ref (bd 2), .ref (bd 3), .ref (bd 4), .int (nI n), .ref (bd 5), .ref (bd 6), .ref (bd 7), .ref (bd 8), .ref (bd 9), .ref (bd 10), .ref (bd 11), .ref (bd 12), .ref (bd 13), .int (nI unk), .int (nI cnt)])), ((bd 1), .inl (cI, 120, .inl K)), ((bd 2), .inl (cI, 120, .inl F)), ((bd 3), .inl (cI, 120, .inl S)), ((bd 4), .inl (cI, 120, .inl DD)), ((bd 5), .inl (cI, 5, .inl NU)), ((bd 6), .inl (cI, 120, .inl VA)), ((bd 7), .inl (cI, 120, .inl BE)), ((bd 8), .inl (cI, 128, .inl WA)), ((bd 9), .inl (cI, 30, .inl LE)), ((bd 10), .inl (cI, 30, .inl AA)), ((bd 11), .inl (cI, 30, .inl RI)), ((bd 12), .inl (cI, 10, .inl UN)), ((bd 13), .inl (cZ, 30, .inl CO))] → va_S A H0 H locs → lv_has ls 4 [(0, .ref (bd 0))] → W p l e (rmH 2 0 0) s m args below meth c H locs 0 0 Q (F0 m 106 ls []))
    (KB : ∀ (UN : Nat → Int32) (b : Int32) (H : Heap) (locs : List Loc) (ls : Array Slot), RR = (1, UN, b) → va_P (dC, dI) classes [((bd 0), .inr (4, [.int th, .ref (bd 1), .ref (bd 2), .ref (bd 3), .ref (bd 4), .int (nI n), .ref (bd 5), .ref (bd 6), .ref (bd 7), .ref (bd 8), .ref (bd 9), .ref (bd 10), .ref (bd 11), .ref (bd 12), .ref (bd 13), .int (nI unk), .int (nI cnt)])), ((bd 1), .inl (cI, 120, .inl K)), ((bd 2), .inl (cI, 120, .inl F)), ((bd 3), .inl (cI, 120, .inl S)), ((bd 4), .inl (cI, 120, .inl DD)), ((bd 5), .inl (cI, 5, .inl NU)), ((bd 6), .inl (cI, 120, .inl VA)), ((bd 7), .inl (cI, 120, .inl BE)), ((bd 8), .inl (cI, 128, .inl WA)), ((bd 9), .inl (cI, 30, .inl LE)), ((bd 10), .inl (cI, 30, .inl AA)), ((bd 11), .inl (cI, 30, .inl RI)), ((bd 12), .inl (cI, 10, .inl UN)), ((bd 13), .inl (cZ, 30, .inl CO))] H → va_D A [((bd 0), .inr (4, [.int th, .ref (bd 1), .ref (bd 2), .ref (bd 3), .ref (bd 4), .int (nI n), .ref (bd 5), .ref (bd 6), .ref (bd 7), .ref (bd 8), .ref (bd 9), .ref (bd 10), .ref (bd 11), .ref (bd 12), .ref (bd 13), .int (nI unk), .int (nI cnt)])), ((bd 1), .inl (cI, 120, .inl K)), ((bd 2), .inl (cI, 120, .inl F)), ((bd 3), .inl (cI, 120, .inl S)), ((bd 4), .inl (cI, 120, .inl DD)), ((bd 5), .inl (cI, 5, .inl NU)), ((bd 6), .inl (cI, 120, .inl VA)), ((bd 7), .inl (cI, 120, .inl BE)), ((bd 8), .inl (cI, 128, .inl WA)), ((bd 9), .inl (cI, 30, .inl LE)), ((bd 10), .inl (cI, 30, .inl AA)), ((bd 11), .inl (cI, 30, .inl RI)), ((bd 12), .inl (cI, 10, .inl UN)), ((bd 13), .inl (cZ, 30, .inl CO))] → va_S A H0 H locs → lv_has ls 4 [(0, .ref (bd 0)), (1, .int b)] → W p l e (rmH 2 0 0) s m args below meth c H locs 0 0 Q (F0 m 152 ls []))
    : ∀ (q : Nat) (i : Nat) (UN : Nat → Int32) (b : Int32), i + q = cnt ∧ RR = psm lo hi AA CO i q UN b → ∀ (H : Heap) (locs : List Loc) (ls : Array Slot), va_P (dC, dI) classes [((bd 0), .inr (4, [.int th, .ref (bd 1), .ref (bd 2), .ref (bd 3), .ref (bd 4), .int (nI n), .ref (bd 5), .ref (bd 6), .ref (bd 7), .ref (bd 8), .ref (bd 9), .ref (bd 10), .ref (bd 11), .ref (bd 12), .ref (bd 13), .int (nI unk), .int (nI cnt)])), ((bd 1), .inl (cI, 120, .inl K)), ((bd 2), .inl (cI, 120, .inl F)), ((bd 3), .inl (cI, 120, .inl S)), ((bd 4), .inl (cI, 120, .inl DD)), ((bd 5), .inl (cI, 5, .inl NU)), ((bd 6), .inl (cI, 120, .inl VA)), ((bd 7), .inl (cI, 120, .inl BE)), ((bd 8), .inl (cI, 128, .inl WA)), ((bd 9), .inl (cI, 30, .inl LE)), ((bd 10), .inl (cI, 30, .inl AA)), ((bd 11), .inl (cI, 30, .inl RI)), ((bd 12), .inl (cI, 10, .inl UN)), ((bd 13), .inl (cZ, 30, .inl CO))] H → va_D A [((bd 0), .inr (4, [.int th, .ref (bd 1), .ref (bd 2), .ref (bd 3), .ref (bd 4), .int (nI n), .ref (bd 5), .ref (bd 6), .ref (bd 7), .ref (bd 8), .ref (bd 9), .ref (bd 10), .ref (bd 11), .ref (bd 12), .ref (bd 13), .int (nI unk), .int (nI cnt)])), ((bd 1), .inl (cI, 120, .inl K)), ((bd 2), .inl (cI, 120, .inl F)), ((bd 3), .inl (cI, 120, .inl S)), ((bd 4), .inl (cI, 120, .inl DD)), ((bd 5), .inl (cI, 5, .inl NU)), ((bd 6), .inl (cI, 120, .inl VA)), ((bd 7), .inl (cI, 120, .inl BE)), ((bd 8), .inl (cI, 128, .inl WA)), ((bd 9), .inl (cI, 30, .inl LE)), ((bd 10), .inl (cI, 30, .inl AA)), ((bd 11), .inl (cI, 30, .inl RI)), ((bd 12), .inl (cI, 10, .inl UN)), ((bd 13), .inl (cZ, 30, .inl CO))] → va_S A H0 H locs → lv_has ls 4 [(0, .ref (bd 0)), (1, .int b), (2, .int (nI i))] → W p l e (rmH 2 0 0) s m args below meth c H locs 0 0 Q (F0 m 31 ls []) := by
  obtain ⟨hx, hb, hr, hml, hown, htb, hlocks⟩ := id C0
  intro q
  induction q with
  | zero =>
    intro i UN b hiV H locs ls hP hD hS hl
    obtain ⟨hi0, hR⟩ := hiV
    refine lv_iload_n hx hb d_Mo_solves_31 rfl (lv_at hl 2 rfl) ?_
    refine lv_aload_n hx hb d_Mo_solves_32 rfl (lv_at hl 0 rfl) ?_
    refine va_get (D := (dC, dI)) (ci := 4) (v := .int (nI cnt)) (C := R_Mo) (T := F_Mo) (N := 17) hx hb htb ul_Mo hown hK hP 0 rfl rfl 16 (by decide) (htb _ mw_564) (fun _ h9 => h9) rfl d_Mo_solves_33 ?_
    refine lv_icmp_ge (tgt := 152) hx hb d_Mo_solves_36 (by decide) (fun c_36 => ?_) (fun c_36 => ?_)
    · exact KB UN b H locs ls hR hP hD hS (lv_sub hl [0, 1] rfl)
    · exact absurd ((nI_leI (a := cnt) (b := i) (by omega) (by omega)).mpr (by omega)) c_36
  | succ q ih =>
    intro i UN b hiV H locs ls hP hD hS hl
    obtain ⟨hi0, hR⟩ := hiV
    refine lv_iload_n hx hb d_Mo_solves_31 rfl (lv_at hl 2 rfl) ?_
    refine lv_aload_n hx hb d_Mo_solves_32 rfl (lv_at hl 0 rfl) ?_
    refine va_get (D := (dC, dI)) (ci := 4) (v := .int (nI cnt)) (C := R_Mo) (T := F_Mo) (N := 17) hx hb htb ul_Mo hown hK hP 0 rfl rfl 16 (by decide) (htb _ mw_564) (fun _ h9 => h9) rfl d_Mo_solves_33 ?_
    refine lv_icmp_ge (tgt := 152) hx hb d_Mo_solves_36 (by decide) (fun c_36 => ?_) (fun c_36 => ?_)
    · exact absurd ((nI_leI (a := cnt) (b := i) (by omega) (by omega)).mp c_36) (by omega)
    · have hl9 := hlo i (by omega)
      have hr9 := hhi i (by omega)
      refine lv_aload_n hx hb d_Mo_solves_39 rfl (lv_at hl 0 rfl) ?_
      refine va_get (D := (dC, dI)) (ci := 4) (v := .ref (bd 13)) (C := R_Mo) (T := F_Mo) (N := 17) hx hb htb ul_Mo hown hK hP 0 rfl rfl 14 (by decide) (htb _ mw_562) (fun _ h9 => h9) rfl d_Mo_solves_40 ?_
      refine lv_iload_n hx hb d_Mo_solves_43 rfl (lv_at hl 2 rfl) ?_
      refine ry_zald (D := (dC, dI)) (j := i) hx hb hK hP 13 2 rfl rfl (by omega) (by decide) d_Mo_solves_44 ?_
      refine lv_if_ne (tgt := 51) hx hb d_Mo_solves_45 (by decide) (fun c_45 => ?_) (fun c_45 => ?_)
      · refine lv_aload_n hx hb d_Mo_solves_51 rfl (lv_at hl 0 rfl) ?_
        refine va_get (D := (dC, dI)) (ci := 4) (v := .ref (bd 9)) (C := R_Mo) (T := F_Mo) (N := 17) hx hb htb ul_Mo hown hK hP 0 rfl rfl 10 (by decide) (htb _ mw_558) (fun _ h9 => h9) rfl d_Mo_solves_52 ?_
        refine lv_iload_n hx hb d_Mo_solves_55 rfl (lv_at hl 2 rfl) ?_
        refine ry_iald (D := (dC, dI)) (j := i) hx hb hK hP 9 0 rfl rfl (by omega) (by decide) d_Mo_solves_56 ?_
        refine lv_if_ge (tgt := 64) hx hb d_Mo_solves_57 (by decide) (fun c_57 => ?_) (fun c_57 => ?_)
        · obtain ⟨hl10, hLEi⟩ := sd_yes hl9 c_57
          refine lv_aload_n hx hb d_Mo_solves_64 rfl (lv_at hl 0 rfl) ?_
          refine va_get (D := (dC, dI)) (ci := 4) (v := .ref (bd 12)) (C := R_Mo) (T := F_Mo) (N := 17) hx hb htb ul_Mo hown hK hP 0 rfl rfl 13 (by decide) (htb _ mw_561) (fun _ h9 => h9) rfl d_Mo_solves_65 ?_
          refine lv_aload_n hx hb d_Mo_solves_68 rfl (lv_at hl 0 rfl) ?_
          refine va_get (D := (dC, dI)) (ci := 4) (v := .ref (bd 9)) (C := R_Mo) (T := F_Mo) (N := 17) hx hb htb ul_Mo hown hK hP 0 rfl rfl 10 (by decide) (htb _ mw_558) (fun _ h9 => h9) rfl d_Mo_solves_69 ?_
          refine lv_iload_n hx hb d_Mo_solves_72 rfl (lv_at hl 2 rfl) ?_
          refine ry_iald (D := (dC, dI)) (j := i) hx hb hK hP 9 0 rfl rfl (by omega) (by decide) d_Mo_solves_73 ?_
          rw [hLEi]
          refine ry_iald (D := (dC, dI)) (j := lo i) hx hb hK hP 12 0 rfl rfl (by omega) (by decide) d_Mo_solves_74 ?_
          refine lv_aload_n hx hb d_Mo_solves_75 rfl (lv_at hl 0 rfl) ?_
          refine va_get (D := (dC, dI)) (ci := 4) (v := .ref (bd 10)) (C := R_Mo) (T := F_Mo) (N := 17) hx hb htb ul_Mo hown hK hP 0 rfl rfl 11 (by decide) (htb _ mw_559) (fun _ h9 => h9) rfl d_Mo_solves_76 ?_
          refine lv_iload_n hx hb d_Mo_solves_79 rfl (lv_at hl 2 rfl) ?_
          refine ry_iald (D := (dC, dI)) (j := i) hx hb hK hP 10 0 rfl rfl (by omega) (by decide) d_Mo_solves_80 ?_
          refine lv_iadd hx hb d_Mo_solves_81 ?_
          rw [show (((UN (lo i)) + (AA i)) : Int32) = uv UN (lo i) + AA i from by rw [uv_n hl10]]
          refine lv_istore_n (lv' := [(3, .int (uv UN (lo i) + AA i)), (0, .ref (bd 0)), (1, .int b), (2, .int (nI i))]) hx hb d_Mo_solves_82 rfl hl (by decide) rfl (fun ls hl => ?_)
          refine lv_aload_n hx hb d_Mo_solves_83 rfl (lv_at hl 1 rfl) ?_
          refine va_get (D := (dC, dI)) (ci := 4) (v := .ref (bd 11)) (C := R_Mo) (T := F_Mo) (N := 17) hx hb htb ul_Mo hown hK hP 0 rfl rfl 12 (by decide) (htb _ mw_560) (fun _ h9 => h9) rfl d_Mo_solves_84 ?_
          refine lv_iload_n hx hb d_Mo_solves_87 rfl (lv_at hl 3 rfl) ?_
          refine ry_iald (D := (dC, dI)) (j := i) hx hb hK hP 11 0 rfl rfl (by omega) (by decide) d_Mo_solves_88 ?_
          refine lv_if_ge (tgt := 99) hx hb d_Mo_solves_89 (by decide) (fun c_89 => ?_) (fun c_89 => ?_)
          · obtain ⟨hr10, hRIi⟩ := sd_yes hr9 c_89
            refine lv_iload_n hx hb d_Mo_solves_99 rfl (lv_at hl 0 rfl) ?_
            refine lv_sipush (v := 200) hx hb d_Mo_solves_100 (by decide) ?_
            refine lv_icmp_le (tgt := 108) hx hb d_Mo_solves_103 (by decide) (fun c_103 => ?_) (fun c_103 => ?_)
            · refine lv_aload_n hx hb d_Mo_solves_108 rfl (lv_at hl 1 rfl) ?_
              refine va_get (D := (dC, dI)) (ci := 4) (v := .ref (bd 11)) (C := R_Mo) (T := F_Mo) (N := 17) hx hb htb ul_Mo hown hK hP 0 rfl rfl 12 (by decide) (htb _ mw_560) (fun _ h9 => h9) rfl d_Mo_solves_109 ?_
              refine lv_iload_n hx hb d_Mo_solves_112 rfl (lv_at hl 3 rfl) ?_
              refine ry_iald (D := (dC, dI)) (j := i) hx hb hK hP 11 0 rfl rfl (by omega) (by decide) d_Mo_solves_113 ?_
              rw [hRIi]
              refine lv_if_lt (tgt := 146) hx hb d_Mo_solves_114 (by decide) (fun c_114 => ?_) (fun c_114 => ?_)
              · exact absurd c_114 (nI_pos (by omega))
              · refine lv_aload_n hx hb d_Mo_solves_117 rfl (lv_at hl 1 rfl) ?_
                refine va_get (D := (dC, dI)) (ci := 4) (v := .ref (bd 12)) (C := R_Mo) (T := F_Mo) (N := 17) hx hb htb ul_Mo hown hK hP 0 rfl rfl 13 (by decide) (htb _ mw_561) (fun _ h9 => h9) rfl d_Mo_solves_118 ?_
                refine lv_aload_n hx hb d_Mo_solves_121 rfl (lv_at hl 1 rfl) ?_
                refine va_get (D := (dC, dI)) (ci := 4) (v := .ref (bd 11)) (C := R_Mo) (T := F_Mo) (N := 17) hx hb htb ul_Mo hown hK hP 0 rfl rfl 12 (by decide) (htb _ mw_560) (fun _ h9 => h9) rfl d_Mo_solves_122 ?_
                refine lv_iload_n hx hb d_Mo_solves_125 rfl (lv_at hl 3 rfl) ?_
                refine ry_iald (D := (dC, dI)) (j := i) hx hb hK hP 11 0 rfl rfl (by omega) (by decide) d_Mo_solves_126 ?_
                rw [hRIi]
                refine ry_iald (D := (dC, dI)) (j := hi i) hx hb hK hP 12 0 rfl rfl (by omega) (by decide) d_Mo_solves_127 ?_
                refine lv_iload_n hx hb d_Mo_solves_128 rfl (lv_at hl 0 rfl) ?_
                refine lv_icmp_ge (tgt := 146) hx hb d_Mo_solves_129 (by decide) (fun c_129 => ?_) (fun c_129 => ?_)
                · refine lv_iinc (v := (nI (i + 1))) (lv' := [(2, .int (nI (i + 1))), (3, .int (uv UN (lo i) + AA i)), (0, .ref (bd 0)), (1, .int b)]) hx hb d_Mo_solves_146 hl (k := 3) rfl (nI_1 _) (by decide) rfl (fun ls hl => ?_)
                  refine lv_goto (tgt := 31) hx hb d_Mo_solves_149 (by decide) ?_
                  exact ih (i + 1) UN b ⟨by omega, by rw [hR, psm_1 c_45 hr10 c_103 c_129]⟩ H locs ls hP hD hS (lv_sub hl [2, 3, 0] rfl)
                · refine lv_aload_n hx hb d_Mo_solves_132 rfl (lv_at hl 1 rfl) ?_
                  refine va_get (D := (dC, dI)) (ci := 4) (v := .ref (bd 12)) (C := R_Mo) (T := F_Mo) (N := 17) hx hb htb ul_Mo hown hK hP 0 rfl rfl 13 (by decide) (htb _ mw_561) (fun _ h9 => h9) rfl d_Mo_solves_133 ?_
                  refine lv_aload_n hx hb d_Mo_solves_136 rfl (lv_at hl 1 rfl) ?_
                  refine va_get (D := (dC, dI)) (ci := 4) (v := .ref (bd 11)) (C := R_Mo) (T := F_Mo) (N := 17) hx hb htb ul_Mo hown hK hP 0 rfl rfl 12 (by decide) (htb _ mw_560) (fun _ h9 => h9) rfl d_Mo_solves_137 ?_
                  refine lv_iload_n hx hb d_Mo_solves_140 rfl (lv_at hl 3 rfl) ?_
                  refine ry_iald (D := (dC, dI)) (j := i) hx hb hK hP 11 0 rfl rfl (by omega) (by decide) d_Mo_solves_141 ?_
                  rw [hRIi]
                  refine lv_iload_n hx hb d_Mo_solves_142 rfl (lv_at hl 0 rfl) ?_
                  refine ry_iast (D := (dC, dI)) (j := hi i) hx hb hK hP hD hS 12 0 rfl rfl (by omega) (by decide) d_Mo_solves_143 (fun H locs hP hD hS => ?_)
                  have hP : va_P (dC, dI) classes [((bd 0), .inr (4, [.int th, .ref (bd 1), .ref (bd 2), .ref (bd 3), .ref (bd 4), .int (nI n), .ref (bd 5), .ref (bd 6), .ref (bd 7), .ref (bd 8), .ref (bd 9), .ref (bd 10), .ref (bd 11), .ref (bd 12), .ref (bd 13), .int (nI unk), .int (nI cnt)])), ((bd 1), .inl (cI, 120, .inl K)), ((bd 2), .inl (cI, 120, .inl F)), ((bd 3), .inl (cI, 120, .inl S)), ((bd 4), .inl (cI, 120, .inl DD)), ((bd 5), .inl (cI, 5, .inl NU)), ((bd 6), .inl (cI, 120, .inl VA)), ((bd 7), .inl (cI, 120, .inl BE)), ((bd 8), .inl (cI, 128, .inl WA)), ((bd 9), .inl (cI, 30, .inl LE)), ((bd 10), .inl (cI, 30, .inl AA)), ((bd 11), .inl (cI, 30, .inl RI)), ((bd 12), .inl (cI, 10, .inl (upd UN (hi i) (uv UN (lo i) + AA i)))), ((bd 13), .inl (cZ, 30, .inl CO))] H := hP
                  have hD : va_D A [((bd 0), .inr (4, [.int th, .ref (bd 1), .ref (bd 2), .ref (bd 3), .ref (bd 4), .int (nI n), .ref (bd 5), .ref (bd 6), .ref (bd 7), .ref (bd 8), .ref (bd 9), .ref (bd 10), .ref (bd 11), .ref (bd 12), .ref (bd 13), .int (nI unk), .int (nI cnt)])), ((bd 1), .inl (cI, 120, .inl K)), ((bd 2), .inl (cI, 120, .inl F)), ((bd 3), .inl (cI, 120, .inl S)), ((bd 4), .inl (cI, 120, .inl DD)), ((bd 5), .inl (cI, 5, .inl NU)), ((bd 6), .inl (cI, 120, .inl VA)), ((bd 7), .inl (cI, 120, .inl BE)), ((bd 8), .inl (cI, 128, .inl WA)), ((bd 9), .inl (cI, 30, .inl LE)), ((bd 10), .inl (cI, 30, .inl AA)), ((bd 11), .inl (cI, 30, .inl RI)), ((bd 12), .inl (cI, 10, .inl (upd UN (hi i) (uv UN (lo i) + AA i)))), ((bd 13), .inl (cZ, 30, .inl CO))] := hD
                  refine lv_iconst (v := 1) hx hb d_Mo_solves_144 (by decide) ?_
                  refine lv_istore_n (lv' := [(1, .int 1), (3, .int (uv UN (lo i) + AA i)), (0, .ref (bd 0)), (2, .int (nI i))]) hx hb d_Mo_solves_145 rfl hl (by decide) rfl (fun ls hl => ?_)
                  refine lv_iinc (v := (nI (i + 1))) (lv' := [(2, .int (nI (i + 1))), (1, .int 1), (3, .int (uv UN (lo i) + AA i)), (0, .ref (bd 0))]) hx hb d_Mo_solves_146 hl (k := 3) rfl (nI_1 _) (by decide) rfl (fun ls hl => ?_)
                  refine lv_goto (tgt := 31) hx hb d_Mo_solves_149 (by decide) ?_
                  exact ih (i + 1) (upd UN (hi i) (uv UN (lo i) + AA i)) 1 ⟨by omega, by rw [hR, psm_2 c_45 hr10 c_103 c_129]⟩ H locs ls hP hD hS (lv_sub hl [3, 1, 0] rfl)
            · exact KA UN b H locs ls (by rw [hR, psm_f c_45 hr10 c_103]) hP hD hS (lv_sub hl [1] rfl)
          · have er : hi i = 10 := sd_no hr9 c_89
            refine lv_iload_n hx hb d_Mo_solves_92 rfl (lv_at hl 0 rfl) ?_
            refine lv_if_le (tgt := 108) hx hb d_Mo_solves_93 (by decide) (fun c_93 => ?_) (fun c_93 => ?_)
            · refine lv_aload_n hx hb d_Mo_solves_108 rfl (lv_at hl 1 rfl) ?_
              refine va_get (D := (dC, dI)) (ci := 4) (v := .ref (bd 11)) (C := R_Mo) (T := F_Mo) (N := 17) hx hb htb ul_Mo hown hK hP 0 rfl rfl 12 (by decide) (htb _ mw_560) (fun _ h9 => h9) rfl d_Mo_solves_109 ?_
              refine lv_iload_n hx hb d_Mo_solves_112 rfl (lv_at hl 3 rfl) ?_
              refine ry_iald (D := (dC, dI)) (j := i) hx hb hK hP 11 0 rfl rfl (by omega) (by decide) d_Mo_solves_113 ?_
              refine lv_if_lt (tgt := 146) hx hb d_Mo_solves_114 (by decide) (fun c_114 => ?_) (fun c_114 => ?_)
              · refine lv_iinc (v := (nI (i + 1))) (lv' := [(2, .int (nI (i + 1))), (3, .int (uv UN (lo i) + AA i)), (0, .ref (bd 0)), (1, .int b)]) hx hb d_Mo_solves_146 hl (k := 3) rfl (nI_1 _) (by decide) rfl (fun ls hl => ?_)
                refine lv_goto (tgt := 31) hx hb d_Mo_solves_149 (by decide) ?_
                exact ih (i + 1) UN b ⟨by omega, by rw [hR, psm_n c_45 er c_93]⟩ H locs ls hP hD hS (lv_sub hl [2, 3, 0] rfl)
              · exact absurd (Int32.not_le.mp c_89) c_114
            · refine lv_goto (tgt := 106) hx hb d_Mo_solves_96 (by decide) ?_
              exact KA UN b H locs ls (by rw [hR, psm_nf c_45 er c_93]) hP hD hS (lv_sub hl [1] rfl)
        · have el : lo i = 10 := sd_no hl9 c_57
          refine lv_iconst (v := 0) hx hb d_Mo_solves_60 (by decide) ?_
          refine lv_goto (tgt := 75) hx hb d_Mo_solves_61 (by decide) ?_
          refine lv_aload_n hx hb d_Mo_solves_75 rfl (lv_at hl 0 rfl) ?_
          refine va_get (D := (dC, dI)) (ci := 4) (v := .ref (bd 10)) (C := R_Mo) (T := F_Mo) (N := 17) hx hb htb ul_Mo hown hK hP 0 rfl rfl 11 (by decide) (htb _ mw_559) (fun _ h9 => h9) rfl d_Mo_solves_76 ?_
          refine lv_iload_n hx hb d_Mo_solves_79 rfl (lv_at hl 2 rfl) ?_
          refine ry_iald (D := (dC, dI)) (j := i) hx hb hK hP 10 0 rfl rfl (by omega) (by decide) d_Mo_solves_80 ?_
          refine lv_iadd hx hb d_Mo_solves_81 ?_
          rw [show ((0 + (AA i)) : Int32) = uv UN (lo i) + AA i from by rw [uv_10 el]]
          refine lv_istore_n (lv' := [(3, .int (uv UN (lo i) + AA i)), (0, .ref (bd 0)), (1, .int b), (2, .int (nI i))]) hx hb d_Mo_solves_82 rfl hl (by decide) rfl (fun ls hl => ?_)
          refine lv_aload_n hx hb d_Mo_solves_83 rfl (lv_at hl 1 rfl) ?_
          refine va_get (D := (dC, dI)) (ci := 4) (v := .ref (bd 11)) (C := R_Mo) (T := F_Mo) (N := 17) hx hb htb ul_Mo hown hK hP 0 rfl rfl 12 (by decide) (htb _ mw_560) (fun _ h9 => h9) rfl d_Mo_solves_84 ?_
          refine lv_iload_n hx hb d_Mo_solves_87 rfl (lv_at hl 3 rfl) ?_
          refine ry_iald (D := (dC, dI)) (j := i) hx hb hK hP 11 0 rfl rfl (by omega) (by decide) d_Mo_solves_88 ?_
          refine lv_if_ge (tgt := 99) hx hb d_Mo_solves_89 (by decide) (fun c_89 => ?_) (fun c_89 => ?_)
          · obtain ⟨hr10, hRIi⟩ := sd_yes hr9 c_89
            refine lv_iload_n hx hb d_Mo_solves_99 rfl (lv_at hl 0 rfl) ?_
            refine lv_sipush (v := 200) hx hb d_Mo_solves_100 (by decide) ?_
            refine lv_icmp_le (tgt := 108) hx hb d_Mo_solves_103 (by decide) (fun c_103 => ?_) (fun c_103 => ?_)
            · refine lv_aload_n hx hb d_Mo_solves_108 rfl (lv_at hl 1 rfl) ?_
              refine va_get (D := (dC, dI)) (ci := 4) (v := .ref (bd 11)) (C := R_Mo) (T := F_Mo) (N := 17) hx hb htb ul_Mo hown hK hP 0 rfl rfl 12 (by decide) (htb _ mw_560) (fun _ h9 => h9) rfl d_Mo_solves_109 ?_
              refine lv_iload_n hx hb d_Mo_solves_112 rfl (lv_at hl 3 rfl) ?_
              refine ry_iald (D := (dC, dI)) (j := i) hx hb hK hP 11 0 rfl rfl (by omega) (by decide) d_Mo_solves_113 ?_
              rw [hRIi]
              refine lv_if_lt (tgt := 146) hx hb d_Mo_solves_114 (by decide) (fun c_114 => ?_) (fun c_114 => ?_)
              · exact absurd c_114 (nI_pos (by omega))
              · refine lv_aload_n hx hb d_Mo_solves_117 rfl (lv_at hl 1 rfl) ?_
                refine va_get (D := (dC, dI)) (ci := 4) (v := .ref (bd 12)) (C := R_Mo) (T := F_Mo) (N := 17) hx hb htb ul_Mo hown hK hP 0 rfl rfl 13 (by decide) (htb _ mw_561) (fun _ h9 => h9) rfl d_Mo_solves_118 ?_
                refine lv_aload_n hx hb d_Mo_solves_121 rfl (lv_at hl 1 rfl) ?_
                refine va_get (D := (dC, dI)) (ci := 4) (v := .ref (bd 11)) (C := R_Mo) (T := F_Mo) (N := 17) hx hb htb ul_Mo hown hK hP 0 rfl rfl 12 (by decide) (htb _ mw_560) (fun _ h9 => h9) rfl d_Mo_solves_122 ?_
                refine lv_iload_n hx hb d_Mo_solves_125 rfl (lv_at hl 3 rfl) ?_
                refine ry_iald (D := (dC, dI)) (j := i) hx hb hK hP 11 0 rfl rfl (by omega) (by decide) d_Mo_solves_126 ?_
                rw [hRIi]
                refine ry_iald (D := (dC, dI)) (j := hi i) hx hb hK hP 12 0 rfl rfl (by omega) (by decide) d_Mo_solves_127 ?_
                refine lv_iload_n hx hb d_Mo_solves_128 rfl (lv_at hl 0 rfl) ?_
                refine lv_icmp_ge (tgt := 146) hx hb d_Mo_solves_129 (by decide) (fun c_129 => ?_) (fun c_129 => ?_)
                · refine lv_iinc (v := (nI (i + 1))) (lv' := [(2, .int (nI (i + 1))), (3, .int (uv UN (lo i) + AA i)), (0, .ref (bd 0)), (1, .int b)]) hx hb d_Mo_solves_146 hl (k := 3) rfl (nI_1 _) (by decide) rfl (fun ls hl => ?_)
                  refine lv_goto (tgt := 31) hx hb d_Mo_solves_149 (by decide) ?_
                  exact ih (i + 1) UN b ⟨by omega, by rw [hR, psm_1 c_45 hr10 c_103 c_129]⟩ H locs ls hP hD hS (lv_sub hl [2, 3, 0] rfl)
                · refine lv_aload_n hx hb d_Mo_solves_132 rfl (lv_at hl 1 rfl) ?_
                  refine va_get (D := (dC, dI)) (ci := 4) (v := .ref (bd 12)) (C := R_Mo) (T := F_Mo) (N := 17) hx hb htb ul_Mo hown hK hP 0 rfl rfl 13 (by decide) (htb _ mw_561) (fun _ h9 => h9) rfl d_Mo_solves_133 ?_
                  refine lv_aload_n hx hb d_Mo_solves_136 rfl (lv_at hl 1 rfl) ?_
                  refine va_get (D := (dC, dI)) (ci := 4) (v := .ref (bd 11)) (C := R_Mo) (T := F_Mo) (N := 17) hx hb htb ul_Mo hown hK hP 0 rfl rfl 12 (by decide) (htb _ mw_560) (fun _ h9 => h9) rfl d_Mo_solves_137 ?_
                  refine lv_iload_n hx hb d_Mo_solves_140 rfl (lv_at hl 3 rfl) ?_
                  refine ry_iald (D := (dC, dI)) (j := i) hx hb hK hP 11 0 rfl rfl (by omega) (by decide) d_Mo_solves_141 ?_
                  rw [hRIi]
                  refine lv_iload_n hx hb d_Mo_solves_142 rfl (lv_at hl 0 rfl) ?_
                  refine ry_iast (D := (dC, dI)) (j := hi i) hx hb hK hP hD hS 12 0 rfl rfl (by omega) (by decide) d_Mo_solves_143 (fun H locs hP hD hS => ?_)
                  have hP : va_P (dC, dI) classes [((bd 0), .inr (4, [.int th, .ref (bd 1), .ref (bd 2), .ref (bd 3), .ref (bd 4), .int (nI n), .ref (bd 5), .ref (bd 6), .ref (bd 7), .ref (bd 8), .ref (bd 9), .ref (bd 10), .ref (bd 11), .ref (bd 12), .ref (bd 13), .int (nI unk), .int (nI cnt)])), ((bd 1), .inl (cI, 120, .inl K)), ((bd 2), .inl (cI, 120, .inl F)), ((bd 3), .inl (cI, 120, .inl S)), ((bd 4), .inl (cI, 120, .inl DD)), ((bd 5), .inl (cI, 5, .inl NU)), ((bd 6), .inl (cI, 120, .inl VA)), ((bd 7), .inl (cI, 120, .inl BE)), ((bd 8), .inl (cI, 128, .inl WA)), ((bd 9), .inl (cI, 30, .inl LE)), ((bd 10), .inl (cI, 30, .inl AA)), ((bd 11), .inl (cI, 30, .inl RI)), ((bd 12), .inl (cI, 10, .inl (upd UN (hi i) (uv UN (lo i) + AA i)))), ((bd 13), .inl (cZ, 30, .inl CO))] H := hP
                  have hD : va_D A [((bd 0), .inr (4, [.int th, .ref (bd 1), .ref (bd 2), .ref (bd 3), .ref (bd 4), .int (nI n), .ref (bd 5), .ref (bd 6), .ref (bd 7), .ref (bd 8), .ref (bd 9), .ref (bd 10), .ref (bd 11), .ref (bd 12), .ref (bd 13), .int (nI unk), .int (nI cnt)])), ((bd 1), .inl (cI, 120, .inl K)), ((bd 2), .inl (cI, 120, .inl F)), ((bd 3), .inl (cI, 120, .inl S)), ((bd 4), .inl (cI, 120, .inl DD)), ((bd 5), .inl (cI, 5, .inl NU)), ((bd 6), .inl (cI, 120, .inl VA)), ((bd 7), .inl (cI, 120, .inl BE)), ((bd 8), .inl (cI, 128, .inl WA)), ((bd 9), .inl (cI, 30, .inl LE)), ((bd 10), .inl (cI, 30, .inl AA)), ((bd 11), .inl (cI, 30, .inl RI)), ((bd 12), .inl (cI, 10, .inl (upd UN (hi i) (uv UN (lo i) + AA i)))), ((bd 13), .inl (cZ, 30, .inl CO))] := hD
                  refine lv_iconst (v := 1) hx hb d_Mo_solves_144 (by decide) ?_
                  refine lv_istore_n (lv' := [(1, .int 1), (3, .int (uv UN (lo i) + AA i)), (0, .ref (bd 0)), (2, .int (nI i))]) hx hb d_Mo_solves_145 rfl hl (by decide) rfl (fun ls hl => ?_)
                  refine lv_iinc (v := (nI (i + 1))) (lv' := [(2, .int (nI (i + 1))), (1, .int 1), (3, .int (uv UN (lo i) + AA i)), (0, .ref (bd 0))]) hx hb d_Mo_solves_146 hl (k := 3) rfl (nI_1 _) (by decide) rfl (fun ls hl => ?_)
                  refine lv_goto (tgt := 31) hx hb d_Mo_solves_149 (by decide) ?_
                  exact ih (i + 1) (upd UN (hi i) (uv UN (lo i) + AA i)) 1 ⟨by omega, by rw [hR, psm_2 c_45 hr10 c_103 c_129]⟩ H locs ls hP hD hS (lv_sub hl [3, 1, 0] rfl)
            · exact KA UN b H locs ls (by rw [hR, psm_f c_45 hr10 c_103]) hP hD hS (lv_sub hl [1] rfl)
          · have er : hi i = 10 := sd_no hr9 c_89
            refine lv_iload_n hx hb d_Mo_solves_92 rfl (lv_at hl 0 rfl) ?_
            refine lv_if_le (tgt := 108) hx hb d_Mo_solves_93 (by decide) (fun c_93 => ?_) (fun c_93 => ?_)
            · refine lv_aload_n hx hb d_Mo_solves_108 rfl (lv_at hl 1 rfl) ?_
              refine va_get (D := (dC, dI)) (ci := 4) (v := .ref (bd 11)) (C := R_Mo) (T := F_Mo) (N := 17) hx hb htb ul_Mo hown hK hP 0 rfl rfl 12 (by decide) (htb _ mw_560) (fun _ h9 => h9) rfl d_Mo_solves_109 ?_
              refine lv_iload_n hx hb d_Mo_solves_112 rfl (lv_at hl 3 rfl) ?_
              refine ry_iald (D := (dC, dI)) (j := i) hx hb hK hP 11 0 rfl rfl (by omega) (by decide) d_Mo_solves_113 ?_
              refine lv_if_lt (tgt := 146) hx hb d_Mo_solves_114 (by decide) (fun c_114 => ?_) (fun c_114 => ?_)
              · refine lv_iinc (v := (nI (i + 1))) (lv' := [(2, .int (nI (i + 1))), (3, .int (uv UN (lo i) + AA i)), (0, .ref (bd 0)), (1, .int b)]) hx hb d_Mo_solves_146 hl (k := 3) rfl (nI_1 _) (by decide) rfl (fun ls hl => ?_)
                refine lv_goto (tgt := 31) hx hb d_Mo_solves_149 (by decide) ?_
                exact ih (i + 1) UN b ⟨by omega, by rw [hR, psm_n c_45 er c_93]⟩ H locs ls hP hD hS (lv_sub hl [2, 3, 0] rfl)
              · exact absurd (Int32.not_le.mp c_89) c_114
            · refine lv_goto (tgt := 106) hx hb d_Mo_solves_96 (by decide) ?_
              exact KA UN b H locs ls (by rw [hR, psm_nf c_45 er c_93]) hP hD hS (lv_sub hl [1] rfl)
      · refine lv_goto (tgt := 146) hx hb d_Mo_solves_48 (by decide) ?_
        refine lv_iinc (v := (nI (i + 1))) (lv' := [(2, .int (nI (i + 1))), (0, .ref (bd 0)), (1, .int b)]) hx hb d_Mo_solves_146 hl (k := 2) rfl (nI_1 _) (by decide) rfl (fun ls hl => ?_)
        refine lv_goto (tgt := 31) hx hb d_Mo_solves_149 (by decide) ?_
        exact ih (i + 1) UN b ⟨by omega, by rw [hR, psm_0 c_45]⟩ H locs ls hP hD hS (lv_sub hl [1, 2, 0] rfl)

set_option maxHeartbeats 4000000 in
set_option maxRecDepth 100000 in
theorem lp_Mo_solves2 {p : Program} (l : Launch) {e : Env} {s : State} {m : MethodId} {args : Array Value} {below : List Frame} {meth : Method} {c : Code} {Q : State → Prop} {A : Nat → Prop} {H0 : Heap} (C0 : cx p s m args meth c b_Mo_solves 4 (some .boolean) R_Mo) (dC : Nat → ClassId) (dI : Nat → Nat → Nat) (cI cL cZ : ClassId) (bd : Nat → Nat) (th : Int32) (K F S DD : Nat → Int32) (n : Nat) (NU VA BE WA LE AA RI CO : Nat → Int32) (unk cnt : Nat) (hn : n ≤ 120) (hunk : unk ≤ 10) (hcnt : cnt ≤ 30) (lo hi : Nat → Nat) (hlo : ∀ j, j < cnt → sdN (LE j) (lo j)) (hhi : ∀ j, j < cnt → sdN (RI j) (hi j)) (RR : Int32 × (Nat → Int32)) (hK : va_K (dC, dI) classes (tyI cI cL cZ) s) (hA : ∀ q : Nat, H0.size ≤ q → A q) 
    (KA : ∀ (UN : Nat → Int32) (H : Heap) (locs : List Loc) (ls : Array Slot), RR = (0, UN) → va_P (dC, dI) classes [((bd 0), .inr (4, [.int th, .ref (bd 1), .ref (bd 2), .ref (bd 3), .ref (bd 4), .int (nI n), .ref (bd 5), .ref (bd 6), .ref (bd 7), .ref (bd 8), .ref (bd 9), .ref (bd 10), .ref (bd 11), .ref (bd 12), .ref (bd 13), .int (nI unk), .int (nI cnt)])), ((bd 1), .inl (cI, 120, .inl K)), ((bd 2), .inl (cI, 120, .inl F)), ((bd 3), .inl (cI, 120, .inl S)), ((bd 4), .inl (cI, 120, .inl DD)), ((bd 5), .inl (cI, 5, .inl NU)), ((bd 6), .inl (cI, 120, .inl VA)), ((bd 7), .inl (cI, 120, .inl BE)), ((bd 8), .inl (cI, 128, .inl WA)), ((bd 9), .inl (cI, 30, .inl LE)), ((bd 10), .inl (cI, 30, .inl AA)), ((bd 11), .inl (cI, 30, .inl RI)), ((bd 12), .inl (cI, 10, .inl UN)), ((bd 13), .inl (cZ, 30, .inl CO))] H → va_D A [((bd 0), .inr (4, [.int th, .ref (bd 1), .ref (bd 2), .ref (bd 3), .ref (bd 4), .int (nI n), .ref (bd 5), .ref (bd 6), .ref (bd 7), .ref (bd 8), .ref (bd 9), .ref (bd 10), .ref (bd 11), .ref (bd 12), .ref (bd 13), .int (nI unk), .int (nI cnt)])), ((bd 1), .inl (cI, 120, .inl K)), ((bd 2), .inl (cI, 120, .inl F)), ((bd 3), .inl (cI, 120, .inl S)), ((bd 4), .inl (cI, 120, .inl DD)), ((bd 5), .inl (cI, 5, .inl NU)), ((bd 6), .inl (cI, 120, .inl VA)), ((bd 7), .inl (cI, 120, .inl BE)), ((bd 8), .inl (cI, 128, .inl WA)), ((bd 9), .inl (cI, 30, .inl LE)), ((bd 10), .inl (cI, 30, .inl AA)), ((bd 11), .inl (cI, 30, .inl RI)), ((bd 12), .inl (cI, 10, .inl UN)), ((bd 13), .inl (cZ, 30, .inl CO))] → va_S A H0 H locs → lv_has ls 4 [(0, .ref (bd 0))] → W p l e (rmH 2 0 0) s m args below meth c H locs 0 0 Q (F0 m 106 ls []))
    (KB : ∀ (UN : Nat → Int32) (H : Heap) (locs : List Loc) (ls : Array Slot), RR = (1, UN) → va_P (dC, dI) classes [((bd 0), .inr (4, [.int th, .ref (bd 1), .ref (bd 2), .ref (bd 3), .ref (bd 4), .int (nI n), .ref (bd 5), .ref (bd 6), .ref (bd 7), .ref (bd 8), .ref (bd 9), .ref (bd 10), .ref (bd 11), .ref (bd 12), .ref (bd 13), .int (nI unk), .int (nI cnt)])), ((bd 1), .inl (cI, 120, .inl K)), ((bd 2), .inl (cI, 120, .inl F)), ((bd 3), .inl (cI, 120, .inl S)), ((bd 4), .inl (cI, 120, .inl DD)), ((bd 5), .inl (cI, 5, .inl NU)), ((bd 6), .inl (cI, 120, .inl VA)), ((bd 7), .inl (cI, 120, .inl BE)), ((bd 8), .inl (cI, 128, .inl WA)), ((bd 9), .inl (cI, 30, .inl LE)), ((bd 10), .inl (cI, 30, .inl AA)), ((bd 11), .inl (cI, 30, .inl RI)), ((bd 12), .inl (cI, 10, .inl UN)), ((bd 13), .inl (cZ, 30, .inl CO))] H → va_D A [((bd 0), .inr (4, [.int th, .ref (bd 1), .ref (bd 2), .ref (bd 3), .ref (bd 4), .int (nI n), .ref (bd 5), .ref (bd 6), .ref (bd 7), .ref (bd 8), .ref (bd 9), .ref (bd 10), .ref (bd 11), .ref (bd 12), .ref (bd 13), .int (nI unk), .int (nI cnt)])), ((bd 1), .inl (cI, 120, .inl K)), ((bd 2), .inl (cI, 120, .inl F)), ((bd 3), .inl (cI, 120, .inl S)), ((bd 4), .inl (cI, 120, .inl DD)), ((bd 5), .inl (cI, 5, .inl NU)), ((bd 6), .inl (cI, 120, .inl VA)), ((bd 7), .inl (cI, 120, .inl BE)), ((bd 8), .inl (cI, 128, .inl WA)), ((bd 9), .inl (cI, 30, .inl LE)), ((bd 10), .inl (cI, 30, .inl AA)), ((bd 11), .inl (cI, 30, .inl RI)), ((bd 12), .inl (cI, 10, .inl UN)), ((bd 13), .inl (cZ, 30, .inl CO))] → va_S A H0 H locs → lv_has ls 4 [(0, .ref (bd 0))] → W p l e (rmH 2 0 0) s m args below meth c H locs 0 0 Q (F0 m 155 ls []))
    : ∀ (q : Nat) (UN : Nat → Int32), trm lo hi AA CO cnt q UN ∧ RR = mrd lo hi AA CO cnt q UN → ∀ (H : Heap) (locs : List Loc) (ls : Array Slot), va_P (dC, dI) classes [((bd 0), .inr (4, [.int th, .ref (bd 1), .ref (bd 2), .ref (bd 3), .ref (bd 4), .int (nI n), .ref (bd 5), .ref (bd 6), .ref (bd 7), .ref (bd 8), .ref (bd 9), .ref (bd 10), .ref (bd 11), .ref (bd 12), .ref (bd 13), .int (nI unk), .int (nI cnt)])), ((bd 1), .inl (cI, 120, .inl K)), ((bd 2), .inl (cI, 120, .inl F)), ((bd 3), .inl (cI, 120, .inl S)), ((bd 4), .inl (cI, 120, .inl DD)), ((bd 5), .inl (cI, 5, .inl NU)), ((bd 6), .inl (cI, 120, .inl VA)), ((bd 7), .inl (cI, 120, .inl BE)), ((bd 8), .inl (cI, 128, .inl WA)), ((bd 9), .inl (cI, 30, .inl LE)), ((bd 10), .inl (cI, 30, .inl AA)), ((bd 11), .inl (cI, 30, .inl RI)), ((bd 12), .inl (cI, 10, .inl UN)), ((bd 13), .inl (cZ, 30, .inl CO))] H → va_D A [((bd 0), .inr (4, [.int th, .ref (bd 1), .ref (bd 2), .ref (bd 3), .ref (bd 4), .int (nI n), .ref (bd 5), .ref (bd 6), .ref (bd 7), .ref (bd 8), .ref (bd 9), .ref (bd 10), .ref (bd 11), .ref (bd 12), .ref (bd 13), .int (nI unk), .int (nI cnt)])), ((bd 1), .inl (cI, 120, .inl K)), ((bd 2), .inl (cI, 120, .inl F)), ((bd 3), .inl (cI, 120, .inl S)), ((bd 4), .inl (cI, 120, .inl DD)), ((bd 5), .inl (cI, 5, .inl NU)), ((bd 6), .inl (cI, 120, .inl VA)), ((bd 7), .inl (cI, 120, .inl BE)), ((bd 8), .inl (cI, 128, .inl WA)), ((bd 9), .inl (cI, 30, .inl LE)), ((bd 10), .inl (cI, 30, .inl AA)), ((bd 11), .inl (cI, 30, .inl RI)), ((bd 12), .inl (cI, 10, .inl UN)), ((bd 13), .inl (cZ, 30, .inl CO))] → va_S A H0 H locs → lv_has ls 4 [(0, .ref (bd 0))] → W p l e (rmH 2 0 0) s m args below meth c H locs 0 0 Q (F0 m 27 ls []) := by
  obtain ⟨hx, hb, hr, hml, hown, htb, hlocks⟩ := id C0
  intro q
  induction q with
  | zero =>
    intro UN hiV; exact hiV.1.elim
  | succ q ih =>
    intro UN hiV H locs ls hP hD hS hl
    obtain ⟨ht, hR⟩ := hiV
    refine lv_iconst (v := 0) hx hb d_Mo_solves_27 (by decide) ?_
    refine lv_istore_n (lv' := [(1, .int 0), (0, .ref (bd 0))]) hx hb d_Mo_solves_28 rfl hl (by decide) rfl (fun ls hl => ?_)
    refine lv_iconst (v := 0) hx hb d_Mo_solves_29 (by decide) ?_
    refine lv_istore_n (lv' := [(2, .int 0), (1, .int 0), (0, .ref (bd 0))]) hx hb d_Mo_solves_30 rfl hl (by decide) rfl (fun ls hl => ?_)
    refine lp_Mo_solves1 l C0 dC dI cI cL cZ bd th K F S DD n NU VA BE WA LE AA RI CO unk cnt hn hunk hcnt lo hi hlo hhi (psm lo hi AA CO 0 cnt UN 0) hK hA (fun UN9 b9 H locs ls hR9 hP hD hS hl => ?_) (fun UN9 b9 H locs ls hR9 hP hD hS hl => ?_) cnt 0 UN 0 ⟨by omega, rfl⟩ H locs ls hP hD hS (lv_sub hl [2, 1, 0] rfl)
    · exact KA UN9 H locs ls (by rw [hR, mrd_f hR9]) hP hD hS hl
    · refine lv_goto (tgt := 23) hx hb d_Mo_solves_152 (by decide) ?_
      refine lv_iload_n hx hb d_Mo_solves_23 rfl (lv_at hl 1 rfl) ?_
      refine lv_if_eq (tgt := 155) hx hb d_Mo_solves_24 (by decide) (fun c_24 => ?_) (fun c_24 => ?_)
      · exact KB UN9 H locs ls (by rw [hR, mrd_t hR9 c_24]) hP hD hS (lv_sub hl [0] rfl)
      · exact ih UN9 ⟨trm_s ht hR9 c_24, by rw [hR, mrd_s hR9 c_24]⟩ H locs ls hP hD hS (lv_sub hl [0] rfl)

set_option maxHeartbeats 4000000 in
set_option maxRecDepth 100000 in
theorem lp_Mo_solves0 {p : Program} (l : Launch) {e : Env} {s : State} {m : MethodId} {args : Array Value} {below : List Frame} {meth : Method} {c : Code} {Q : State → Prop} {A : Nat → Prop} {H0 : Heap} (C0 : cx p s m args meth c b_Mo_solves 4 (some .boolean) R_Mo) (dC : Nat → ClassId) (dI : Nat → Nat → Nat) (cI cL cZ : ClassId) (bd : Nat → Nat) (th : Int32) (K F S DD : Nat → Int32) (n : Nat) (NU VA BE WA LE AA RI UN CO : Nat → Int32) (unk cnt : Nat) (hn : n ≤ 120) (hunk : unk ≤ 10) (hcnt : cnt ≤ 30) (hK : va_K (dC, dI) classes (tyI cI cL cZ) s) (hA : ∀ q : Nat, H0.size ≤ q → A q) 
    (KB : ∀ (H : Heap) (locs : List Loc) (ls : Array Slot), va_P (dC, dI) classes [((bd 0), .inr (4, [.int th, .ref (bd 1), .ref (bd 2), .ref (bd 3), .ref (bd 4), .int (nI n), .ref (bd 5), .ref (bd 6), .ref (bd 7), .ref (bd 8), .ref (bd 9), .ref (bd 10), .ref (bd 11), .ref (bd 12), .ref (bd 13), .int (nI unk), .int (nI cnt)])), ((bd 1), .inl (cI, 120, .inl K)), ((bd 2), .inl (cI, 120, .inl F)), ((bd 3), .inl (cI, 120, .inl S)), ((bd 4), .inl (cI, 120, .inl DD)), ((bd 5), .inl (cI, 5, .inl NU)), ((bd 6), .inl (cI, 120, .inl VA)), ((bd 7), .inl (cI, 120, .inl BE)), ((bd 8), .inl (cI, 128, .inl WA)), ((bd 9), .inl (cI, 30, .inl LE)), ((bd 10), .inl (cI, 30, .inl AA)), ((bd 11), .inl (cI, 30, .inl RI)), ((bd 12), .inl (cI, 10, .inl (fl 10 0 UN))), ((bd 13), .inl (cZ, 30, .inl CO))] H → va_D A [((bd 0), .inr (4, [.int th, .ref (bd 1), .ref (bd 2), .ref (bd 3), .ref (bd 4), .int (nI n), .ref (bd 5), .ref (bd 6), .ref (bd 7), .ref (bd 8), .ref (bd 9), .ref (bd 10), .ref (bd 11), .ref (bd 12), .ref (bd 13), .int (nI unk), .int (nI cnt)])), ((bd 1), .inl (cI, 120, .inl K)), ((bd 2), .inl (cI, 120, .inl F)), ((bd 3), .inl (cI, 120, .inl S)), ((bd 4), .inl (cI, 120, .inl DD)), ((bd 5), .inl (cI, 5, .inl NU)), ((bd 6), .inl (cI, 120, .inl VA)), ((bd 7), .inl (cI, 120, .inl BE)), ((bd 8), .inl (cI, 128, .inl WA)), ((bd 9), .inl (cI, 30, .inl LE)), ((bd 10), .inl (cI, 30, .inl AA)), ((bd 11), .inl (cI, 30, .inl RI)), ((bd 12), .inl (cI, 10, .inl (fl 10 0 UN))), ((bd 13), .inl (cZ, 30, .inl CO))] → va_S A H0 H locs → lv_has ls 4 [(0, .ref (bd 0))] → W p l e (rmH 2 0 0) s m args below meth c H locs 0 0 Q (F0 m 21 ls []))
    : ∀ (q : Nat) (i : Nat), i + q = 10 → ∀ (H : Heap) (locs : List Loc) (ls : Array Slot), va_P (dC, dI) classes [((bd 0), .inr (4, [.int th, .ref (bd 1), .ref (bd 2), .ref (bd 3), .ref (bd 4), .int (nI n), .ref (bd 5), .ref (bd 6), .ref (bd 7), .ref (bd 8), .ref (bd 9), .ref (bd 10), .ref (bd 11), .ref (bd 12), .ref (bd 13), .int (nI unk), .int (nI cnt)])), ((bd 1), .inl (cI, 120, .inl K)), ((bd 2), .inl (cI, 120, .inl F)), ((bd 3), .inl (cI, 120, .inl S)), ((bd 4), .inl (cI, 120, .inl DD)), ((bd 5), .inl (cI, 5, .inl NU)), ((bd 6), .inl (cI, 120, .inl VA)), ((bd 7), .inl (cI, 120, .inl BE)), ((bd 8), .inl (cI, 128, .inl WA)), ((bd 9), .inl (cI, 30, .inl LE)), ((bd 10), .inl (cI, 30, .inl AA)), ((bd 11), .inl (cI, 30, .inl RI)), ((bd 12), .inl (cI, 10, .inl (fl i 0 UN))), ((bd 13), .inl (cZ, 30, .inl CO))] H → va_D A [((bd 0), .inr (4, [.int th, .ref (bd 1), .ref (bd 2), .ref (bd 3), .ref (bd 4), .int (nI n), .ref (bd 5), .ref (bd 6), .ref (bd 7), .ref (bd 8), .ref (bd 9), .ref (bd 10), .ref (bd 11), .ref (bd 12), .ref (bd 13), .int (nI unk), .int (nI cnt)])), ((bd 1), .inl (cI, 120, .inl K)), ((bd 2), .inl (cI, 120, .inl F)), ((bd 3), .inl (cI, 120, .inl S)), ((bd 4), .inl (cI, 120, .inl DD)), ((bd 5), .inl (cI, 5, .inl NU)), ((bd 6), .inl (cI, 120, .inl VA)), ((bd 7), .inl (cI, 120, .inl BE)), ((bd 8), .inl (cI, 128, .inl WA)), ((bd 9), .inl (cI, 30, .inl LE)), ((bd 10), .inl (cI, 30, .inl AA)), ((bd 11), .inl (cI, 30, .inl RI)), ((bd 12), .inl (cI, 10, .inl (fl i 0 UN))), ((bd 13), .inl (cZ, 30, .inl CO))] → va_S A H0 H locs → lv_has ls 4 [(0, .ref (bd 0)), (1, .int (nI i))] → W p l e (rmH 2 0 0) s m args below meth c H locs 0 0 Q (F0 m 2 ls []) := by
  obtain ⟨hx, hb, hr, hml, hown, htb, hlocks⟩ := id C0
  intro q
  induction q with
  | zero =>
    intro i hi0 H locs ls hP hD hS hl
    refine lv_iload_n hx hb d_Mo_solves_2 rfl (lv_at hl 1 rfl) ?_
    refine lv_bipush (v := 10) hx hb d_Mo_solves_3 (by decide) ?_
    refine lv_icmp_ge (tgt := 21) hx hb d_Mo_solves_5 (by decide) (fun c_5 => ?_) (fun c_5 => ?_)
    · exact KB H locs ls (by have e9 : i = 10 := (by omega); subst e9; exact hP) (by have e9 : i = 10 := (by omega); subst e9; exact hD) hS (lv_sub hl [0] rfl)
    · exact absurd ((nI_leI (a := 10) (b := i) (by decide) (by omega)).mpr (by omega)) c_5
  | succ q ih =>
    intro i hi0 H locs ls hP hD hS hl
    refine lv_iload_n hx hb d_Mo_solves_2 rfl (lv_at hl 1 rfl) ?_
    refine lv_bipush (v := 10) hx hb d_Mo_solves_3 (by decide) ?_
    refine lv_icmp_ge (tgt := 21) hx hb d_Mo_solves_5 (by decide) (fun c_5 => ?_) (fun c_5 => ?_)
    · exact absurd ((nI_leI (a := 10) (b := i) (by decide) (by omega)).mp c_5) (by omega)
    · refine lv_aload_n hx hb d_Mo_solves_8 rfl (lv_at hl 0 rfl) ?_
      refine va_get (D := (dC, dI)) (ci := 4) (v := .ref (bd 12)) (C := R_Mo) (T := F_Mo) (N := 17) hx hb htb ul_Mo hown hK hP 0 rfl rfl 13 (by decide) (htb _ mw_561) (fun _ h9 => h9) rfl d_Mo_solves_9 ?_
      refine lv_iload_n hx hb d_Mo_solves_12 rfl (lv_at hl 1 rfl) ?_
      refine lv_iconst (v := 0) hx hb d_Mo_solves_13 (by decide) ?_
      refine ry_iast (D := (dC, dI)) (j := i) hx hb hK hP hD hS 12 0 rfl rfl (by omega) (by decide) d_Mo_solves_14 (fun H locs hP hD hS => ?_)
      have hP : va_P (dC, dI) classes [((bd 0), .inr (4, [.int th, .ref (bd 1), .ref (bd 2), .ref (bd 3), .ref (bd 4), .int (nI n), .ref (bd 5), .ref (bd 6), .ref (bd 7), .ref (bd 8), .ref (bd 9), .ref (bd 10), .ref (bd 11), .ref (bd 12), .ref (bd 13), .int (nI unk), .int (nI cnt)])), ((bd 1), .inl (cI, 120, .inl K)), ((bd 2), .inl (cI, 120, .inl F)), ((bd 3), .inl (cI, 120, .inl S)), ((bd 4), .inl (cI, 120, .inl DD)), ((bd 5), .inl (cI, 5, .inl NU)), ((bd 6), .inl (cI, 120, .inl VA)), ((bd 7), .inl (cI, 120, .inl BE)), ((bd 8), .inl (cI, 128, .inl WA)), ((bd 9), .inl (cI, 30, .inl LE)), ((bd 10), .inl (cI, 30, .inl AA)), ((bd 11), .inl (cI, 30, .inl RI)), ((bd 12), .inl (cI, 10, .inl (upd (fl i 0 UN) i 0))), ((bd 13), .inl (cZ, 30, .inl CO))] H := hP
      have hD : va_D A [((bd 0), .inr (4, [.int th, .ref (bd 1), .ref (bd 2), .ref (bd 3), .ref (bd 4), .int (nI n), .ref (bd 5), .ref (bd 6), .ref (bd 7), .ref (bd 8), .ref (bd 9), .ref (bd 10), .ref (bd 11), .ref (bd 12), .ref (bd 13), .int (nI unk), .int (nI cnt)])), ((bd 1), .inl (cI, 120, .inl K)), ((bd 2), .inl (cI, 120, .inl F)), ((bd 3), .inl (cI, 120, .inl S)), ((bd 4), .inl (cI, 120, .inl DD)), ((bd 5), .inl (cI, 5, .inl NU)), ((bd 6), .inl (cI, 120, .inl VA)), ((bd 7), .inl (cI, 120, .inl BE)), ((bd 8), .inl (cI, 128, .inl WA)), ((bd 9), .inl (cI, 30, .inl LE)), ((bd 10), .inl (cI, 30, .inl AA)), ((bd 11), .inl (cI, 30, .inl RI)), ((bd 12), .inl (cI, 10, .inl (upd (fl i 0 UN) i 0))), ((bd 13), .inl (cZ, 30, .inl CO))] := hD
      refine lv_iinc (v := (nI (i + 1))) (lv' := [(1, .int (nI (i + 1))), (0, .ref (bd 0))]) hx hb d_Mo_solves_15 hl (k := 1) rfl (nI_1 _) (by decide) rfl (fun ls hl => ?_)
      refine lv_goto (tgt := 2) hx hb d_Mo_solves_18 (by decide) ?_
      exact ih (i + 1) (by omega) H locs ls (by rw [← fl_s]; exact hP) (by rw [← fl_s]; exact hD) hS (lv_sub hl [1, 0] rfl)

set_option maxHeartbeats 4000000 in
set_option maxRecDepth 100000 in
theorem c_Mo_solves (l : Launch) (dC : Nat → ClassId) (dI : Nat → Nat → Nat) (cI cL cZ : ClassId) (bd : Nat → Nat) (th : Int32) (K F S DD : Nat → Int32) (n : Nat) (NU VA BE WA LE AA RI UN CO : Nat → Int32) (unk cnt : Nat) (hn : n ≤ 120) (hunk : unk ≤ 10) (hcnt : cnt ≤ 30) (lo hi : Nat → Nat) (hlo : ∀ j, j < cnt → sdN (LE j) (lo j)) (hhi : ∀ j, j < cnt → sdN (RI j) (hi j)) (htrm : trm lo hi AA CO cnt 2001 (fl 10 0 UN)) (sz : Nat) : Met l y_Mo_solves (cw_Mo_solves :: tb) (rmH 2 0 0) (va_Pc [.ref (bd 0)] (wy_P (dC, dI) classes (wMo cI cZ bd th K F S DD n NU VA BE WA LE AA RI UN CO unk cnt) (tyI cI cL cZ) sz)) (wy_Q ry_i (fun r (u : Nat → Int32) => r = (slv lo hi AA CO cnt UN).1 ∧ u = (slv lo hi AA CO cnt UN).2) (wy_B (dC, dI) classes (tyI cI cL cZ) (va_A (wMo cI cZ bd th K F S DD n NU VA BE WA LE AA RI UN CO unk cnt) sz) (fun u : Nat → Int32 => (wMo cI cZ bd th K F S DD n NU VA BE WA LE AA RI u CO unk cnt))) (va_A (wMo cI cZ bd th K F S DD n NU VA BE WA LE AA RI UN CO unk cnt) sz)) 0 0 (va_A (wMo cI cZ bd th K F S DD n NU VA BE WA LE AA RI UN CO unk cnt) sz) := by
  refine Met.ofW (cc := b_Mo_solves) (maxL := 4) (ret := (some .boolean)) (by decide +kernel) rfl ?_
  intro p e s m args below meth c s₁ B hml0 hv
  have C0 := cx_of B hml0 rfl
  obtain ⟨hx, hb, hr, hml, hown, htb, hlocks⟩ := id C0
  obtain ⟨rfl, hsz, hP, hK, hD0⟩ := hv
  subst hsz
  have hD := hD0.self (sz := s.heap.size)
  generalize hAe : va_A (wMo cI cZ bd th K F S DD n NU VA BE WA LE AA RI UN CO unk cnt) s.heap.size = A at hD ⊢
  have hA : ∀ q : Nat, s.heap.size ≤ q → A q := fun q h => by rw [← hAe]; exact Or.inr h
  have hS : va_S A s.heap s.heap [] := va_S.rf
  have hl := lv_entry ([.ref (bd 0)]) (n := 4) (Nat.le_of_ble_eq_true rfl)
  rw [lg_entry_eq]
  generalize (lg_sl ([.ref (bd 0)]) ++ List.replicate (4 - (lg_sl ([.ref (bd 0)])).length) Slot.unset).toArray = ls at hl ⊢
  have hl : lv_has ls 4 [(0, .ref (bd 0))] := hl
  have hP : va_P (dC, dI) classes [((bd 0), .inr (4, [.int th, .ref (bd 1), .ref (bd 2), .ref (bd 3), .ref (bd 4), .int (nI n), .ref (bd 5), .ref (bd 6), .ref (bd 7), .ref (bd 8), .ref (bd 9), .ref (bd 10), .ref (bd 11), .ref (bd 12), .ref (bd 13), .int (nI unk), .int (nI cnt)])), ((bd 1), .inl (cI, 120, .inl K)), ((bd 2), .inl (cI, 120, .inl F)), ((bd 3), .inl (cI, 120, .inl S)), ((bd 4), .inl (cI, 120, .inl DD)), ((bd 5), .inl (cI, 5, .inl NU)), ((bd 6), .inl (cI, 120, .inl VA)), ((bd 7), .inl (cI, 120, .inl BE)), ((bd 8), .inl (cI, 128, .inl WA)), ((bd 9), .inl (cI, 30, .inl LE)), ((bd 10), .inl (cI, 30, .inl AA)), ((bd 11), .inl (cI, 30, .inl RI)), ((bd 12), .inl (cI, 10, .inl UN)), ((bd 13), .inl (cZ, 30, .inl CO))] s.heap := hP
  have hD : va_D A [((bd 0), .inr (4, [.int th, .ref (bd 1), .ref (bd 2), .ref (bd 3), .ref (bd 4), .int (nI n), .ref (bd 5), .ref (bd 6), .ref (bd 7), .ref (bd 8), .ref (bd 9), .ref (bd 10), .ref (bd 11), .ref (bd 12), .ref (bd 13), .int (nI unk), .int (nI cnt)])), ((bd 1), .inl (cI, 120, .inl K)), ((bd 2), .inl (cI, 120, .inl F)), ((bd 3), .inl (cI, 120, .inl S)), ((bd 4), .inl (cI, 120, .inl DD)), ((bd 5), .inl (cI, 5, .inl NU)), ((bd 6), .inl (cI, 120, .inl VA)), ((bd 7), .inl (cI, 120, .inl BE)), ((bd 8), .inl (cI, 128, .inl WA)), ((bd 9), .inl (cI, 30, .inl LE)), ((bd 10), .inl (cI, 30, .inl AA)), ((bd 11), .inl (cI, 30, .inl RI)), ((bd 12), .inl (cI, 10, .inl UN)), ((bd 13), .inl (cZ, 30, .inl CO))] := hD
  have hA0 := hA
  refine lv_iconst (v := 0) hx hb d_Mo_solves_0 (by decide) ?_
  refine lv_istore_n (lv' := [(1, .int 0), (0, .ref (bd 0))]) hx hb d_Mo_solves_1 rfl hl (by decide) rfl (fun ls hl => ?_)
  refine lp_Mo_solves0 l C0 dC dI cI cL cZ bd th K F S DD n NU VA BE WA LE AA RI UN CO unk cnt hn hunk hcnt hK hA (fun H locs ls hP hD hS hl => ?_) 10 0 (by omega) s.heap [] ls (by rw [fl_0]; exact hP) (by rw [fl_0]; exact hD) hS (lv_sub hl [1, 0] rfl)
  refine lv_iconst (v := 1) hx hb d_Mo_solves_21 (by decide) ?_
  refine lv_istore_n (lv' := [(1, .int 1), (0, .ref (bd 0))]) hx hb d_Mo_solves_22 rfl hl (by decide) rfl (fun ls hl => ?_)
  refine lv_iload_n hx hb d_Mo_solves_23 rfl (lv_at hl 0 rfl) ?_
  refine lv_if_eq (tgt := 155) hx hb d_Mo_solves_24 (by decide) (fun c_24 => ?_) (fun c_24 => ?_)
  · exact absurd c_24 (by decide)
  · refine lp_Mo_solves2 l C0 dC dI cI cL cZ bd th K F S DD n NU VA BE WA LE AA RI CO unk cnt hn hunk hcnt lo hi hlo hhi (slv lo hi AA CO cnt UN) hK hA (fun UN9 H locs ls hRR hP hD hS hl => ?_) (fun UN9 H locs ls hRR hP hD hS hl => ?_) 2001 (fl 10 0 UN) ⟨htrm, rfl⟩ H locs ls hP hD hS (lv_sub hl [1] rfl)
    · refine lv_iconst (v := 0) hx hb d_Mo_solves_106 (by decide) ?_
      exact W.zret (v := 0) hx hb hr rfl (fun t ht hW => ⟨⟨0, UN9, rfl, ⟨by rw [hRR], by rw [hRR]⟩, by rw [ht]; exact hP, va_K.moved hW.alike hK, hD⟩, hS.F ht⟩) hS.2.2 d_Mo_solves_107
    · refine lv_iconst (v := 1) hx hb d_Mo_solves_155 (by decide) ?_
      exact W.zret (v := 1) hx hb hr rfl (fun t ht hW => ⟨⟨1, UN9, rfl, ⟨by rw [hRR], by rw [hRR]⟩, by rw [ht]; exact hP, va_K.moved hW.alike hK, hD⟩, hS.F ht⟩) hS.2.2 d_Mo_solves_156
