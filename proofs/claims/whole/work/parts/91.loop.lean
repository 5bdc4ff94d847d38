set_option maxHeartbeats 8000000 in
set_option maxRecDepth 100000 in
theorem lp_law {p : Program} (l : Launch) (htr : ∀ e, l.admits e → e.platform.stackTraces = false) {e : Env} {s : State} {m : MethodId} {below : List Frame} {meth : Method} {c : Code} {A : Nat → Prop} {b L : Nat} {xs : Nat → Int32} (C0 : cx p s m #[Value.ref b] meth c b_Law_law 8 ret R_Law) (dC : Nat → ClassId) (dI : Nat → Nat → Nat) (cI cL cZ : ClassId) (ad bd : Nat → Nat) (hK : va_K (dC, dI) classes (tyI cI cL cZ) s) (hA : ∀ q : Nat, s.heap.size ≤ q → A q) (hA2 : ∀ q : Nat, A q → s.heap.size ≤ q) (hth : thx A s s.heap) (hst : strs s) (hnc : ncs s) (hX : va_X b L xs s s.heap) (hbl : b < s.heap.size) (hbA : ¬ A b) (hL : L ≤ 2048) :
    ∀ (q i cl sl : Nat), L < i + 4 * q + 4 → i ≤ L + 4 → 4 * cl ≤ i + 132 → 4 * sl ≤ 6 * i + 23824 → ∀ (nd : Nat → Nat × Nat × Nat) (lo hi : Nat → Nat) (n : Nat) (J : Nat → Int64) (RS OP K F S D U V : Nat → Int32) (PT : Nat → Int64) (LO ST HI KP NB : Nat → Int32) (unk cnt : Nat) (sv sk ck th : Int32) (K2 F2 S2 DD NU VA BE WA LE RI UN CO : Nat → Int32) (H : Heap) (locs : List Loc) (ls : Array Slot), IV nd lo hi n K F S D U PT LO ST HI KP NB unk cnt sv sk ck K2 F2 S2 DD LE RI → va_P (dC, dI) classes (wAl cI cL cZ ad bd n J RS OP K F S D U V PT LO ST HI KP NB unk cnt sv sk ck th K2 F2 S2 DD NU VA BE WA LE RI UN CO) H → va_D A (wAl cI cL cZ ad bd n J RS OP K F S D U V PT LO ST HI KP NB unk cnt sv sk ck th K2 F2 S2 DD NU VA BE WA LE RI UN CO) → va_S A s.heap H locs → lv_has ls 8 [(0, .ref b), (1, .ref (ad 0)), (2, .ref (bd 0)), (3, .ref (ad 18)), (4, .int (nI i))] → W p l e room_1 s m #[Value.ref b] below meth c H locs cl sl (lw_Z below #[Value.ref b] s) (F0 m 23 ls []) := by
  obtain ⟨hx, hb, hr, hml, hown, htb, hlocks⟩ := id C0
  intro q
  induction q with
  | zero =>
    intro i cl sl hq hi0 hc hs nd lo hi n J RS OP K F S D U V PT LO ST HI KP NB unk cnt sv sk ck th K2 F2 S2 DD NU VA BE WA LE RI UN CO H locs ls hI hP hD hS hl
    refine lv_iload hx hb d_Law_law_23 (lv_at hl 4 rfl) ?_
    refine lv_aload_n hx hb d_Law_law_25 rfl (lv_at hl 0 rfl) ?_
    refine va_slen hx hb hX hbl hbA hS d_Law_law_26 ?_
    refine lv_iconst (v := 4) hx hb d_Law_law_27 (by decide) ?_
    refine lv_isub hx hb d_Law_law_28 ?_
    have t4 : (Int32.ofNat L - 4 : Int32).toInt = (L : Int) - 4 := pk_sub_toInt (a := L) (b := 4) (by omega) (by decide)
    have ti : (nI i).toInt = (i : Int) := n_toInt (by omega)
    refine lv_icmp_gt (tgt := 1150) hx hb d_Law_law_29 (by decide) (fun c_29 => ?_) (fun c_29 => ?_)
    · refine lv_iconst (v := 1) hx hb d_Law_law_1150 (by decide) ?_
      refine va_forget (fun q hq => hA2 _ (hS.2.2 q hq)) ?_
      refine W.widen (k := 1066) (n := 14202) (by omega) (by omega) ?_
      exact lw_ret hx hb hr hlocks d_Law_law_1151
    · exact absurd (show ¬ _ from c_29) (by rw [Int32.not_lt] at c_29; exact fun _ => absurd (Int32.le_iff_toInt_le.mp c_29) (by rw [t4, ti]; omega))
  | succ q ih =>
    intro i cl sl hq hi0 hc hs nd lo hi n J RS OP K F S D U V PT LO ST HI KP NB unk cnt sv sk ck th K2 F2 S2 DD NU VA BE WA LE RI UN CO H locs ls hI hP hD hS hl
    refine lv_iload hx hb d_Law_law_23 (lv_at hl 4 rfl) ?_
    refine lv_aload_n hx hb d_Law_law_25 rfl (lv_at hl 0 rfl) ?_
    refine va_slen hx hb hX hbl hbA hS d_Law_law_26 ?_
    refine lv_iconst (v := 4) hx hb d_Law_law_27 (by decide) ?_
    refine lv_isub hx hb d_Law_law_28 ?_
    have t4 : (Int32.ofNat L - 4 : Int32).toInt = (L : Int) - 4 := pk_sub_toInt (a := L) (b := 4) (by omega) (by decide)
    have ti : (nI i).toInt = (i : Int) := n_toInt (by omega)
    refine lv_icmp_gt (tgt := 1150) hx hb d_Law_law_29 (by decide) (fun c_29 => ?_) (fun c_29 => ?_)
    · refine lv_iconst (v := 1) hx hb d_Law_law_1150 (by decide) ?_
      refine va_forget (fun q hq => hA2 _ (hS.2.2 q hq)) ?_
      refine W.widen (k := 1066) (n := 14202) (by omega) (by omega) ?_
      exact lw_ret hx hb hr hlocks d_Law_law_1151
    · have hi4 : i + 4 ≤ L := by rw [Int32.not_lt] at c_29; have := Int32.le_iff_toInt_le.mp c_29; rw [t4, ti] at this; omega
      have hf : cl + 1 ≤ 1066 ∧ sl + 6 ≤ 14202 := ⟨by omega, by omega⟩
      have KN : ∀ (nd : Nat → Nat × Nat × Nat) (lo hi : Nat → Nat) (n : Nat) (J : Nat → Int64) (RS OP K F S D U V : Nat → Int32) (PT : Nat → Int64) (LO ST HI KP NB : Nat → Int32) (unk cnt : Nat) (sv sk ck th : Int32) (K2 F2 S2 DD NU VA BE WA LE RI UN CO : Nat → Int32) (H : Heap) (locs : List Loc) (ls : Array Slot), IV nd lo hi n K F S D U PT LO ST HI KP NB unk cnt sv sk ck K2 F2 S2 DD LE RI → va_P (dC, dI) classes (wAl cI cL cZ ad bd n J RS OP K F S D U V PT LO ST HI KP NB unk cnt sv sk ck th K2 F2 S2 DD NU VA BE WA LE RI UN CO) H → va_D A (wAl cI cL cZ ad bd n J RS OP K F S D U V PT LO ST HI KP NB unk cnt sv sk ck th K2 F2 S2 DD NU VA BE WA LE RI UN CO) → va_S A s.heap H locs → lv_has ls 8 [(0, .ref b), (1, .ref (ad 0)), (2, .ref (bd 0)), (3, .ref (ad 18)), (4, .int (nI i))] → W p l e room_1 s m #[Value.ref b] below meth c H locs (cl + 1) (sl + 6) (lw_Z below #[Value.ref b] s) (F0 m 1144 ls []) := by
        intro nd lo hi n J RS OP K F S D U V PT LO ST HI KP NB unk cnt sv sk ck th K2 F2 S2 DD NU VA BE WA LE RI UN CO H locs ls hI hP hD hS hl
        refine lv_iinc (v := (nI (i + 4))) (lv' := [(4, .int (nI (i + 4))), (0, .ref b), (1, .ref (ad 0)), (2, .ref (bd 0)), (3, .ref (ad 18))]) hx hb d_Law_law_1144 hl (k := 4) rfl (nI_add i 4) (by decide) rfl (fun ls hl => ?_)
        refine lv_goto (tgt := 23) hx hb d_Law_law_1147 (by decide) ?_
        exact ih (i + 4) (cl + 1) (sl + 6) (by omega) (by omega) (by omega) (by omega) nd lo hi n J RS OP K F S D U V PT LO ST HI KP NB unk cnt sv sk ck th K2 F2 S2 DD NU VA BE WA LE RI UN CO H locs ls hI hP hD hS (lv_sub hl [1, 2, 3, 4, 0] rfl)
      refine lv_aload_n hx hb d_Law_law_32 rfl (lv_at hl 0 rfl) ?_
      refine lv_iload hx hb d_Law_law_33 (lv_at hl 4 rfl) ?_
      refine ws_ld hx hb hX hbl hbA hS (j := i) (by omega) hL d_Law_law_35 ?_
      refine lv_bipush (v := 31) hx hb d_Law_law_36 (by decide) ?_
      refine lv_iand hx hb d_Law_law_38 ?_
      generalize (xs i &&& 31 : Int32) = v9
      rcases pk_ix v9 (n := 19) (by decide) with h9 | h9 | ⟨j9, hj9, h9⟩
      · refine lv_tableOut (tgt := 1144) hx hb d_Law_law_39 (Or.inl (by rw [Int32.lt_iff_toInt_lt] at h9; exact h9)) (by decide) ?_
        refine W.widen (k := cl + 1) (n := sl + 6) (by omega) (by omega) ?_
        exact KN nd lo hi n J RS OP K F S D U V PT LO ST HI KP NB unk cnt sv sk ck th K2 F2 S2 DD NU VA BE WA LE RI UN CO H locs ls hI hP hD hS hl
      · refine lv_tableOut (tgt := 1144) hx hb d_Law_law_39 (Or.inr (by rw [Int32.le_iff_toInt_le, nI_toInt (by decide)] at h9; omega)) (by decide) ?_
        refine W.widen (k := cl + 1) (n := sl + 6) (by omega) (by omega) ?_
        exact KN nd lo hi n J RS OP K F S D U V PT LO ST HI KP NB unk cnt sv sk ck th K2 F2 S2 DD NU VA BE WA LE RI UN CO H locs ls hI hP hD hS hl
      · rcases (show j9 = 0 ∨ j9 = 1 ∨ j9 = 2 ∨ j9 = 3 ∨ j9 = 4 ∨ j9 = 5 ∨ j9 = 6 ∨ j9 = 7 ∨ j9 = 8 ∨ j9 = 9 ∨ j9 = 10 ∨ j9 = 11 ∨ j9 = 12 ∨ j9 = 13 ∨ j9 = 14 ∨ j9 = 15 ∨ j9 = 16 ∨ j9 = 17 ∨ j9 = 18 by omega) with rfl | rfl | rfl | rfl | rfl | rfl | rfl | rfl | rfl | rfl | rfl | rfl | rfl | rfl | rfl | rfl | rfl | rfl | rfl
        · refine lv_tableIn (off := 89) (tgt := 128) hx hb d_Law_law_39 (by rw [h9]; decide) (by rw [h9]; decide) (by rw [h9]; decide) (by decide) ?_
          exact op_zero l htr C0 dC dI cI cL cZ ad bd hK hA hth hst hnc hX hbl hbA hL i hi4 cl sl hf KN nd lo hi n J RS OP K F S D U V PT LO ST HI KP NB unk cnt sv sk ck th K2 F2 S2 DD NU VA BE WA LE RI UN CO H locs ls hI hP hD hS hl
        · refine lv_tableIn (off := 133) (tgt := 172) hx hb d_Law_law_39 (by rw [h9]; decide) (by rw [h9]; decide) (by rw [h9]; decide) (by decide) ?_
          exact op_parameter l htr C0 dC dI cI cL cZ ad bd hK hA hth hst hnc hX hbl hbA hL i hi4 cl sl hf KN nd lo hi n J RS OP K F S D U V PT LO ST HI KP NB unk cnt sv sk ck th K2 F2 S2 DD NU VA BE WA LE RI UN CO H locs ls hI hP hD hS hl
        · refine lv_tableIn (off := 189) (tgt := 228) hx hb d_Law_law_39 (by rw [h9]; decide) (by rw [h9]; decide) (by rw [h9]; decide) (by decide) ?_
          exact op_next l htr C0 dC dI cI cL cZ ad bd hK hA hth hst hnc hX hbl hbA hL i hi4 cl sl hf KN nd lo hi n J RS OP K F S D U V PT LO ST HI KP NB unk cnt sv sk ck th K2 F2 S2 DD NU VA BE WA LE RI UN CO H locs ls hI hP hD hS hl
        · refine lv_tableIn (off := 245) (tgt := 284) hx hb d_Law_law_39 (by rw [h9]; decide) (by rw [h9]; decide) (by rw [h9]; decide) (by decide) ?_
          exact op_join l htr C0 dC dI cI cL cZ ad bd hK hA hth hst hnc hX hbl hbA hL i hi4 cl sl hf KN nd lo hi n J RS OP K F S D U V PT LO ST HI KP NB unk cnt sv sk ck th K2 F2 S2 DD NU VA BE WA LE RI UN CO H locs ls hI hP hD hS hl
        · refine lv_tableIn (off := 341) (tgt := 380) hx hb d_Law_law_39 (by rw [h9]; decide) (by rw [h9]; decide) (by rw [h9]; decide) (by decide) ?_
          exact op_level l htr C0 dC dI cI cL cZ ad bd hK hA hth hst hnc hX hbl hbA hL i hi4 cl sl hf KN nd lo hi n J RS OP K F S D U V PT LO ST HI KP NB unk cnt sv sk ck th K2 F2 S2 DD NU VA BE WA LE RI UN CO H locs ls hI hP hD hS hl
        · refine lv_tableIn (off := 378) (tgt := 417) hx hb d_Law_law_39 (by rw [h9]; decide) (by rw [h9]; decide) (by rw [h9]; decide) (by decide) ?_
          exact op_put l htr C0 dC dI cI cL cZ ad bd hK hA hth hst hnc hX hbl hbA hL i hi4 cl sl hf KN nd lo hi n J RS OP K F S D U V PT LO ST HI KP NB unk cnt sv sk ck th K2 F2 S2 DD NU VA BE WA LE RI UN CO H locs ls hI hP hD hS hl
        · refine lv_tableIn (off := 458) (tgt := 497) hx hb d_Law_law_39 (by rw [h9]; decide) (by rw [h9]; decide) (by rw [h9]; decide) (by decide) ?_
          exact op_value l htr C0 dC dI cI cL cZ ad bd hK hA hth hst hnc hX hbl hbA hL i hi4 cl sl hf KN nd lo hi n J RS OP K F S D U V PT LO ST HI KP NB unk cnt sv sk ck th K2 F2 S2 DD NU VA BE WA LE RI UN CO H locs ls hI hP hD hS hl
        · refine lv_tableIn (off := 527) (tgt := 566) hx hb d_Law_law_39 (by rw [h9]; decide) (by rw [h9]; decide) (by rw [h9]; decide) (by decide) ?_
          exact op_part l htr C0 dC dI cI cL cZ ad bd hK hA hth hst hnc hX hbl hbA hL i hi4 cl sl hf KN nd lo hi n J RS OP K F S D U V PT LO ST HI KP NB unk cnt sv sk ck th K2 F2 S2 DD NU VA BE WA LE RI UN CO H locs ls hI hP hD hS hl
        · refine lv_tableIn (off := 607) (tgt := 646) hx hb d_Law_law_39 (by rw [h9]; decide) (by rw [h9]; decide) (by rw [h9]; decide) (by decide) ?_
          exact op_isAtMost l htr C0 dC dI cI cL cZ ad bd hK hA hth hst hnc hX hbl hbA hL i hi4 cl sl hf KN nd lo hi n J RS OP K F S D U V PT LO ST HI KP NB unk cnt sv sk ck th K2 F2 S2 DD NU VA BE WA LE RI UN CO H locs ls hI hP hD hS hl
        · refine lv_tableIn (off := 682) (tgt := 721) hx hb d_Law_law_39 (by rw [h9]; decide) (by rw [h9]; decide) (by rw [h9]; decide) (by decide) ?_
          exact op_isSame l htr C0 dC dI cI cL cZ ad bd hK hA hth hst hnc hX hbl hbA hL i hi4 cl sl hf KN nd lo hi n J RS OP K F S D U V PT LO ST HI KP NB unk cnt sv sk ck th K2 F2 S2 DD NU VA BE WA LE RI UN CO H locs ls hI hP hD hS hl
        · refine lv_tableIn (off := 757) (tgt := 796) hx hb d_Law_law_39 (by rw [h9]; decide) (by rw [h9]; decide) (by rw [h9]; decide) (by decide) ?_
          exact op_least l htr C0 dC dI cI cL cZ ad bd hK hA hth hst hnc hX hbl hbA hL i hi4 cl sl hf KN nd lo hi n J RS OP K F S D U V PT LO ST HI KP NB unk cnt sv sk ck th K2 F2 S2 DD NU VA BE WA LE RI UN CO H locs ls hI hP hD hS hl
        · refine lv_tableIn (off := 813) (tgt := 852) hx hb d_Law_law_39 (by rw [h9]; decide) (by rw [h9]; decide) (by rw [h9]; decide) (by decide) ?_
          exact op_above l htr C0 dC dI cI cL cZ ad bd hK hA hth hst hnc hX hbl hbA hL i hi4 cl sl hf KN nd lo hi n J RS OP K F S D U V PT LO ST HI KP NB unk cnt sv sk ck th K2 F2 S2 DD NU VA BE WA LE RI UN CO H locs ls hI hP hD hS hl
        · refine lv_tableIn (off := 880) (tgt := 919) hx hb d_Law_law_39 (by rw [h9]; decide) (by rw [h9]; decide) (by rw [h9]; decide) (by decide) ?_
          exact op_unknown l htr C0 dC dI cI cL cZ ad bd hK hA hth hst hnc hX hbl hbA hL i hi4 cl sl hf KN nd lo hi n J RS OP K F S D U V PT LO ST HI KP NB unk cnt sv sk ck th K2 F2 S2 DD NU VA BE WA LE RI UN CO H locs ls hI hP hD hS hl
        · refine lv_tableIn (off := 924) (tgt := 963) hx hb d_Law_law_39 (by rw [h9]; decide) (by rw [h9]; decide) (by rw [h9]; decide) (by decide) ?_
          exact op_need l htr C0 dC dI cI cL cZ ad bd hK hA hth hst hnc hX hbl hbA hL i hi4 cl sl hf KN nd lo hi n J RS OP K F S D U V PT LO ST HI KP NB unk cnt sv sk ck th K2 F2 S2 DD NU VA BE WA LE RI UN CO H locs ls hI hP hD hS hl
        · refine lv_tableIn (off := 1004) (tgt := 1043) hx hb d_Law_law_39 (by rw [h9]; decide) (by rw [h9]; decide) (by rw [h9]; decide) (by decide) ?_
          exact op_isSolved l htr C0 dC dI cI cL cZ ad bd hK hA hth hst hnc hX hbl hbA hL i hi4 cl sl hf KN nd lo hi n J RS OP K F S D U V PT LO ST HI KP NB unk cnt sv sk ck th K2 F2 S2 DD NU VA BE WA LE RI UN CO H locs ls hI hP hD hS hl
        · refine lv_tableIn (off := 1017) (tgt := 1056) hx hb d_Law_law_39 (by rw [h9]; decide) (by rw [h9]; decide) (by rw [h9]; decide) (by decide) ?_
          exact op_solution l htr C0 dC dI cI cL cZ ad bd hK hA hth hst hnc hX hbl hbA hL i hi4 cl sl hf KN nd lo hi n J RS OP K F S D U V PT LO ST HI KP NB unk cnt sv sk ck th K2 F2 S2 DD NU VA BE WA LE RI UN CO H locs ls hI hP hD hS hl
        · refine lv_tableIn (off := 1042) (tgt := 1081) hx hb d_Law_law_39 (by rw [h9]; decide) (by rw [h9]; decide) (by rw [h9]; decide) (by decide) ?_
          exact op_isClash l htr C0 dC dI cI cL cZ ad bd hK hA hth hst hnc hX hbl hbA hL i hi4 cl sl hf KN nd lo hi n J RS OP K F S D U V PT LO ST HI KP NB unk cnt sv sk ck th K2 F2 S2 DD NU VA BE WA LE RI UN CO H locs ls hI hP hD hS hl
        · refine lv_tableIn (off := 1067) (tgt := 1106) hx hb d_Law_law_39 (by rw [h9]; decide) (by rw [h9]; decide) (by rw [h9]; decide) (by decide) ?_
          exact op_undo l htr C0 dC dI cI cL cZ ad bd hK hA hth hst hnc hX hbl hbA hL i hi4 cl sl hf KN nd lo hi n J RS OP K F S D U V PT LO ST HI KP NB unk cnt sv sk ck th K2 F2 S2 DD NU VA BE WA LE RI UN CO H locs ls hI hP hD hS hl
        · refine lv_tableIn (off := 1080) (tgt := 1119) hx hb d_Law_law_39 (by rw [h9]; decide) (by rw [h9]; decide) (by rw [h9]; decide) (by decide) ?_
          exact op_about l htr C0 dC dI cI cL cZ ad bd hK hA hth hst hnc hX hbl hbA hL i hi4 cl sl hf KN nd lo hi n J RS OP K F S D U V PT LO ST HI KP NB unk cnt sv sk ck th K2 F2 S2 DD NU VA BE WA LE RI UN CO H locs ls hI hP hD hS hl
