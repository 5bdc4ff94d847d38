set_option maxHeartbeats 4000000 in
set_option maxRecDepth 100000 in
theorem lp_Rp_replaced0 {p : Program} (l : Launch) {e : Env} {s : State} {m : MethodId} {args : Array Value} {below : List Frame} {meth : Method} {c : Code} {Q : State → Prop} {A : Nat → Prop} {H0 : Heap} (C0 : cx p s m args meth c b_Rp_replaced 8 (some .int) R_Rp) (dC : Nat → ClassId) (dI : Nat → Nat → Nat) (cI cL cZ : ClassId) (ad : Nat → Nat) (OP K F S D U V : Nat → Int32) (PT : Nat → Int64) (n : Nat) (hn : n ≤ 120) (nd : Nat → Nat × Nat × Nat) (hok : LvOk nd n K F S D U PT) (a p9 y9 : Nat) (ha : a < n) (hp9 : p9 < 5) (hK : va_K (dC, dI) classes (tyI cI cL cZ) s) (hA : ∀ q : Nat, H0.size ≤ q → A q) 
    (KB : ∀ (RS : Nat → Int32) (H : Heap) (locs : List Loc) (ls : Array Slot), (∀ z, z < (a + 1) → RS z = rah nd p9 y9 z) → va_P (dC, dI) classes [((ad 9), .inr (2, [.ref (ad 1), .ref (ad 10), .ref (ad 11)])), ((ad 10), .inl (cI, 120, .inl RS)), ((ad 11), .inl (cI, 120, .inl OP)), ((ad 1), .inr (1, [.ref (ad 2), .ref (ad 3), .ref (ad 4), .ref (ad 5), .ref (ad 6), .ref (ad 7), .ref (ad 8), .int (nI n)])), ((ad 2), .inl (cI, 120, .inl K)), ((ad 3), .inl (cI, 120, .inl F)), ((ad 4), .inl (cI, 120, .inl S)), ((ad 5), .inl (cI, 120, .inl D)), ((ad 6), .inl (cI, 120, .inl U)), ((ad 7), .inl (cI, 120, .inl V)), ((ad 8), .inl (cL, 3840, .inr (.inl PT)))] H → va_D A [((ad 9), .inr (2, [.ref (ad 1), .ref (ad 10), .ref (ad 11)])), ((ad 10), .inl (cI, 120, .inl RS)), ((ad 11), .inl (cI, 120, .inl OP)), ((ad 1), .inr (1, [.ref (ad 2), .ref (ad 3), .ref (ad 4), .ref (ad 5), .ref (ad 6), .ref (ad 7), .ref (ad 8), .int (nI n)])), ((ad 2), .inl (cI, 120, .inl K)), ((ad 3), .inl (cI, 120, .inl F)), ((ad 4), .inl (cI, 120, .inl S)), ((ad 5), .inl (cI, 120, .inl D)), ((ad 6), .inl (cI, 120, .inl U)), ((ad 7), .inl (cI, 120, .inl V)), ((ad 8), .inl (cL, 3840, .inr (.inl PT)))] → va_S A H0 H locs → lv_has ls 8 [(0, .ref (ad 9)), (1, .int (nI a)), (2, .int (nI p9)), (3, .int (nI y9))] → W p l e (rmH 9 1 6) s m args below meth c H locs 0 0 Q (F0 m 30 ls []))
    : ∀ (q : Nat) (i : Nat) (RS : Nat → Int32), i + q = a + 1 ∧ (∀ z, z < i → RS z = rah nd p9 y9 z) → ∀ (H : Heap) (locs : List Loc) (ls : Array Slot), va_P (dC, dI) classes [((ad 9), .inr (2, [.ref (ad 1), .ref (ad 10), .ref (ad 11)])), ((ad 10), .inl (cI, 120, .inl RS)), ((ad 11), .inl (cI, 120, .inl OP)), ((ad 1), .inr (1, [.ref (ad 2), .ref (ad 3), .ref (ad 4), .ref (ad 5), .ref (ad 6), .ref (ad 7), .ref (ad 8), .int (nI n)])), ((ad 2), .inl (cI, 120, .inl K)), ((ad 3), .inl (cI, 120, .inl F)), ((ad 4), .inl (cI, 120, .inl S)), ((ad 5), .inl (cI, 120, .inl D)), ((ad 6), .inl (cI, 120, .inl U)), ((ad 7), .inl (cI, 120, .inl V)), ((ad 8), .inl (cL, 3840, .inr (.inl PT)))] H → va_D A [((ad 9), .inr (2, [.ref (ad 1), .ref (ad 10), .ref (ad 11)])), ((ad 10), .inl (cI, 120, .inl RS)), ((ad 11), .inl (cI, 120, .inl OP)), ((ad 1), .inr (1, [.ref (ad 2), .ref (ad 3), .ref (ad 4), .ref (ad 5), .ref (ad 6), .ref (ad 7), .ref (ad 8), .int (nI n)])), ((ad 2), .inl (cI, 120, .inl K)), ((ad 3), .inl (cI, 120, .inl F)), ((ad 4), .inl (cI, 120, .inl S)), ((ad 5), .inl (cI, 120, .inl D)), ((ad 6), .inl (cI, 120, .inl U)), ((ad 7), .inl (cI, 120, .inl V)), ((ad 8), .inl (cL, 3840, .inr (.inl PT)))] → va_S A H0 H locs → lv_has ls 8 [(0, .ref (ad 9)), (1, .int (nI a)), (2, .int (nI p9)), (3, .int (nI y9)), (4, .int (nI i))] → W p l e (rmH 9 1 6) s m args below meth c H locs 0 0 Q (F0 m 3 ls []) := by
  obtain ⟨hx, hb, hr, hml, hown, htb, hlocks⟩ := id C0
  intro q
  induction q with
  | zero =>
    intro i RS hiV H locs ls hP hD hS hl
    obtain ⟨hi, hV⟩ := hiV
    refine lv_iload hx hb d_Rp_replaced_3 (lv_at hl 4 rfl) ?_
    refine lv_iload_n hx hb d_Rp_replaced_5 rfl (lv_at hl 1 rfl) ?_
    refine lv_icmp_gt (tgt := 30) hx hb d_Rp_replaced_6 (by decide) (fun c_6 => ?_) (fun c_6 => ?_)
    · exact KB RS H locs ls (fun z hz => hV z (by omega)) hP hD hS (lv_sub hl [0, 1, 2, 3] rfl)
    · exact absurd ((nI_ltI (a := a) (b := i) (by omega) (by omega)).mpr (by omega)) c_6
  | succ q ih =>
    intro i RS hiV H locs ls hP hD hS hl
    obtain ⟨hi, hV⟩ := hiV
    refine lv_iload hx hb d_Rp_replaced_3 (lv_at hl 4 rfl) ?_
    refine lv_iload_n hx hb d_Rp_replaced_5 rfl (lv_at hl 1 rfl) ?_
    refine lv_icmp_gt (tgt := 30) hx hb d_Rp_replaced_6 (by decide) (fun c_6 => ?_) (fun c_6 => ?_)
    · exact absurd ((nI_ltI (a := a) (b := i) (by omega) (by omega)).mp c_6) (by omega)
    · refine lv_aload_n hx hb d_Rp_replaced_9 rfl (lv_at hl 0 rfl) ?_
      refine va_get (D := (dC, dI)) (ci := 2) (v := .ref (ad 10)) (C := R_Rp) (T := F_Rp) (N := 3) hx hb htb ul_Rp hown hK hP 0 rfl rfl 1 (by decide) (htb _ mw_63) (fun _ h9 => h9) rfl d_Rp_replaced_10 ?_
      refine lv_iload hx hb d_Rp_replaced_13 (lv_at hl 4 rfl) ?_
      refine lv_aload_n hx hb d_Rp_replaced_15 rfl (lv_at hl 0 rfl) ?_
      refine lv_iload hx hb d_Rp_replaced_16 (lv_at hl 4 rfl) ?_
      refine lv_iload_n hx hb d_Rp_replaced_18 rfl (lv_at hl 2 rfl) ?_
      refine lv_iload_n hx hb d_Rp_replaced_19 rfl (lv_at hl 3 rfl) ?_
      refine ry_callV (n := 3) (As := [.int (nI i), .int (nI p9), .int (nI y9)]) (rest := [.int (nI i), .ref (ad 10)]) ⟨hx, hb, hml, hown, htb⟩ (c_Rp_resultAhead l dC dI cI cL cZ ad RS OP K F S D U V PT n hn nd hok i p9 y9 (by omega) hp9) (gV mw_419 mw_421 mp_14 mw_3 mc_Rp_resultAhead) rfl rfl (by decide +kernel) ⟨Nat.le_of_ble_eq_true rfl, Nat.le_of_ble_eq_true rfl⟩ hP hK (ci := 2) (q0 := 0) rfl rfl rfl rfl hl.1 rfl (Nat.le_of_ble_eq_true rfl) d_Rp_replaced_20 ⟨Nat.zero_le _, Nat.zero_le _⟩ (fun r_1 hr_1 => ?_)
      subst hr_1
      refine W.eq (g2 := F0 m 23 ls [.int (rah nd p9 y9 i), .int (nI i), .ref (ad 10)]) rfl ?_
      refine ry_iast (D := (dC, dI)) (j := i) hx hb hK hP hD hS 1 0 rfl rfl (by omega) (by decide) d_Rp_replaced_23 (fun H locs hP hD hS => ?_)
      have hP : va_P (dC, dI) classes [((ad 9), .inr (2, [.ref (ad 1), .ref (ad 10), .ref (ad 11)])), ((ad 10), .inl (cI, 120, .inl (upd RS i (rah nd p9 y9 i)))), ((ad 11), .inl (cI, 120, .inl OP)), ((ad 1), .inr (1, [.ref (ad 2), .ref (ad 3), .ref (ad 4), .ref (ad 5), .ref (ad 6), .ref (ad 7), .ref (ad 8), .int (nI n)])), ((ad 2), .inl (cI, 120, .inl K)), ((ad 3), .inl (cI, 120, .inl F)), ((ad 4), .inl (cI, 120, .inl S)), ((ad 5), .inl (cI, 120, .inl D)), ((ad 6), .inl (cI, 120, .inl U)), ((ad 7), .inl (cI, 120, .inl V)), ((ad 8), .inl (cL, 3840, .inr (.inl PT)))] H := hP
      have hD : va_D A [((ad 9), .inr (2, [.ref (ad 1), .ref (ad 10), .ref (ad 11)])), ((ad 10), .inl (cI, 120, .inl (upd RS i (rah nd p9 y9 i)))), ((ad 11), .inl (cI, 120, .inl OP)), ((ad 1), .inr (1, [.ref (ad 2), .ref (ad 3), .ref (ad 4), .ref (ad 5), .ref (ad 6), .ref (ad 7), .ref (ad 8), .int (nI n)])), ((ad 2), .inl (cI, 120, .inl K)), ((ad 3), .inl (cI, 120, .inl F)), ((ad 4), .inl (cI, 120, .inl S)), ((ad 5), .inl (cI, 120, .inl D)), ((ad 6), .inl (cI, 120, .inl U)), ((ad 7), .inl (cI, 120, .inl V)), ((ad 8), .inl (cL, 3840, .inr (.inl PT)))] := hD
      refine lv_iinc (v := (nI (i + 1))) (lv' := [(4, .int (nI (i + 1))), (0, .ref (ad 9)), (1, .int (nI a)), (2, .int (nI p9)), (3, .int (nI y9))]) hx hb d_Rp_replaced_24 hl (k := 4) rfl (nI_1 _) (by decide) rfl (fun ls hl => ?_)
      refine lv_goto (tgt := 3) hx hb d_Rp_replaced_27 (by decide) ?_
      exact ih (i + 1) (upd RS i (rah nd p9 y9 i)) ⟨by omega, up_lt (f := fun z => rah nd p9 y9 z) hV⟩ H locs ls hP hD hS (lv_sub hl [1, 2, 3, 4, 0] rfl)

set_option maxHeartbeats 4000000 in
set_option maxRecDepth 100000 in
theorem c_Rp_replaced (l : Launch) (htr : ∀ e, l.admits e → e.platform.stackTraces = false) (dC : Nat → ClassId) (dI : Nat → Nat → Nat) (cI cL cZ : ClassId) (ad : Nat → Nat) (RS OP K F S D U V : Nat → Int32) (PT : Nat → Int64) (n : Nat) (hn : n ≤ 120) (nd : Nat → Nat × Nat × Nat) (hok : LvOk nd n K F S D U PT) (a p9 y9 : Nat) (ha : a < n) (hp9 : p9 < 5) (hy : y9 < n) (sz : Nat) : wx_Met l y_Rp_replaced (cw_Rp_replaced :: tb) (rmH 9 1 6) (va_Pc [.ref (ad 9), .int (nI a), .int (nI p9), .int (nI y9)] (wz_P (dC, dI) classes (wRL cI cL ad RS OP K F S D U V PT n) (tyI cI cL cZ) sz)) (wx_Q ry_i (fun r (u : LvS × (Nat → Int32) × (Nat → Int32)) => chc (pt nd p9 y9 a (nd, n)) r u.1) (fun X (u : LvS × (Nat → Int32) × (Nat → Int32)) => chx (pt nd p9 y9 a (nd, n)) X u.1) (wy_B (dC, dI) classes (tyI cI cL cZ) (va_A (wRL cI cL ad RS OP K F S D U V PT n) sz) (fun u : LvS × (Nat → Int32) × (Nat → Int32) => wRL cI cL ad u.2.1 u.2.2 u.1.1 u.1.2.1 u.1.2.2.1 u.1.2.2.2.1 u.1.2.2.2.2.1 V u.1.2.2.2.2.2.1 u.1.2.2.2.2.2.2)) (va_A (wRL cI cL ad RS OP K F S D U V PT n) sz)) (va_A (wRL cI cL ad RS OP K F S D U V PT n) sz) := by
  refine wx_ofW (cc := b_Rp_replaced) (maxL := 8) (ret := (some .int)) (by decide +kernel) rfl ?_
  intro p e s m args below meth c s₁ B hml0 ht0 hv
  have C0 := cx_of B hml0 rfl
  obtain ⟨hx, hb, hr, hml, hown, htb, hlocks⟩ := id C0
  obtain ⟨rfl, ⟨hsz, hP, hK, hD0⟩, hth, hst⟩ := hv
  subst hsz
  have hD := hD0.self (sz := s.heap.size)
  generalize hAe : va_A (wRL cI cL ad RS OP K F S D U V PT n) s.heap.size = A at hD hth ⊢
  have hA : ∀ q : Nat, s.heap.size ≤ q → A q := fun q h => by rw [← hAe]; exact Or.inr h
  have hS : va_S A s.heap s.heap [] := va_S.rf
  have hl := lv_entry ([.ref (ad 9), .int (nI a), .int (nI p9), .int (nI y9)]) (n := 8) (Nat.le_of_ble_eq_true rfl)
  rw [lg_entry_eq]
  generalize (lg_sl ([.ref (ad 9), .int (nI a), .int (nI p9), .int (nI y9)]) ++ List.replicate (8 - (lg_sl ([.ref (ad 9), .int (nI a), .int (nI p9), .int (nI y9)])).length) Slot.unset).toArray = ls at hl ⊢
  have hl : lv_has ls 8 [(0, .ref (ad 9)), (1, .int (nI a)), (2, .int (nI p9)), (3, .int (nI y9))] := hl
  have hP : va_P (dC, dI) classes [((ad 9), .inr (2, [.ref (ad 1), .ref (ad 10), .ref (ad 11)])), ((ad 10), .inl (cI, 120, .inl RS)), ((ad 11), .inl (cI, 120, .inl OP)), ((ad 1), .inr (1, [.ref (ad 2), .ref (ad 3), .ref (ad 4), .ref (ad 5), .ref (ad 6), .ref (ad 7), .ref (ad 8), .int (nI n)])), ((ad 2), .inl (cI, 120, .inl K)), ((ad 3), .inl (cI, 120, .inl F)), ((ad 4), .inl (cI, 120, .inl S)), ((ad 5), .inl (cI, 120, .inl D)), ((ad 6), .inl (cI, 120, .inl U)), ((ad 7), .inl (cI, 120, .inl V)), ((ad 8), .inl (cL, 3840, .inr (.inl PT)))] s.heap := hP
  have hD : va_D A [((ad 9), .inr (2, [.ref (ad 1), .ref (ad 10), .ref (ad 11)])), ((ad 10), .inl (cI, 120, .inl RS)), ((ad 11), .inl (cI, 120, .inl OP)), ((ad 1), .inr (1, [.ref (ad 2), .ref (ad 3), .ref (ad 4), .ref (ad 5), .ref (ad 6), .ref (ad 7), .ref (ad 8), .int (nI n)])), ((ad 2), .inl (cI, 120, .inl K)), ((ad 3), .inl (cI, 120, .inl F)), ((ad 4), .inl (cI, 120, .inl S)), ((ad 5), .inl (cI, 120, .inl D)), ((ad 6), .inl (cI, 120, .inl U)), ((ad 7), .inl (cI, 120, .inl V)), ((ad 8), .inl (cL, 3840, .inr (.inl PT)))] := hD
  refine lv_iconst (v := 0) hx hb d_Rp_replaced_0 (by decide) ?_
  refine lv_istore (lv' := [(4, .int 0), (0, .ref (ad 9)), (1, .int (nI a)), (2, .int (nI p9)), (3, .int (nI y9))]) hx hb d_Rp_replaced_1 hl (by decide) rfl (fun ls hl => ?_)
  refine lp_Rp_replaced0 l C0 dC dI cI cL cZ ad OP K F S D U V PT n hn nd hok a p9 y9 ha hp9 hK hA (fun RS9 H locs ls hV hP hD hS hl => ?_) (a + 1) 0 RS ⟨by omega, fun z hz => by omega⟩ s.heap [] ls hP hD hS (lv_sub hl [1, 2, 3, 4, 0] rfl)
  refine lv_aload_n hx hb d_Rp_replaced_30 rfl (lv_at hl 0 rfl) ?_
  refine va_get (D := (dC, dI)) (ci := 2) (v := .ref (ad 11)) (C := R_Rp) (T := F_Rp) (N := 3) hx hb htb ul_Rp hown hK hP 0 rfl rfl 2 (by decide) (htb _ mw_64) (fun _ h9 => h9) rfl d_Rp_replaced_31 ?_
  refine lv_iconst (v := 0) hx hb d_Rp_replaced_34 (by decide) ?_
  refine lv_iload_n hx hb d_Rp_replaced_35 rfl (lv_at hl 1 rfl) ?_
  refine ry_iast (D := (dC, dI)) (j := 0) hx hb hK hP hD hS 2 0 rfl rfl (by decide) (by decide) d_Rp_replaced_36 (fun H locs hP hD hS => ?_)
  have hP : va_P (dC, dI) classes [((ad 9), .inr (2, [.ref (ad 1), .ref (ad 10), .ref (ad 11)])), ((ad 10), .inl (cI, 120, .inl RS9)), ((ad 11), .inl (cI, 120, .inl (upd OP 0 (nI a)))), ((ad 1), .inr (1, [.ref (ad 2), .ref (ad 3), .ref (ad 4), .ref (ad 5), .ref (ad 6), .ref (ad 7), .ref (ad 8), .int (nI n)])), ((ad 2), .inl (cI, 120, .inl K)), ((ad 3), .inl (cI, 120, .inl F)), ((ad 4), .inl (cI, 120, .inl S)), ((ad 5), .inl (cI, 120, .inl D)), ((ad 6), .inl (cI, 120, .inl U)), ((ad 7), .inl (cI, 120, .inl V)), ((ad 8), .inl (cL, 3840, .inr (.inl PT)))] H := hP
  have hD : va_D A [((ad 9), .inr (2, [.ref (ad 1), .ref (ad 10), .ref (ad 11)])), ((ad 10), .inl (cI, 120, .inl RS9)), ((ad 11), .inl (cI, 120, .inl (upd OP 0 (nI a)))), ((ad 1), .inr (1, [.ref (ad 2), .ref (ad 3), .ref (ad 4), .ref (ad 5), .ref (ad 6), .ref (ad 7), .ref (ad 8), .int (nI n)])), ((ad 2), .inl (cI, 120, .inl K)), ((ad 3), .inl (cI, 120, .inl F)), ((ad 4), .inl (cI, 120, .inl S)), ((ad 5), .inl (cI, 120, .inl D)), ((ad 6), .inl (cI, 120, .inl U)), ((ad 7), .inl (cI, 120, .inl V)), ((ad 8), .inl (cL, 3840, .inr (.inl PT)))] := hD
  refine lv_iconst (v := 0) hx hb d_Rp_replaced_37 (by decide) ?_
  refine lv_istore (lv' := [(4, .int 0), (0, .ref (ad 9)), (1, .int (nI a)), (2, .int (nI p9)), (3, .int (nI y9))]) hx hb d_Rp_replaced_38 hl (by decide) rfl (fun ls hl => ?_)
  refine lv_iconst (v := 0) hx hb d_Rp_replaced_40 (by decide) ?_
  refine lv_istore (lv' := [(5, .int 0), (4, .int 0), (0, .ref (ad 9)), (1, .int (nI a)), (2, .int (nI p9)), (3, .int (nI y9))]) hx hb d_Rp_replaced_41 hl (by decide) rfl (fun ls hl => ?_)
  obtain ⟨hbe, hkk⟩ := rah_ok (RS := RS9) hok hp9 hy ha (fun z hz => hV z (by omega))
  by_cases hra : RS9 a = -1
  · refine lp_Rp l C0 htr dC dI cI cL cZ ad V nd (a + 1) a p9 y9 (fun j hj => hok.1.2.1 j (by omega)) hp9 (by omega) hK hA hth hst (a + 1) a (by omega) 0 nd K F S D U PT n RS9 _ 0 ⟨hok, ⟨show a + 1 ≤ n by omega, fun _ _ => rfl⟩, hbe, hra, pk_us .., by omega, by omega, hra, hkk, by have := cn_le RS9 (a + 1); omega⟩ H locs ls hP hD hS (lv_sub hl [2, 3, 4, 5, 1, 0] rfl) (fun nd' K' F' S' D' U' PT' n' RS' OP' st' H locs ls hqd hP hD hS hl => ?_) (fun xx X nd' K' F' S' D' U' PT' n' RS' OP' H locs ls rest hqx hex hP hD hS => ?_)
    · have hne := QD_ne hqd
      obtain ⟨r9, q1, q2, q3⟩ := hqd.2.2.2.1
      refine lv_iload hx hb d_Rp_replaced_43 (lv_at hl 5 rfl) ?_
      refine lv_sipush (v := 240) hx hb d_Rp_replaced_45 (by decide) ?_
      refine lv_icmp_ge (tgt := 121) hx hb d_Rp_replaced_48 (by decide) (fun c_48 => ?_) (fun c_48 => ?_)
      · refine lv_aload_n hx hb d_Rp_replaced_121 rfl (lv_at hl 0 rfl) ?_
        refine va_get (D := (dC, dI)) (ci := 2) (v := .ref (ad 10)) (C := R_Rp) (T := F_Rp) (N := 3) hx hb htb ul_Rp hown hK hP 0 rfl rfl 1 (by decide) (htb _ mw_63) (fun _ h9 => h9) rfl d_Rp_replaced_122 ?_
        refine lv_iload_n hx hb d_Rp_replaced_125 rfl (lv_at hl 1 rfl) ?_
        refine ry_iald (D := (dC, dI)) (j := a) hx hb hK hP 1 0 rfl rfl (by omega) (by decide) d_Rp_replaced_126 ?_
        exact wx_ret (W.iret (v := (RS' a)) hx hb hr (fun t ht hW => ⟨Or.inl ⟨(RS' a), ((K', F', S', D', U', PT', n'), RS', OP'), rfl, (by rw [q1]; exact ⟨rfl, q2, rfl, hqd.1⟩), by rw [ht]; exact hP, va_K.moved hW.alike hK, hD⟩, hS.F ht⟩) hS.2.2 d_Rp_replaced_127)
      · refine lv_aload_n hx hb d_Rp_replaced_51 rfl (lv_at hl 0 rfl) ?_
        refine va_get (D := (dC, dI)) (ci := 2) (v := .ref (ad 10)) (C := R_Rp) (T := F_Rp) (N := 3) hx hb htb ul_Rp hown hK hP 0 rfl rfl 1 (by decide) (htb _ mw_63) (fun _ h9 => h9) rfl d_Rp_replaced_52 ?_
        refine lv_iload_n hx hb d_Rp_replaced_55 rfl (lv_at hl 1 rfl) ?_
        refine ry_iald (D := (dC, dI)) (j := a) hx hb hK hP 1 0 rfl rfl (by omega) (by decide) d_Rp_replaced_56 ?_
        refine lv_iconst (v := (-1)) hx hb d_Rp_replaced_57 (by decide) ?_
        refine lv_icmp_ne (tgt := 121) hx hb d_Rp_replaced_58 (by decide) (fun c_58 => ?_) (fun c_58 => ?_)
        · refine lv_aload_n hx hb d_Rp_replaced_121 rfl (lv_at hl 0 rfl) ?_
          refine va_get (D := (dC, dI)) (ci := 2) (v := .ref (ad 10)) (C := R_Rp) (T := F_Rp) (N := 3) hx hb htb ul_Rp hown hK hP 0 rfl rfl 1 (by decide) (htb _ mw_63) (fun _ h9 => h9) rfl d_Rp_replaced_122 ?_
          refine lv_iload_n hx hb d_Rp_replaced_125 rfl (lv_at hl 1 rfl) ?_
          refine ry_iald (D := (dC, dI)) (j := a) hx hb hK hP 1 0 rfl rfl (by omega) (by decide) d_Rp_replaced_126 ?_
          exact wx_ret (W.iret (v := (RS' a)) hx hb hr (fun t ht hW => ⟨Or.inl ⟨(RS' a), ((K', F', S', D', U', PT', n'), RS', OP'), rfl, (by rw [q1]; exact ⟨rfl, q2, rfl, hqd.1⟩), by rw [ht]; exact hP, va_K.moved hW.alike hK, hD⟩, hS.F ht⟩) hS.2.2 d_Rp_replaced_127)
        · exact absurd c_58 hne
    · obtain ⟨hlv, c9, q1, q2, q3⟩ := hqx
      refine wx_out ht0 hlocks (fun t ht hW => ⟨Or.inr ⟨xx, X, ((K', F', S', D', U', PT', n'), RS', OP'), rfl, (by rw [q3]; exact ⟨q1, q2, rfl, hlv⟩), ⟨by rw [ht]; exact hP, va_K.moved hW.alike hK, hD⟩, by obtain ⟨cell, g1, g2, g3⟩ := hex; exact ⟨cell, by rw [ht]; exact g1, g2, by rw [hW.alike.findClass]; exact g3⟩⟩, hS.F ht⟩) hS.2.2
  · obtain ⟨r9, q1, q2, q3⟩ := hbe.get (show a < a + 1 by omega) hra
    refine lv_iload hx hb d_Rp_replaced_43 (lv_at hl 0 rfl) ?_
    refine lv_sipush (v := 240) hx hb d_Rp_replaced_45 (by decide) ?_
    refine lv_icmp_ge (tgt := 121) hx hb d_Rp_replaced_48 (by decide) (fun c_48 => ?_) (fun c_48 => ?_)
    · exact absurd c_48 (by decide)
    · refine lv_aload_n hx hb d_Rp_replaced_51 rfl (lv_at hl 2 rfl) ?_
      refine va_get (D := (dC, dI)) (ci := 2) (v := .ref (ad 10)) (C := R_Rp) (T := F_Rp) (N := 3) hx hb htb ul_Rp hown hK hP 0 rfl rfl 1 (by decide) (htb _ mw_63) (fun _ h9 => h9) rfl d_Rp_replaced_52 ?_
      refine lv_iload_n hx hb d_Rp_replaced_55 rfl (lv_at hl 3 rfl) ?_
      refine ry_iald (D := (dC, dI)) (j := a) hx hb hK hP 1 0 rfl rfl (by omega) (by decide) d_Rp_replaced_56 ?_
      refine lv_iconst (v := (-1)) hx hb d_Rp_replaced_57 (by decide) ?_
      refine lv_icmp_ne (tgt := 121) hx hb d_Rp_replaced_58 (by decide) (fun c_58 => ?_) (fun c_58 => ?_)
      · refine lv_aload_n hx hb d_Rp_replaced_121 rfl (lv_at hl 2 rfl) ?_
        refine va_get (D := (dC, dI)) (ci := 2) (v := .ref (ad 10)) (C := R_Rp) (T := F_Rp) (N := 3) hx hb htb ul_Rp hown hK hP 0 rfl rfl 1 (by decide) (htb _ mw_63) (fun _ h9 => h9) rfl d_Rp_replaced_122 ?_
        refine lv_iload_n hx hb d_Rp_replaced_125 rfl (lv_at hl 3 rfl) ?_
        refine ry_iald (D := (dC, dI)) (j := a) hx hb hK hP 1 0 rfl rfl (by omega) (by decide) d_Rp_replaced_126 ?_
        exact wx_ret (W.iret (v := (RS9 a)) hx hb hr (fun t ht hW => ⟨Or.inl ⟨(RS9 a), ((K, F, S, D, U, PT, n), RS9, _), rfl, (by rw [q3]; exact ⟨rfl, q2, rfl, hok⟩), by rw [ht]; exact hP, va_K.moved hW.alike hK, hD⟩, hS.F ht⟩) hS.2.2 d_Rp_replaced_127)
      · exact absurd c_58 hra
