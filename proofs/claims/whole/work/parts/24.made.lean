set_option maxHeartbeats 4000000 in
set_option maxRecDepth 100000 in
theorem lp_Lv_made {p : Program} (l : Launch) {e : Env} {s : State} {m : MethodId} {args : Array Value} {below : List Frame} {meth : Method} {c : Code} {Q : State → Prop} {A : Nat → Prop} {H0 : Heap} (C0 : cx p s m args meth c b_Lv_made 7 (some .int) R_Lv) (dC : Nat → ClassId) (dI : Nat → Nat → Nat) (cI cL cZ : ClassId) (ad : Nat → Nat) (K F S D U V : Nat → Int32) (PT0 : Nat → Int64) (n : Nat) (hn : n ≤ 120) (nd : Nat → Nat × Nat × Nat) (hok : LvOk nd n K F S D U PT0) (q : Nat × Nat × Nat) (hq : rowOk q n) (hn1 : n < 120) (hK : va_K (dC, dI) classes (tyI cI cL cZ) s) (hA : ∀ q : Nat, H0.size ≤ q → A q) 
    (KB : ∀ (PT : Nat → Int64) (H : Heap) (locs : List Loc) (ls : Array Slot), ((∀ g, g < 32 → PT (n * 32 + g) = en (pb g (ext nd n q) n)) ∧ ∀ z, z < n * 32 → PT z = PT0 z) → va_P (dC, dI) classes [((ad 1), .inr (1, [.ref (ad 2), .ref (ad 3), .ref (ad 4), .ref (ad 5), .ref (ad 6), .ref (ad 7), .ref (ad 8), .int (nI n)])), ((ad 2), .inl (cI, 120, .inl (upd K n (nI q.1)))), ((ad 3), .inl (cI, 120, .inl (upd F n (fF q)))), ((ad 4), .inl (cI, 120, .inl (upd S n (fS q)))), ((ad 5), .inl (cI, 120, .inl (upd D n (nI (dp (ext nd n q) n))))), ((ad 6), .inl (cI, 120, .inl (upd U n (nI (us (ext nd n q) n))))), ((ad 7), .inl (cI, 120, .inl V)), ((ad 8), .inl (cL, 3840, .inr (.inl PT)))] H → va_D A [((ad 1), .inr (1, [.ref (ad 2), .ref (ad 3), .ref (ad 4), .ref (ad 5), .ref (ad 6), .ref (ad 7), .ref (ad 8), .int (nI n)])), ((ad 2), .inl (cI, 120, .inl (upd K n (nI q.1)))), ((ad 3), .inl (cI, 120, .inl (upd F n (fF q)))), ((ad 4), .inl (cI, 120, .inl (upd S n (fS q)))), ((ad 5), .inl (cI, 120, .inl (upd D n (nI (dp (ext nd n q) n))))), ((ad 6), .inl (cI, 120, .inl (upd U n (nI (us (ext nd n q) n))))), ((ad 7), .inl (cI, 120, .inl V)), ((ad 8), .inl (cL, 3840, .inr (.inl PT)))] → va_S A H0 H locs → lv_has ls 7 [(0, .ref (ad 1)), (5, .int (nI n))] → W p l e (rmH 7 1 6) s m args below meth c H locs 0 0 Q (F0 m 117 ls []))
    : ∀ (q9 : Nat) (i : Nat) (PT : Nat → Int64), i + q9 = 32 ∧ ((∀ g, g < i → PT (n * 32 + g) = en (pb g (ext nd n q) n)) ∧ ∀ z, z < n * 32 → PT z = PT0 z) → ∀ (H : Heap) (locs : List Loc) (ls : Array Slot), va_P (dC, dI) classes [((ad 1), .inr (1, [.ref (ad 2), .ref (ad 3), .ref (ad 4), .ref (ad 5), .ref (ad 6), .ref (ad 7), .ref (ad 8), .int (nI n)])), ((ad 2), .inl (cI, 120, .inl (upd K n (nI q.1)))), ((ad 3), .inl (cI, 120, .inl (upd F n (fF q)))), ((ad 4), .inl (cI, 120, .inl (upd S n (fS q)))), ((ad 5), .inl (cI, 120, .inl (upd D n (nI (dp (ext nd n q) n))))), ((ad 6), .inl (cI, 120, .inl (upd U n (nI (us (ext nd n q) n))))), ((ad 7), .inl (cI, 120, .inl V)), ((ad 8), .inl (cL, 3840, .inr (.inl PT)))] H → va_D A [((ad 1), .inr (1, [.ref (ad 2), .ref (ad 3), .ref (ad 4), .ref (ad 5), .ref (ad 6), .ref (ad 7), .ref (ad 8), .int (nI n)])), ((ad 2), .inl (cI, 120, .inl (upd K n (nI q.1)))), ((ad 3), .inl (cI, 120, .inl (upd F n (fF q)))), ((ad 4), .inl (cI, 120, .inl (upd S n (fS q)))), ((ad 5), .inl (cI, 120, .inl (upd D n (nI (dp (ext nd n q) n))))), ((ad 6), .inl (cI, 120, .inl (upd U n (nI (us (ext nd n q) n))))), ((ad 7), .inl (cI, 120, .inl V)), ((ad 8), .inl (cL, 3840, .inr (.inl PT)))] → va_S A H0 H locs → lv_has ls 7 [(0, .ref (ad 1)), (5, .int (nI n)), (6, .int (nI i))] → W p l e (rmH 7 1 6) s m args below meth c H locs 0 0 Q (F0 m 83 ls []) := by
  obtain ⟨hx, hb, hr, hml, hown, htb, hlocks⟩ := id C0
  intro q9
  induction q9 with
  | zero =>
    intro i PT hiV H locs ls hP hD hS hl
    obtain ⟨hi, hI1, hI2⟩ := hiV
    refine lv_iload hx hb d_Lv_made_83 (lv_at hl 2 rfl) ?_
    refine lv_bipush (v := 32) hx hb d_Lv_made_85 (by decide) ?_
    refine lv_icmp_ge (tgt := 117) hx hb d_Lv_made_87 (by decide) (fun c_87 => ?_) (fun c_87 => ?_)
    · exact KB PT H locs ls ⟨fun g hg => hI1 g (by omega), hI2⟩ hP hD hS (lv_sub hl [0, 1] rfl)
    · exact absurd ((nI_leI (a := 32) (b := i) (by decide) (by omega)).mpr (by omega)) c_87
  | succ q9 ih =>
    intro i PT hiV H locs ls hP hD hS hl
    obtain ⟨hi, hI1, hI2⟩ := hiV
    refine lv_iload hx hb d_Lv_made_83 (lv_at hl 2 rfl) ?_
    refine lv_bipush (v := 32) hx hb d_Lv_made_85 (by decide) ?_
    refine lv_icmp_ge (tgt := 117) hx hb d_Lv_made_87 (by decide) (fun c_87 => ?_) (fun c_87 => ?_)
    · exact absurd ((nI_leI (a := 32) (b := i) (by decide) (by omega)).mp c_87) (by omega)
    · refine lv_aload_n hx hb d_Lv_made_90 rfl (lv_at hl 0 rfl) ?_
      refine va_get (D := (dC, dI)) (ci := 1) (v := .ref (ad 8)) (C := R_Lv) (T := F_Lv) (N := 8) hx hb htb ul_Lv hown hK hP 0 rfl rfl 6 (by decide) (htb _ mw_35) (fun _ h9 => h9) rfl d_Lv_made_91 ?_
      refine lv_iload hx hb d_Lv_made_94 (lv_at hl 1 rfl) ?_
      refine lv_bipush (v := 32) hx hb d_Lv_made_96 (by decide) ?_
      refine lv_imul hx hb d_Lv_made_98 ?_
      refine lv_iload hx hb d_Lv_made_99 (lv_at hl 2 rfl) ?_
      refine lv_iadd hx hb d_Lv_made_101 ?_
      rw [show ((nI n * 32 + nI i : Int32)) = nI (n * 32 + i) from by rw [show (32 : Int32) = nI 32 from rfl, pk_mul, nI_add]]
      refine lv_aload_n hx hb d_Lv_made_102 rfl (lv_at hl 0 rfl) ?_
      refine lv_iload hx hb d_Lv_made_103 (lv_at hl 1 rfl) ?_
      refine lv_iload hx hb d_Lv_made_105 (lv_at hl 2 rfl) ?_
      refine ry_callV (n := 2) (As := [.int (nI n), .int (nI i)]) (rest := [.int (nI (n * 32 + i)), .ref (ad 8)]) ⟨hx, hb, hml, hown, htb⟩ (c_Lv_partsOf l dC dI cI cL cZ ad (upd K n (nI q.1)) (upd F n (fF q)) (upd S n (fS q)) (upd D n (nI (dp (ext nd n q) n))) (upd U n (nI (us (ext nd n q) n))) V PT n hn n hn1 q.1 q.2.1 q.2.2 hq.1 pk_us (fun h => by rw [pk_us, fF_n h]) (fun h => by rw [pk_us, fS_n h]) hq.2.1 (fun h => by have := hq.2.2.1 h; omega) (fun h => by have := hq.2.2.2.1 h; omega) i (by omega) (if 2 ≤ q.1 then pb i nd q.2.1 else sg 5) (if 3 ≤ q.1 then pb i nd q.2.2 else sg 5) (if_pb _ hok.1 i hq.2.2.1).1 (if_pb _ hok.1 i hq.2.2.2.1).1 (if_pb _ hok.1 i hq.2.2.1).2 (fun h => by rw [if_pos h, hI2 _ (by have := hq.2.2.1 h; omega)]; exact hok.2.2.2.2 _ (hq.2.2.1 h) i (by omega)) (fun h => by rw [if_pos h, hI2 _ (by have := hq.2.2.2.1 h; omega)]; exact hok.2.2.2.2 _ (hq.2.2.2.1 h) i (by omega))) (gV mw_335 mw_337 mp_12 mw_2 mc_Lv_partsOf) rfl rfl (by decide +kernel) ⟨Nat.le_of_ble_eq_true rfl, Nat.le_of_ble_eq_true rfl⟩ hP hK (ci := 1) (q0 := 0) rfl rfl rfl rfl hl.1 rfl (Nat.le_of_ble_eq_true rfl) d_Lv_made_107 ⟨Nat.zero_le _, Nat.zero_le _⟩ (fun r_1 hr_1 => ?_)
      refine W.eq (g2 := F0 m 110 ls [.long r_1, .int (nI (n * 32 + i)), .ref (ad 8)]) rfl ?_
      rw [← ext_pb i hq] at hr_1
      subst hr_1
      refine ry_last (D := (dC, dI)) (j := n * 32 + i) hx hb hK hP hD hS 7 1 rfl rfl (by omega) (by decide) d_Lv_made_110 (fun H locs hP hD hS => ?_)
      have hP : va_P (dC, dI) classes [((ad 1), .inr (1, [.ref (ad 2), .ref (ad 3), .ref (ad 4), .ref (ad 5), .ref (ad 6), .ref (ad 7), .ref (ad 8), .int (nI n)])), ((ad 2), .inl (cI, 120, .inl (upd K n (nI q.1)))), ((ad 3), .inl (cI, 120, .inl (upd F n (fF q)))), ((ad 4), .inl (cI, 120, .inl (upd S n (fS q)))), ((ad 5), .inl (cI, 120, .inl (upd D n (nI (dp (ext nd n q) n))))), ((ad 6), .inl (cI, 120, .inl (upd U n (nI (us (ext nd n q) n))))), ((ad 7), .inl (cI, 120, .inl V)), ((ad 8), .inl (cL, 3840, .inr (.inl (vp_updL PT (n * 32 + i) ((en (pb i (ext nd n q) n)))))))] H := hP
      have hD : va_D A [((ad 1), .inr (1, [.ref (ad 2), .ref (ad 3), .ref (ad 4), .ref (ad 5), .ref (ad 6), .ref (ad 7), .ref (ad 8), .int (nI n)])), ((ad 2), .inl (cI, 120, .inl (upd K n (nI q.1)))), ((ad 3), .inl (cI, 120, .inl (upd F n (fF q)))), ((ad 4), .inl (cI, 120, .inl (upd S n (fS q)))), ((ad 5), .inl (cI, 120, .inl (upd D n (nI (dp (ext nd n q) n))))), ((ad 6), .inl (cI, 120, .inl (upd U n (nI (us (ext nd n q) n))))), ((ad 7), .inl (cI, 120, .inl V)), ((ad 8), .inl (cL, 3840, .inr (.inl (vp_updL PT (n * 32 + i) ((en (pb i (ext nd n q) n)))))))] := hD
      refine lv_iinc (v := (nI (i + 1))) (lv' := [(6, .int (nI (i + 1))), (0, .ref (ad 1)), (5, .int (nI n))]) hx hb d_Lv_made_111 hl (k := 2) rfl (nI_1 _) (by decide) rfl (fun ls hl => ?_)
      refine lv_goto (tgt := 83) hx hb d_Lv_made_114 (by decide) ?_
      exact ih (i + 1) (vp_updL PT (n * 32 + i) (en (pb i (ext nd n q) n))) ⟨by omega, pt_up (f := fun g => en (pb g (ext nd n q) n)) hI1, fun z hz => by rw [pk_uLn (by omega)]; exact hI2 z hz⟩ H locs ls hP hD hS (lv_sub hl [1, 2, 0] rfl)

set_option maxHeartbeats 4000000 in
set_option maxRecDepth 100000 in
theorem c_Lv_made (l : Launch) (htr : ∀ e, l.admits e → e.platform.stackTraces = false) (dC : Nat → ClassId) (dI : Nat → Nat → Nat) (cI cL cZ : ClassId) (ad : Nat → Nat) (K F S D U V : Nat → Int32) (PT : Nat → Int64) (n : Nat) (hn : n ≤ 120) (nd : Nat → Nat × Nat × Nat) (hok : LvOk nd n K F S D U PT) (q : Nat × Nat × Nat) (hq : rowOk q n) (sz : Nat) : wx_Met l y_Lv_made (cw_Lv_made :: tb) (rmH 7 1 6) (va_Pc [.ref (ad 1), .int (nI q.1), .int (fF q), .int (fS q)] (wz_P (dC, dI) classes (wLv cI cL ad K F S D U V PT n) (tyI cI cL cZ) sz)) (wx_Q ry_i (fun r (u : LvS) => ∃ nd', mkd nd n q r nd' u.2.2.2.2.2.2 ∧ LvU nd' u) (fun X (u : LvS) => LvU nd u ∧ u.2.2.2.2.2.2 = n ∧ mkx nd n q X) (wy_B (dC, dI) classes (tyI cI cL cZ) (va_A (wLv cI cL ad K F S D U V PT n) sz) (fun u : LvS => wLvS cI cL ad V u)) (va_A (wLv cI cL ad K F S D U V PT n) sz)) (va_A (wLv cI cL ad K F S D U V PT n) sz) := by
  refine wx_ofW (cc := b_Lv_made) (maxL := 7) (ret := (some .int)) (by decide +kernel) rfl ?_
  intro p e s m args below meth c s₁ B hml0 ht0 hv
  have C0 := cx_of B hml0 rfl
  obtain ⟨hx, hb, hr, hml, hown, htb, hlocks⟩ := id C0
  obtain ⟨rfl, ⟨hsz, hP, hK, hD0⟩, hth, hst⟩ := hv
  subst hsz
  have hD := hD0.self (sz := s.heap.size)
  generalize hAe : va_A (wLv cI cL ad K F S D U V PT n) s.heap.size = A at hD hth ⊢
  have hA : ∀ q : Nat, s.heap.size ≤ q → A q := fun q h => by rw [← hAe]; exact Or.inr h
  have hS : va_S A s.heap s.heap [] := va_S.rf
  have hl := lv_entry ([.ref (ad 1), .int (nI q.1), .int (fF q), .int (fS q)]) (n := 7) (Nat.le_of_ble_eq_true rfl)
  rw [lg_entry_eq]
  generalize (lg_sl ([.ref (ad 1), .int (nI q.1), .int (fF q), .int (fS q)]) ++ List.replicate (7 - (lg_sl ([.ref (ad 1), .int (nI q.1), .int (fF q), .int (fS q)])).length) Slot.unset).toArray = ls at hl ⊢
  have hl : lv_has ls 7 [(0, .ref (ad 1)), (1, .int (nI q.1)), (2, .int (fF q)), (3, .int (fS q))] := hl
  have hP : va_P (dC, dI) classes [((ad 1), .inr (1, [.ref (ad 2), .ref (ad 3), .ref (ad 4), .ref (ad 5), .ref (ad 6), .ref (ad 7), .ref (ad 8), .int (nI n)])), ((ad 2), .inl (cI, 120, .inl K)), ((ad 3), .inl (cI, 120, .inl F)), ((ad 4), .inl (cI, 120, .inl S)), ((ad 5), .inl (cI, 120, .inl D)), ((ad 6), .inl (cI, 120, .inl U)), ((ad 7), .inl (cI, 120, .inl V)), ((ad 8), .inl (cL, 3840, .inr (.inl PT)))] s.heap := hP
  have hD : va_D A [((ad 1), .inr (1, [.ref (ad 2), .ref (ad 3), .ref (ad 4), .ref (ad 5), .ref (ad 6), .ref (ad 7), .ref (ad 8), .int (nI n)])), ((ad 2), .inl (cI, 120, .inl K)), ((ad 3), .inl (cI, 120, .inl F)), ((ad 4), .inl (cI, 120, .inl S)), ((ad 5), .inl (cI, 120, .inl D)), ((ad 6), .inl (cI, 120, .inl U)), ((ad 7), .inl (cI, 120, .inl V)), ((ad 8), .inl (cL, 3840, .inr (.inl PT)))] := hD
  refine lv_aload_n hx hb d_Lv_made_0 rfl (lv_at hl 0 rfl) ?_
  refine lv_iload_n hx hb d_Lv_made_1 rfl (lv_at hl 1 rfl) ?_
  refine lv_iload_n hx hb d_Lv_made_2 rfl (lv_at hl 2 rfl) ?_
  refine lv_iload_n hx hb d_Lv_made_3 rfl (lv_at hl 3 rfl) ?_
  refine ry_callV (n := 3) (As := [.int (nI q.1), .int (fF q), .int (fS q)]) (rest := []) ⟨hx, hb, hml, hown, htb⟩ (c_Lv_find l dC dI cI cL cZ ad K F S D U V PT n hn (nI q.1) (fF q) (fS q)) (gV mw_235 mw_237 mp_7 mw_2 mc_Lv_find) rfl rfl (by decide +kernel) ⟨Nat.le_of_ble_eq_true rfl, Nat.le_of_ble_eq_true rfl⟩ hP hK (ci := 1) (q0 := 0) rfl rfl rfl rfl hl.1 rfl (Nat.le_of_ble_eq_true rfl) d_Lv_made_4 ⟨Nat.zero_le _, Nat.zero_le _⟩ (fun r_1 hr_1 => ?_)
  subst hr_1
  refine W.eq (g2 := F0 m 7 ls [.int (fnd K F S n q)]) rfl ?_
  refine lv_istore (lv' := [(4, .int (fnd K F S n q)), (0, .ref (ad 1)), (1, .int (nI q.1)), (2, .int (fF q)), (3, .int (fS q))]) hx hb d_Lv_made_7 hl (by decide) rfl (fun ls hl => ?_)
  refine lv_iload hx hb d_Lv_made_9 (lv_at hl 0 rfl) ?_
  refine lv_iconst (v := (-1)) hx hb d_Lv_made_11 (by decide) ?_
  refine lv_icmp_eq (tgt := 18) hx hb d_Lv_made_12 (by decide) (fun c_12 => ?_) (fun c_12 => ?_)
  · refine lv_aload_n hx hb d_Lv_made_18 rfl (lv_at hl 1 rfl) ?_
    refine lv_iload_n hx hb d_Lv_made_19 rfl (lv_at hl 2 rfl) ?_
    refine lv_iload_n hx hb d_Lv_made_20 rfl (lv_at hl 3 rfl) ?_
    refine wz_callV (n := 2) (wr := []) (As := [.int (nI q.1), .int (fF q)]) (rest := []) ⟨hx, hb, hml, hown, htb⟩ (c_Lv_checkNew l htr dC dI cI cL cZ ad K F S D U V PT n hn q.1 hq.1 (fF q) q.2.1 (if q.1 = 2 then dp nd q.2.1 else 0) (fun h => fF_n (by omega)) (fun h => by have := hq.2.2.1 (by omega); omega) (fun h => by rw [if_pos h]; exact hok.2.2.1 _ (hq.2.2.1 (by omega))) (if_lt _ (fun h => by have := hok.1.2.2.1 _ (hq.2.2.1 (by omega)); omega) (by decide)) s.heap.size) (gV mw_239 mw_241 mp_8 mw_2 mc_Lv_checkNew) rfl rfl (by decide +kernel) ⟨Nat.le_of_ble_eq_true rfl, Nat.le_of_ble_eq_true rfl⟩ hth hst hP hD hS hA hK [0, 1, 2, 3, 4, 5, 6, 7] [] rfl rfl (by decide) (by decide) (hP.sub [0, 1, 2, 3, 4, 5, 6, 7] rfl) ((hD.sub [0, 1, 2, 3, 4, 5, 6, 7] (by decide) rfl).weaken (fun _ _ _ _ => trivial)) (ci := 1) (q0 := 0) rfl rfl rfl rfl hl.1 rfl (Nat.le_of_ble_eq_true rfl) d_Lv_made_21 ⟨Nat.le_of_ble_eq_true rfl, Nat.le_of_ble_eq_true rfl⟩ (fun r u H locs hpost hP hD hS => ?_) (fun x X u H locs hpt hex hP hD hS => ?_)
    · have hnew : ∀ j, j < n → nd j ≠ q := ((fnd_cases hok.1 hok.2.1 hq).resolve_right (fun ⟨j, h1, _, h3⟩ => nI_m1 (by omega) (h3.symm.trans c_12))).2
      have hdd : ¬ (q.1 = 2 ∧ 60 ≤ dp nd q.2.1) := fun z => hpost.1 ⟨z.1, by rw [if_pos z.1]; exact z.2⟩
      have hn1 : n < 120 := hpost.2
      have hP : va_P (dC, dI) classes [((ad 1), .inr (1, [.ref (ad 2), .ref (ad 3), .ref (ad 4), .ref (ad 5), .ref (ad 6), .ref (ad 7), .ref (ad 8), .int (nI n)])), ((ad 2), .inl (cI, 120, .inl K)), ((ad 3), .inl (cI, 120, .inl F)), ((ad 4), .inl (cI, 120, .inl S)), ((ad 5), .inl (cI, 120, .inl D)), ((ad 6), .inl (cI, 120, .inl U)), ((ad 7), .inl (cI, 120, .inl V)), ((ad 8), .inl (cL, 3840, .inr (.inl PT)))] H := hP
      have hD : va_D A [((ad 1), .inr (1, [.ref (ad 2), .ref (ad 3), .ref (ad 4), .ref (ad 5), .ref (ad 6), .ref (ad 7), .ref (ad 8), .int (nI n)])), ((ad 2), .inl (cI, 120, .inl K)), ((ad 3), .inl (cI, 120, .inl F)), ((ad 4), .inl (cI, 120, .inl S)), ((ad 5), .inl (cI, 120, .inl D)), ((ad 6), .inl (cI, 120, .inl U)), ((ad 7), .inl (cI, 120, .inl V)), ((ad 8), .inl (cL, 3840, .inr (.inl PT)))] := hD
      refine W.eq (g2 := F0 m 24 ls []) rfl ?_
      refine lv_aload_n hx hb d_Lv_made_24 rfl (lv_at hl 1 rfl) ?_
      refine va_get (D := (dC, dI)) (ci := 1) (v := .int (nI n)) (C := R_Lv) (T := F_Lv) (N := 8) hx hb htb ul_Lv hown hK hP 0 rfl rfl 7 (by decide) (htb _ mw_36) (fun _ h9 => h9) rfl d_Lv_made_25 ?_
      refine lv_istore (lv' := [(5, .int (nI n)), (4, .int (fnd K F S n q)), (0, .ref (ad 1)), (1, .int (nI q.1)), (2, .int (fF q)), (3, .int (fS q))]) hx hb d_Lv_made_28 hl (by decide) rfl (fun ls hl => ?_)
      refine lv_aload_n hx hb d_Lv_made_30 rfl (lv_at hl 2 rfl) ?_
      refine va_get (D := (dC, dI)) (ci := 1) (v := .ref (ad 2)) (C := R_Lv) (T := F_Lv) (N := 8) hx hb htb ul_Lv hown hK hP 0 rfl rfl 0 (by decide) (htb _ mw_29) (fun _ h9 => h9) rfl d_Lv_made_31 ?_
      refine lv_iload hx hb d_Lv_made_34 (lv_at hl 0 rfl) ?_
      refine lv_iload_n hx hb d_Lv_made_36 rfl (lv_at hl 3 rfl) ?_
      refine ry_iast (D := (dC, dI)) (j := n) hx hb hK hP hD hS 1 0 rfl rfl (by omega) (by decide) d_Lv_made_37 (fun H locs hP hD hS => ?_)
      have hP : va_P (dC, dI) classes [((ad 1), .inr (1, [.ref (ad 2), .ref (ad 3), .ref (ad 4), .ref (ad 5), .ref (ad 6), .ref (ad 7), .ref (ad 8), .int (nI n)])), ((ad 2), .inl (cI, 120, .inl (upd K n (nI q.1)))), ((ad 3), .inl (cI, 120, .inl F)), ((ad 4), .inl (cI, 120, .inl S)), ((ad 5), .inl (cI, 120, .inl D)), ((ad 6), .inl (cI, 120, .inl U)), ((ad 7), .inl (cI, 120, .inl V)), ((ad 8), .inl (cL, 3840, .inr (.inl PT)))] H := hP
      have hD : va_D A [((ad 1), .inr (1, [.ref (ad 2), .ref (ad 3), .ref (ad 4), .ref (ad 5), .ref (ad 6), .ref (ad 7), .ref (ad 8), .int (nI n)])), ((ad 2), .inl (cI, 120, .inl (upd K n (nI q.1)))), ((ad 3), .inl (cI, 120, .inl F)), ((ad 4), .inl (cI, 120, .inl S)), ((ad 5), .inl (cI, 120, .inl D)), ((ad 6), .inl (cI, 120, .inl U)), ((ad 7), .inl (cI, 120, .inl V)), ((ad 8), .inl (cL, 3840, .inr (.inl PT)))] := hD
      refine lv_aload_n hx hb d_Lv_made_38 rfl (lv_at hl 2 rfl) ?_
      refine va_get (D := (dC, dI)) (ci := 1) (v := .ref (ad 3)) (C := R_Lv) (T := F_Lv) (N := 8) hx hb htb ul_Lv hown hK hP 0 rfl rfl 1 (by decide) (htb _ mw_30) (fun _ h9 => h9) rfl d_Lv_made_39 ?_
      refine lv_iload hx hb d_Lv_made_42 (lv_at hl 0 rfl) ?_
      refine lv_iload_n hx hb d_Lv_made_44 rfl (lv_at hl 4 rfl) ?_
      refine ry_iast (D := (dC, dI)) (j := n) hx hb hK hP hD hS 2 0 rfl rfl (by omega) (by decide) d_Lv_made_45 (fun H locs hP hD hS => ?_)
      have hP : va_P (dC, dI) classes [((ad 1), .inr (1, [.ref (ad 2), .ref (ad 3), .ref (ad 4), .ref (ad 5), .ref (ad 6), .ref (ad 7), .ref (ad 8), .int (nI n)])), ((ad 2), .inl (cI, 120, .inl (upd K n (nI q.1)))), ((ad 3), .inl (cI, 120, .inl (upd F n (fF q)))), ((ad 4), .inl (cI, 120, .inl S)), ((ad 5), .inl (cI, 120, .inl D)), ((ad 6), .inl (cI, 120, .inl U)), ((ad 7), .inl (cI, 120, .inl V)), ((ad 8), .inl (cL, 3840, .inr (.inl PT)))] H := hP
      have hD : va_D A [((ad 1), .inr (1, [.ref (ad 2), .ref (ad 3), .ref (ad 4), .ref (ad 5), .ref (ad 6), .ref (ad 7), .ref (ad 8), .int (nI n)])), ((ad 2), .inl (cI, 120, .inl (upd K n (nI q.1)))), ((ad 3), .inl (cI, 120, .inl (upd F n (fF q)))), ((ad 4), .inl (cI, 120, .inl S)), ((ad 5), .inl (cI, 120, .inl D)), ((ad 6), .inl (cI, 120, .inl U)), ((ad 7), .inl (cI, 120, .inl V)), ((ad 8), .inl (cL, 3840, .inr (.inl PT)))] := hD
      refine lv_aload_n hx hb d_Lv_made_46 rfl (lv_at hl 2 rfl) ?_
      refine va_get (D := (dC, dI)) (ci := 1) (v := .ref (ad 4)) (C := R_Lv) (T := F_Lv) (N := 8) hx hb htb ul_Lv hown hK hP 0 rfl rfl 2 (by decide) (htb _ mw_31) (fun _ h9 => h9) rfl d_Lv_made_47 ?_
      refine lv_iload hx hb d_Lv_made_50 (lv_at hl 0 rfl) ?_
      refine lv_iload_n hx hb d_Lv_made_52 rfl (lv_at hl 5 rfl) ?_
      refine ry_iast (D := (dC, dI)) (j := n) hx hb hK hP hD hS 3 0 rfl rfl (by omega) (by decide) d_Lv_made_53 (fun H locs hP hD hS => ?_)
      have hP : va_P (dC, dI) classes [((ad 1), .inr (1, [.ref (ad 2), .ref (ad 3), .ref (ad 4), .ref (ad 5), .ref (ad 6), .ref (ad 7), .ref (ad 8), .int (nI n)])), ((ad 2), .inl (cI, 120, .inl (upd K n (nI q.1)))), ((ad 3), .inl (cI, 120, .inl (upd F n (fF q)))), ((ad 4), .inl (cI, 120, .inl (upd S n (fS q)))), ((ad 5), .inl (cI, 120, .inl D)), ((ad 6), .inl (cI, 120, .inl U)), ((ad 7), .inl (cI, 120, .inl V)), ((ad 8), .inl (cL, 3840, .inr (.inl PT)))] H := hP
      have hD : va_D A [((ad 1), .inr (1, [.ref (ad 2), .ref (ad 3), .ref (ad 4), .ref (ad 5), .ref (ad 6), .ref (ad 7), .ref (ad 8), .int (nI n)])), ((ad 2), .inl (cI, 120, .inl (upd K n (nI q.1)))), ((ad 3), .inl (cI, 120, .inl (upd F n (fF q)))), ((ad 4), .inl (cI, 120, .inl (upd S n (fS q)))), ((ad 5), .inl (cI, 120, .inl D)), ((ad 6), .inl (cI, 120, .inl U)), ((ad 7), .inl (cI, 120, .inl V)), ((ad 8), .inl (cL, 3840, .inr (.inl PT)))] := hD
      refine lv_aload_n hx hb d_Lv_made_54 rfl (lv_at hl 2 rfl) ?_
      refine va_get (D := (dC, dI)) (ci := 1) (v := .ref (ad 5)) (C := R_Lv) (T := F_Lv) (N := 8) hx hb htb ul_Lv hown hK hP 0 rfl rfl 3 (by decide) (htb _ mw_32) (fun _ h9 => h9) rfl d_Lv_made_55 ?_
      refine lv_iload hx hb d_Lv_made_58 (lv_at hl 0 rfl) ?_
      refine lv_aload_n hx hb d_Lv_made_60 rfl (lv_at hl 2 rfl) ?_
      refine lv_iload hx hb d_Lv_made_61 (lv_at hl 0 rfl) ?_
      refine ry_callV (n := 1) (As := [.int (nI n)]) (rest := [.int (nI n), .ref (ad 5)]) ⟨hx, hb, hml, hown, htb⟩ (c_Lv_nextsOf l dC dI cI cL cZ ad (upd K n (nI q.1)) (upd F n (fF q)) (upd S n (fS q)) D U V PT n hn n hn1 q.1 q.2.1 q.2.2 hq.1 pk_us (fun h => by rw [pk_us, fF_n h]) (fun h => by rw [pk_us, fS_n h]) hq.2.1 (fun h => by have := hq.2.2.1 h; omega) (fun h => by have := hq.2.2.2.1 h; omega) (if 2 ≤ q.1 then dp nd q.2.1 else 0) (if 3 ≤ q.1 then dp nd q.2.2 else 0) (fun h => by rw [if_pos h]; exact hok.2.2.1 _ (hq.2.2.1 h)) (fun h => by rw [if_pos h]; exact hok.2.2.1 _ (hq.2.2.2.1 h)) (if_lt _ (fun h => by have := hok.1.2.2.1 _ (hq.2.2.1 h); omega) (by decide)) (if_lt _ (fun h => by have := hok.1.2.2.1 _ (hq.2.2.2.1 h); omega) (by decide))) (gV mw_327 mw_329 mp_10 mw_2 mc_Lv_nextsOf) rfl rfl (by decide +kernel) ⟨Nat.le_of_ble_eq_true rfl, Nat.le_of_ble_eq_true rfl⟩ hP hK (ci := 1) (q0 := 0) rfl rfl rfl rfl hl.1 rfl (Nat.le_of_ble_eq_true rfl) d_Lv_made_63 ⟨Nat.zero_le _, Nat.zero_le _⟩ (fun r_2 hr_2 => ?_)
      refine W.eq (g2 := F0 m 66 ls [.int r_2, .int (nI n), .ref (ad 5)]) rfl ?_
      rw [← ext_dp (nd := nd) hq] at hr_2
      subst hr_2
      refine ry_iast (D := (dC, dI)) (j := n) hx hb hK hP hD hS 4 0 rfl rfl (by omega) (by decide) d_Lv_made_66 (fun H locs hP hD hS => ?_)
      have hP : va_P (dC, dI) classes [((ad 1), .inr (1, [.ref (ad 2), .ref (ad 3), .ref (ad 4), .ref (ad 5), .ref (ad 6), .ref (ad 7), .ref (ad 8), .int (nI n)])), ((ad 2), .inl (cI, 120, .inl (upd K n (nI q.1)))), ((ad 3), .inl (cI, 120, .inl (upd F n (fF q)))), ((ad 4), .inl (cI, 120, .inl (upd S n (fS q)))), ((ad 5), .inl (cI, 120, .inl (upd D n ((nI (dp (ext nd n q) n)))))), ((ad 6), .inl (cI, 120, .inl U)), ((ad 7), .inl (cI, 120, .inl V)), ((ad 8), .inl (cL, 3840, .inr (.inl PT)))] H := hP
      have hD : va_D A [((ad 1), .inr (1, [.ref (ad 2), .ref (ad 3), .ref (ad 4), .ref (ad 5), .ref (ad 6), .ref (ad 7), .ref (ad 8), .int (nI n)])), ((ad 2), .inl (cI, 120, .inl (upd K n (nI q.1)))), ((ad 3), .inl (cI, 120, .inl (upd F n (fF q)))), ((ad 4), .inl (cI, 120, .inl (upd S n (fS q)))), ((ad 5), .inl (cI, 120, .inl (upd D n ((nI (dp (ext nd n q) n)))))), ((ad 6), .inl (cI, 120, .inl U)), ((ad 7), .inl (cI, 120, .inl V)), ((ad 8), .inl (cL, 3840, .inr (.inl PT)))] := hD
      refine lv_aload_n hx hb d_Lv_made_67 rfl (lv_at hl 2 rfl) ?_
      refine va_get (D := (dC, dI)) (ci := 1) (v := .ref (ad 6)) (C := R_Lv) (T := F_Lv) (N := 8) hx hb htb ul_Lv hown hK hP 0 rfl rfl 4 (by decide) (htb _ mw_33) (fun _ h9 => h9) rfl d_Lv_made_68 ?_
      refine lv_iload hx hb d_Lv_made_71 (lv_at hl 0 rfl) ?_
      refine lv_aload_n hx hb d_Lv_made_73 rfl (lv_at hl 2 rfl) ?_
      refine lv_iload hx hb d_Lv_made_74 (lv_at hl 0 rfl) ?_
      refine ry_callV (n := 1) (As := [.int (nI n)]) (rest := [.int (nI n), .ref (ad 6)]) ⟨hx, hb, hml, hown, htb⟩ (c_Lv_usesOf l dC dI cI cL cZ ad (upd K n (nI q.1)) (upd F n (fF q)) (upd S n (fS q)) (upd D n (nI (dp (ext nd n q) n))) U V PT n hn n hn1 q.1 q.2.1 q.2.2 hq.1 pk_us (fun h => by rw [pk_us, fF_n h]) (fun h => by rw [pk_us, fS_n h]) hq.2.1 (fun h => by have := hq.2.2.1 h; omega) (fun h => by have := hq.2.2.2.1 h; omega) (if 2 ≤ q.1 then us nd q.2.1 else 0) (if 3 ≤ q.1 then us nd q.2.2 else 0) (fun h => by rw [if_pos h]; exact hok.2.2.2.1 _ (hq.2.2.1 h)) (fun h => by rw [if_pos h]; exact hok.2.2.2.1 _ (hq.2.2.2.1 h)) (if_lt _ (fun h => us_lt hok.1.2.1 _ _ (Nat.lt_succ_self _) (hq.2.2.1 h)) (by decide)) (if_lt _ (fun h => us_lt hok.1.2.1 _ _ (Nat.lt_succ_self _) (hq.2.2.2.1 h)) (by decide))) (gV mw_331 mw_333 mp_11 mw_2 mc_Lv_usesOf) rfl rfl (by decide +kernel) ⟨Nat.le_of_ble_eq_true rfl, Nat.le_of_ble_eq_true rfl⟩ hP hK (ci := 1) (q0 := 0) rfl rfl rfl rfl hl.1 rfl (Nat.le_of_ble_eq_true rfl) d_Lv_made_76 ⟨Nat.zero_le _, Nat.zero_le _⟩ (fun r_3 hr_3 => ?_)
      refine W.eq (g2 := F0 m 79 ls [.int r_3, .int (nI n), .ref (ad 6)]) rfl ?_
      rw [← ext_us (nd := nd) hq] at hr_3
      subst hr_3
      refine ry_iast (D := (dC, dI)) (j := n) hx hb hK hP hD hS 5 0 rfl rfl (by omega) (by decide) d_Lv_made_79 (fun H locs hP hD hS => ?_)
      have hP : va_P (dC, dI) classes [((ad 1), .inr (1, [.ref (ad 2), .ref (ad 3), .ref (ad 4), .ref (ad 5), .ref (ad 6), .ref (ad 7), .ref (ad 8), .int (nI n)])), ((ad 2), .inl (cI, 120, .inl (upd K n (nI q.1)))), ((ad 3), .inl (cI, 120, .inl (upd F n (fF q)))), ((ad 4), .inl (cI, 120, .inl (upd S n (fS q)))), ((ad 5), .inl (cI, 120, .inl (upd D n ((nI (dp (ext nd n q) n)))))), ((ad 6), .inl (cI, 120, .inl (upd U n ((nI (us (ext nd n q) n)))))), ((ad 7), .inl (cI, 120, .inl V)), ((ad 8), .inl (cL, 3840, .inr (.inl PT)))] H := hP
      have hD : va_D A [((ad 1), .inr (1, [.ref (ad 2), .ref (ad 3), .ref (ad 4), .ref (ad 5), .ref (ad 6), .ref (ad 7), .ref (ad 8), .int (nI n)])), ((ad 2), .inl (cI, 120, .inl (upd K n (nI q.1)))), ((ad 3), .inl (cI, 120, .inl (upd F n (fF q)))), ((ad 4), .inl (cI, 120, .inl (upd S n (fS q)))), ((ad 5), .inl (cI, 120, .inl (upd D n ((nI (dp (ext nd n q) n)))))), ((ad 6), .inl (cI, 120, .inl (upd U n ((nI (us (ext nd n q) n)))))), ((ad 7), .inl (cI, 120, .inl V)), ((ad 8), .inl (cL, 3840, .inr (.inl PT)))] := hD
      refine lv_iconst (v := 0) hx hb d_Lv_made_80 (by decide) ?_
      refine lv_istore (lv' := [(6, .int 0), (5, .int (nI n)), (4, .int (fnd K F S n q)), (0, .ref (ad 1)), (1, .int (nI q.1)), (2, .int (fF q)), (3, .int (fS q))]) hx hb d_Lv_made_81 hl (by decide) rfl (fun ls hl => ?_)
      refine lp_Lv_made l C0 dC dI cI cL cZ ad K F S D U V PT n hn nd hok q hq hn1 hK hA (fun PT9 H locs ls hI hP hD hS hl => ?_) 32 0 PT ⟨rfl, fun g hg => by omega, fun z hz => rfl⟩ H locs ls hP hD hS (lv_sub hl [3, 1, 0] rfl)
      refine lv_aload_n hx hb d_Lv_made_117 rfl (lv_at hl 0 rfl) ?_
      refine lv_dup hx hb d_Lv_made_118 rfl ?_
      refine va_get (D := (dC, dI)) (ci := 1) (v := .int (nI n)) (C := R_Lv) (T := F_Lv) (N := 8) hx hb htb ul_Lv hown hK hP 0 rfl rfl 7 (by decide) (htb _ mw_36) (fun _ h9 => h9) rfl d_Lv_made_119 ?_
      refine lv_iconst (v := 1) hx hb d_Lv_made_122 (by decide) ?_
      refine lv_iadd hx hb d_Lv_made_123 ?_
      rw [nI_1]
      refine va_put (D := (dC, dI)) (ci := 1) (v := .int (nI (n + 1))) (ty := .int) (C := R_Lv) (T := F_Lv) (N := 8) hx hb htb ul_Lv t_Lv t_Lv_ok n_Lv hown hK hP hD hS 0 rfl rfl 7 (by decide) (htb _ mw_36) (fun _ h9 => h9) rfl (by decide +kernel) rfl rfl (Nat.le_of_ble_eq_true rfl) d_Lv_made_124 (fun H locs hP hD hS => ?_)
      have hP : va_P (dC, dI) classes [((ad 1), .inr (1, [.ref (ad 2), .ref (ad 3), .ref (ad 4), .ref (ad 5), .ref (ad 6), .ref (ad 7), .ref (ad 8), .int (nI (n + 1))])), ((ad 2), .inl (cI, 120, .inl (upd K n (nI q.1)))), ((ad 3), .inl (cI, 120, .inl (upd F n (fF q)))), ((ad 4), .inl (cI, 120, .inl (upd S n (fS q)))), ((ad 5), .inl (cI, 120, .inl (upd D n (nI (dp (ext nd n q) n))))), ((ad 6), .inl (cI, 120, .inl (upd U n (nI (us (ext nd n q) n))))), ((ad 7), .inl (cI, 120, .inl V)), ((ad 8), .inl (cL, 3840, .inr (.inl PT9)))] H := hP
      have hD : va_D A [((ad 1), .inr (1, [.ref (ad 2), .ref (ad 3), .ref (ad 4), .ref (ad 5), .ref (ad 6), .ref (ad 7), .ref (ad 8), .int (nI (n + 1))])), ((ad 2), .inl (cI, 120, .inl (upd K n (nI q.1)))), ((ad 3), .inl (cI, 120, .inl (upd F n (fF q)))), ((ad 4), .inl (cI, 120, .inl (upd S n (fS q)))), ((ad 5), .inl (cI, 120, .inl (upd D n (nI (dp (ext nd n q) n))))), ((ad 6), .inl (cI, 120, .inl (upd U n (nI (us (ext nd n q) n))))), ((ad 7), .inl (cI, 120, .inl V)), ((ad 8), .inl (cL, 3840, .inr (.inl PT9)))] := hD
      refine lv_iload hx hb d_Lv_made_127 (lv_at hl 1 rfl) ?_
      exact wx_ret (W.iret (v := (nI n)) hx hb hr (fun t ht hW => ⟨Or.inl ⟨(nI n), ((upd K n (nI q.1)), (upd F n (fF q)), (upd S n (fS q)), (upd D n (nI (dp (ext nd n q) n))), (upd U n (nI (us (ext nd n q) n))), PT9, n + 1), rfl, ⟨ext nd n q, Or.inr ⟨hnew, hn1, hdd, rfl, rfl, rfl⟩, ext_ok hok hq hn1 hnew hdd hI.1 hI.2⟩, by rw [ht]; exact hP, va_K.moved hW.alike hK, hD⟩, hS.F ht⟩) hS.2.2 d_Lv_made_129)
    · have hnew : ∀ j, j < n → nd j ≠ q := ((fnd_cases hok.1 hok.2.1 hq).resolve_right (fun ⟨j, h1, _, h3⟩ => nI_m1 (by omega) (h3.symm.trans c_12))).2
      have hpx : mkx nd n q X := ⟨hnew, hpt.imp (fun z => ⟨z.1, z.2.1, by have := z.2.2; rw [if_pos z.2.1] at this; exact this⟩) (fun z => ⟨z.1, fun y => z.2.1 ⟨y.1, by rw [if_pos y.1]; exact y.2⟩, z.2.2⟩)⟩
      exact wx_out ht0 hlocks (fun t ht hW => ⟨Or.inr ⟨x, X, (K, F, S, D, U, PT, n), rfl, ⟨hok, rfl, hpx⟩, ⟨by rw [ht]; exact hP, va_K.moved hW.alike hK, hD⟩, by obtain ⟨cell, g1, g2, g3⟩ := hex; exact ⟨cell, by rw [ht]; exact g1, g2, by rw [hW.alike.findClass]; exact g3⟩⟩, hS.F ht⟩) hS.2.2
  · refine lv_iload hx hb d_Lv_made_15 (lv_at hl 0 rfl) ?_
    exact wx_ret (W.iret (v := (fnd K F S n q)) hx hb hr (fun t ht hW => ⟨Or.inl ⟨(fnd K F S n q), (K, F, S, D, U, PT, n), rfl, (by obtain ⟨j, h1, h2, h3⟩ := (fnd_cases hok.1 hok.2.1 hq).resolve_left (fun z => c_12 z.1); exact ⟨nd, Or.inl ⟨j, h1, h2, h3, rfl, rfl⟩, hok⟩), by rw [ht]; exact hP, va_K.moved hW.alike hK, hD⟩, hS.F ht⟩) hS.2.2 d_Lv_made_17)
