set_option maxHeartbeats 4000000 in
set_option maxRecDepth 100000 in
theorem c_Nd_areSolved (l : Launch) (dC : Nat → ClassId) (dI : Nat → Nat → Nat) (cI cL cZ : ClassId) (ad : Nat → Nat) (LO ST HI KP NB : Nat → Int32) (unk cnt : Nat) (sv sk ck : Int32) (hunk : unk ≤ 10) (hcnt : cnt ≤ 30) (lo hi : Nat → Nat) (hlo : ∀ j, j < cnt → LO j = nI (lo j) ∧ lo j < 11) (hhi : ∀ j, j < cnt → HI j = nI (hi j) ∧ hi j < 11) (h0 : sk = 0) (sz : Nat) : Met l y_Nd_areSolved (cw_Nd_areSolved :: tb) (rmH 4 0 0) (va_Pc [.ref (ad 12)] (wy_P (dC, dI) classes (wNd cI cZ ad LO ST HI KP NB unk cnt sv sk ck) (tyI cI cL cZ) sz)) (wy_Q ry_i (fun r (u : Unit) => r = (cks lo hi ST (fl cnt 1 KP) cnt NB).1) (wy_B (dC, dI) classes (tyI cI cL cZ) (va_A (wNd cI cZ ad LO ST HI KP NB unk cnt sv sk ck) sz) (fun u : Unit => (wNd cI cZ ad LO ST HI (fl cnt 1 KP) (cks lo hi ST (fl cnt 1 KP) cnt NB).2 unk cnt (cks lo hi ST (fl cnt 1 KP) cnt NB).1 1 ck))) (va_A (wNd cI cZ ad LO ST HI KP NB unk cnt sv sk ck) sz)) 0 0 (va_A (wNd cI cZ ad LO ST HI KP NB unk cnt sv sk ck) sz) := by
  refine Met.ofW (cc := b_Nd_areSolved) (maxL := 1) (ret := (some .boolean)) (by decide +kernel) rfl ?_
  intro p e s m args below meth c s₁ B hml0 hv
  have C0 := cx_of B hml0 rfl
  obtain ⟨hx, hb, hr, hml, hown, htb, hlocks⟩ := id C0
  obtain ⟨rfl, hsz, hP, hK, hD0⟩ := hv
  subst hsz
  have hD := hD0.self (sz := s.heap.size)
  generalize hAe : va_A (wNd cI cZ ad LO ST HI KP NB unk cnt sv sk ck) s.heap.size = A at hD ⊢
  have hA : ∀ q : Nat, s.heap.size ≤ q → A q := fun q h => by rw [← hAe]; exact Or.inr h
  have hS : va_S A s.heap s.heap [] := va_S.rf
  have hl := lv_entry ([.ref (ad 12)]) (n := 1) (Nat.le_of_ble_eq_true rfl)
  rw [lg_entry_eq]
  generalize (lg_sl ([.ref (ad 12)]) ++ List.replicate (1 - (lg_sl ([.ref (ad 12)])).length) Slot.unset).toArray = ls at hl ⊢
  have hl : lv_has ls 1 [(0, .ref (ad 12))] := hl
  have hP : va_P (dC, dI) classes [((ad 12), .inr (3, [.ref (ad 13), .ref (ad 14), .ref (ad 15), .ref (ad 16), .ref (ad 17), .int (nI unk), .int (nI cnt), .int sv, .int sk, .int ck])), ((ad 13), .inl (cI, 30, .inl LO)), ((ad 14), .inl (cI, 30, .inl ST)), ((ad 15), .inl (cI, 30, .inl HI)), ((ad 16), .inl (cZ, 30, .inl KP)), ((ad 17), .inl (cI, 11, .inl NB))] s.heap := hP
  have hD : va_D A [((ad 12), .inr (3, [.ref (ad 13), .ref (ad 14), .ref (ad 15), .ref (ad 16), .ref (ad 17), .int (nI unk), .int (nI cnt), .int sv, .int sk, .int ck])), ((ad 13), .inl (cI, 30, .inl LO)), ((ad 14), .inl (cI, 30, .inl ST)), ((ad 15), .inl (cI, 30, .inl HI)), ((ad 16), .inl (cZ, 30, .inl KP)), ((ad 17), .inl (cI, 11, .inl NB))] := hD
  have hA0 := hA
  refine lv_aload_n hx hb d_Nd_areSolved_0 rfl (lv_at hl 0 rfl) ?_
  refine va_get (D := (dC, dI)) (ci := 3) (v := .int sk) (C := R_Nd) (T := F_Nd) (N := 10) hx hb htb ul_Nd hown hK hP 0 rfl rfl 8 (by decide) (htb _ mw_86) (fun _ h9 => h9) rfl d_Nd_areSolved_1 ?_
  refine lv_if_ne (tgt := 24) hx hb d_Nd_areSolved_4 (by decide) (fun c_4 => ?_) (fun c_4 => ?_)
  · exact absurd h0 c_4
  · refine lv_aload_n hx hb d_Nd_areSolved_7 rfl (lv_at hl 0 rfl) ?_
    refine wy_callV (n := 0) (wr := []) (As := []) (rest := []) ⟨hx, hb, hml, hown, htb⟩ (c_Nd_keepAll l dC dI cI cL cZ ad LO ST HI KP NB unk cnt sv sk ck hunk hcnt s.heap.size) (gV mw_155 mw_157 mp_1 mw_4 mc_Nd_keepAll) rfl rfl (by decide +kernel) ⟨Nat.le_of_ble_eq_true rfl, Nat.le_of_ble_eq_true rfl⟩ hP hD hS hA hK [0, 1, 2, 3, 4, 5] [] rfl rfl (by decide) (by decide) (hP.sub [0, 1, 2, 3, 4, 5] rfl) ((hD.sub [0, 1, 2, 3, 4, 5] (by decide) rfl).weaken (fun _ _ _ _ => trivial)) (ci := 3) (q0 := 0) rfl rfl rfl rfl hl.1 rfl (Nat.le_of_ble_eq_true rfl) d_Nd_areSolved_8 ⟨Nat.le_of_ble_eq_true rfl, Nat.le_of_ble_eq_true rfl⟩ (fun r u H locs hpost hP hD hS => ?_)
    have hP : va_P (dC, dI) classes [((ad 12), .inr (3, [.ref (ad 13), .ref (ad 14), .ref (ad 15), .ref (ad 16), .ref (ad 17), .int (nI unk), .int (nI cnt), .int sv, .int sk, .int ck])), ((ad 13), .inl (cI, 30, .inl LO)), ((ad 14), .inl (cI, 30, .inl ST)), ((ad 15), .inl (cI, 30, .inl HI)), ((ad 16), .inl (cZ, 30, .inl (fl cnt 1 KP))), ((ad 17), .inl (cI, 11, .inl NB))] H := hP
    have hD : va_D A [((ad 12), .inr (3, [.ref (ad 13), .ref (ad 14), .ref (ad 15), .ref (ad 16), .ref (ad 17), .int (nI unk), .int (nI cnt), .int sv, .int sk, .int ck])), ((ad 13), .inl (cI, 30, .inl LO)), ((ad 14), .inl (cI, 30, .inl ST)), ((ad 15), .inl (cI, 30, .inl HI)), ((ad 16), .inl (cZ, 30, .inl (fl cnt 1 KP))), ((ad 17), .inl (cI, 11, .inl NB))] := hD
    refine W.eq (g2 := F0 m 11 ls []) rfl ?_
    refine lv_aload_n hx hb d_Nd_areSolved_11 rfl (lv_at hl 0 rfl) ?_
    refine lv_aload_n hx hb d_Nd_areSolved_12 rfl (lv_at hl 0 rfl) ?_
    refine wy_callV (n := 0) (wr := []) (As := []) (rest := [.ref (ad 12)]) ⟨hx, hb, hml, hown, htb⟩ (c_Nd_canKeptBeSolved l dC dI cI cL cZ ad LO ST HI (fl cnt 1 KP) NB unk cnt sv sk ck hunk hcnt lo hi hlo hhi H.size) (gV mw_159 mw_161 mp_2 mw_4 mc_Nd_canKeptBeSolved) rfl rfl (by decide +kernel) ⟨Nat.le_of_ble_eq_true rfl, Nat.le_of_ble_eq_true rfl⟩ hP hD hS hA hK [0, 1, 2, 3, 4, 5] [] rfl rfl (by decide) (by decide) (hP.sub [0, 1, 2, 3, 4, 5] rfl) ((hD.sub [0, 1, 2, 3, 4, 5] (by decide) rfl).weaken (fun _ _ _ _ => trivial)) (ci := 3) (q0 := 0) rfl rfl rfl rfl hl.1 rfl (Nat.le_of_ble_eq_true rfl) d_Nd_areSolved_13 ⟨Nat.le_of_ble_eq_true rfl, Nat.le_of_ble_eq_true rfl⟩ (fun r u H locs hpost hP hD hS => ?_)
    obtain ⟨h1, h2⟩ := hpost
    subst h1; subst h2
    have hP : va_P (dC, dI) classes [((ad 12), .inr (3, [.ref (ad 13), .ref (ad 14), .ref (ad 15), .ref (ad 16), .ref (ad 17), .int (nI unk), .int (nI cnt), .int sv, .int sk, .int ck])), ((ad 13), .inl (cI, 30, .inl LO)), ((ad 14), .inl (cI, 30, .inl ST)), ((ad 15), .inl (cI, 30, .inl HI)), ((ad 16), .inl (cZ, 30, .inl (fl cnt 1 KP))), ((ad 17), .inl (cI, 11, .inl ((cks lo hi ST (fl cnt 1 KP) cnt NB).2)))] H := hP
    have hD : va_D A [((ad 12), .inr (3, [.ref (ad 13), .ref (ad 14), .ref (ad 15), .ref (ad 16), .ref (ad 17), .int (nI unk), .int (nI cnt), .int sv, .int sk, .int ck])), ((ad 13), .inl (cI, 30, .inl LO)), ((ad 14), .inl (cI, 30, .inl ST)), ((ad 15), .inl (cI, 30, .inl HI)), ((ad 16), .inl (cZ, 30, .inl (fl cnt 1 KP))), ((ad 17), .inl (cI, 11, .inl ((cks lo hi ST (fl cnt 1 KP) cnt NB).2)))] := hD
    refine W.eq (g2 := F0 m 16 ls [.int (cks lo hi ST (fl cnt 1 KP) cnt NB).1, .ref (ad 12)]) rfl ?_
    refine va_put (D := (dC, dI)) (ci := 3) (v := .int (cks lo hi ST (fl cnt 1 KP) cnt NB).1) (ty := .boolean) (C := R_Nd) (T := F_Nd) (N := 10) hx hb htb ul_Nd t_Nd t_Nd_ok n_Nd hown hK hP hD hS 0 rfl rfl 7 (by decide) (htb _ mw_85) (fun _ h9 => h9) rfl (by decide +kernel) (bn cks_b) (bf cks_b) (Nat.le_of_ble_eq_true rfl) d_Nd_areSolved_16 (fun H locs hP hD hS => ?_)
    have hP : va_P (dC, dI) classes [((ad 12), .inr (3, [.ref (ad 13), .ref (ad 14), .ref (ad 15), .ref (ad 16), .ref (ad 17), .int (nI unk), .int (nI cnt), .int (cks lo hi ST (fl cnt 1 KP) cnt NB).1, .int sk, .int ck])), ((ad 13), .inl (cI, 30, .inl LO)), ((ad 14), .inl (cI, 30, .inl ST)), ((ad 15), .inl (cI, 30, .inl HI)), ((ad 16), .inl (cZ, 30, .inl (fl cnt 1 KP))), ((ad 17), .inl (cI, 11, .inl ((cks lo hi ST (fl cnt 1 KP) cnt NB).2)))] H := hP
    have hD : va_D A [((ad 12), .inr (3, [.ref (ad 13), .ref (ad 14), .ref (ad 15), .ref (ad 16), .ref (ad 17), .int (nI unk), .int (nI cnt), .int (cks lo hi ST (fl cnt 1 KP) cnt NB).1, .int sk, .int ck])), ((ad 13), .inl (cI, 30, .inl LO)), ((ad 14), .inl (cI, 30, .inl ST)), ((ad 15), .inl (cI, 30, .inl HI)), ((ad 16), .inl (cZ, 30, .inl (fl cnt 1 KP))), ((ad 17), .inl (cI, 11, .inl ((cks lo hi ST (fl cnt 1 KP) cnt NB).2)))] := hD
    refine lv_aload_n hx hb d_Nd_areSolved_19 rfl (lv_at hl 0 rfl) ?_
    refine lv_iconst (v := 1) hx hb d_Nd_areSolved_20 (by decide) ?_
    refine va_put (D := (dC, dI)) (ci := 3) (v := .int 1) (ty := .boolean) (C := R_Nd) (T := F_Nd) (N := 10) hx hb htb ul_Nd t_Nd t_Nd_ok n_Nd hown hK hP hD hS 0 rfl rfl 8 (by decide) (htb _ mw_86) (fun _ h9 => h9) rfl (by decide +kernel) rfl rfl (Nat.le_of_ble_eq_true rfl) d_Nd_areSolved_21 (fun H locs hP hD hS => ?_)
    have hP : va_P (dC, dI) classes [((ad 12), .inr (3, [.ref (ad 13), .ref (ad 14), .ref (ad 15), .ref (ad 16), .ref (ad 17), .int (nI unk), .int (nI cnt), .int (cks lo hi ST (fl cnt 1 KP) cnt NB).1, .int 1, .int ck])), ((ad 13), .inl (cI, 30, .inl LO)), ((ad 14), .inl (cI, 30, .inl ST)), ((ad 15), .inl (cI, 30, .inl HI)), ((ad 16), .inl (cZ, 30, .inl (fl cnt 1 KP))), ((ad 17), .inl (cI, 11, .inl ((cks lo hi ST (fl cnt 1 KP) cnt NB).2)))] H := hP
    have hD : va_D A [((ad 12), .inr (3, [.ref (ad 13), .ref (ad 14), .ref (ad 15), .ref (ad 16), .ref (ad 17), .int (nI unk), .int (nI cnt), .int (cks lo hi ST (fl cnt 1 KP) cnt NB).1, .int 1, .int ck])), ((ad 13), .inl (cI, 30, .inl LO)), ((ad 14), .inl (cI, 30, .inl ST)), ((ad 15), .inl (cI, 30, .inl HI)), ((ad 16), .inl (cZ, 30, .inl (fl cnt 1 KP))), ((ad 17), .inl (cI, 11, .inl ((cks lo hi ST (fl cnt 1 KP) cnt NB).2)))] := hD
    refine lv_aload_n hx hb d_Nd_areSolved_24 rfl (lv_at hl 0 rfl) ?_
    refine va_get (D := (dC, dI)) (ci := 3) (v := .int (cks lo hi ST (fl cnt 1 KP) cnt NB).1) (C := R_Nd) (T := F_Nd) (N := 10) hx hb htb ul_Nd hown hK hP 0 rfl rfl 7 (by decide) (htb _ mw_85) (fun _ h9 => h9) rfl d_Nd_areSolved_25 ?_
    exact W.zret (v := (cks lo hi ST (fl cnt 1 KP) cnt NB).1) hx hb hr (bn cks_b) (fun t ht hW => ⟨⟨(cks lo hi ST (fl cnt 1 KP) cnt NB).1, (), rfl, rfl, by rw [ht]; exact hP, va_K.moved hW.alike hK, hD⟩, hS.F ht⟩) hS.2.2 d_Nd_areSolved_28

set_option maxHeartbeats 4000000 in
set_option maxRecDepth 100000 in
theorem c1_Nd_areSolved (l : Launch) (dC : Nat → ClassId) (dI : Nat → Nat → Nat) (cI cL cZ : ClassId) (ad : Nat → Nat) (LO ST HI KP NB : Nat → Int32) (unk cnt : Nat) (sv sk ck : Int32) (hunk : unk ≤ 10) (hcnt : cnt ≤ 30) (h0 : ¬ sk = 0) (hsv : sv = 0 ∨ sv = 1) : Met l y_Nd_areSolved (cw_Nd_areSolved :: tb) (rmH 4 0 0) (va_Pc [.ref (ad 12)] (ry_P (dC, dI) classes (wNd cI cZ ad LO ST HI KP NB unk cnt sv sk ck) (tyI cI cL cZ))) (ry_S ry_i (fun r => r = sv)) 0 0 (fun _ => False) := by
  refine Met.ofW (cc := b_Nd_areSolved) (maxL := 1) (ret := (some .boolean)) (by decide +kernel) rfl ?_
  intro p e s m args below meth c s₁ B hml0 hv
  have C0 := cx_of B hml0 rfl
  obtain ⟨hx, hb, hr, hml, hown, htb, hlocks⟩ := id C0
  obtain ⟨rfl, hP, hK⟩ := hv
  have hl := lv_entry ([.ref (ad 12)]) (n := 1) (Nat.le_of_ble_eq_true rfl)
  rw [lg_entry_eq]
  generalize (lg_sl ([.ref (ad 12)]) ++ List.replicate (1 - (lg_sl ([.ref (ad 12)])).length) Slot.unset).toArray = ls at hl ⊢
  have hl : lv_has ls 1 [(0, .ref (ad 12))] := hl
  have hP : va_P (dC, dI) classes [((ad 12), .inr (3, [.ref (ad 13), .ref (ad 14), .ref (ad 15), .ref (ad 16), .ref (ad 17), .int (nI unk), .int (nI cnt), .int sv, .int sk, .int ck])), ((ad 13), .inl (cI, 30, .inl LO)), ((ad 14), .inl (cI, 30, .inl ST)), ((ad 15), .inl (cI, 30, .inl HI)), ((ad 16), .inl (cZ, 30, .inl KP)), ((ad 17), .inl (cI, 11, .inl NB))] s.heap := hP
  refine lv_aload_n hx hb d_Nd_areSolved_0 rfl (lv_at hl 0 rfl) ?_
  refine va_get (D := (dC, dI)) (ci := 3) (v := .int sk) (C := R_Nd) (T := F_Nd) (N := 10) hx hb htb ul_Nd hown hK hP 0 rfl rfl 8 (by decide) (htb _ mw_86) (fun _ h9 => h9) rfl d_Nd_areSolved_1 ?_
  refine lv_if_ne (tgt := 24) hx hb d_Nd_areSolved_4 (by decide) (fun c_4 => ?_) (fun c_4 => ?_)
  · refine lv_aload_n hx hb d_Nd_areSolved_24 rfl (lv_at hl 0 rfl) ?_
    refine va_get (D := (dC, dI)) (ci := 3) (v := .int sv) (C := R_Nd) (T := F_Nd) (N := 10) hx hb htb ul_Nd hown hK hP 0 rfl rfl 7 (by decide) (htb _ mw_85) (fun _ h9 => h9) rfl d_Nd_areSolved_25 ?_
    exact W.zret (v := sv) hx hb hr (bn hsv) (fun t ht hW => ⟨sv, rfl, rfl, ht⟩) (fun _ h => by cases h) d_Nd_areSolved_28
  · exact absurd c_4 h0

set_option maxHeartbeats 4000000 in
set_option maxRecDepth 100000 in
theorem lp_Nd_keepClashOnly {p : Program} (l : Launch) {e : Env} {s : State} {m : MethodId} {args : Array Value} {below : List Frame} {meth : Method} {c : Code} {Q : State → Prop} {A : Nat → Prop} {H0 : Heap} (C0 : cx p s m args meth c b_Nd_keepClashOnly 2 none R_Nd) (dC : Nat → ClassId) (dI : Nat → Nat → Nat) (cI cL cZ : ClassId) (ad : Nat → Nat) (LO ST HI : Nat → Int32) (unk cnt : Nat) (sv sk ck : Int32) (hunk : unk ≤ 10) (hcnt : cnt ≤ 30) (lo hi : Nat → Nat) (hlo : ∀ j, j < cnt → LO j = nI (lo j) ∧ lo j < 11) (hhi : ∀ j, j < cnt → HI j = nI (hi j) ∧ hi j < 11) (RR : (Nat → Int32) × (Nat → Int32)) (hK : va_K (dC, dI) classes (tyI cI cL cZ) s) (hA : ∀ q : Nat, H0.size ≤ q → A q) 
    (KB : ∀ (KP NB : Nat → Int32) (H : Heap) (locs : List Loc) (ls : Array Slot), RR = (KP, NB) → va_P (dC, dI) classes [((ad 12), .inr (3, [.ref (ad 13), .ref (ad 14), .ref (ad 15), .ref (ad 16), .ref (ad 17), .int (nI unk), .int (nI cnt), .int sv, .int sk, .int ck])), ((ad 13), .inl (cI, 30, .inl LO)), ((ad 14), .inl (cI, 30, .inl ST)), ((ad 15), .inl (cI, 30, .inl HI)), ((ad 16), .inl (cZ, 30, .inl KP)), ((ad 17), .inl (cI, 11, .inl NB))] H → va_D A [((ad 12), .inr (3, [.ref (ad 13), .ref (ad 14), .ref (ad 15), .ref (ad 16), .ref (ad 17), .int (nI unk), .int (nI cnt), .int sv, .int sk, .int ck])), ((ad 13), .inl (cI, 30, .inl LO)), ((ad 14), .inl (cI, 30, .inl ST)), ((ad 15), .inl (cI, 30, .inl HI)), ((ad 16), .inl (cZ, 30, .inl KP)), ((ad 17), .inl (cI, 11, .inl NB))] → va_S A H0 H locs → lv_has ls 2 [(0, .ref (ad 12))] → W p l e (rmH 4 0 0) s m args below meth c H locs 0 0 Q (F0 m 34 ls []))
    : ∀ (q : Nat) (KP NB : Nat → Int32), q ≤ cnt ∧ RR = kco lo hi ST cnt q KP NB → ∀ (H : Heap) (locs : List Loc) (ls : Array Slot), va_P (dC, dI) classes [((ad 12), .inr (3, [.ref (ad 13), .ref (ad 14), .ref (ad 15), .ref (ad 16), .ref (ad 17), .int (nI unk), .int (nI cnt), .int sv, .int sk, .int ck])), ((ad 13), .inl (cI, 30, .inl LO)), ((ad 14), .inl (cI, 30, .inl ST)), ((ad 15), .inl (cI, 30, .inl HI)), ((ad 16), .inl (cZ, 30, .inl KP)), ((ad 17), .inl (cI, 11, .inl NB))] H → va_D A [((ad 12), .inr (3, [.ref (ad 13), .ref (ad 14), .ref (ad 15), .ref (ad 16), .ref (ad 17), .int (nI unk), .int (nI cnt), .int sv, .int sk, .int ck])), ((ad 13), .inl (cI, 30, .inl LO)), ((ad 14), .inl (cI, 30, .inl ST)), ((ad 15), .inl (cI, 30, .inl HI)), ((ad 16), .inl (cZ, 30, .inl KP)), ((ad 17), .inl (cI, 11, .inl NB))] → va_S A H0 H locs → lv_has ls 2 [(0, .ref (ad 12)), (1, .int (nI q - 1))] → W p l e (rmH 4 0 0) s m args below meth c H locs 0 0 Q (F0 m 7 ls []) := by
  obtain ⟨hx, hb, hr, hml, hown, htb, hlocks⟩ := id C0
  intro q
  induction q with
  | zero =>
    intro KP NB hiV H locs ls hP hD hS hl
    obtain ⟨hi0, hR⟩ := hiV
    refine lv_iload_n hx hb d_Nd_keepClashOnly_7 rfl (lv_at hl 1 rfl) ?_
    refine lv_if_lt (tgt := 34) hx hb d_Nd_keepClashOnly_8 (by decide) (fun c_8 => ?_) (fun c_8 => ?_)
    · exact KB KP NB H locs ls hR hP hD hS (lv_sub hl [0] rfl)
    · exact absurd (by decide) c_8
  | succ q ih =>
    intro KP NB hiV H locs ls hP hD hS hl
    obtain ⟨hi0, hR⟩ := hiV
    refine lv_iload_n hx hb d_Nd_keepClashOnly_7 rfl (lv_at hl 1 rfl) ?_
    refine lv_if_lt (tgt := 34) hx hb d_Nd_keepClashOnly_8 (by decide) (fun c_8 => ?_) (fun c_8 => ?_)
    · exact absurd c_8 (by rw [nI_pred]; exact nI_pos (by omega))
    · rw [nI_pred] at hl
      refine lv_aload_n hx hb d_Nd_keepClashOnly_11 rfl (lv_at hl 0 rfl) ?_
      refine va_get (D := (dC, dI)) (ci := 3) (v := .ref (ad 16)) (C := R_Nd) (T := F_Nd) (N := 10) hx hb htb ul_Nd hown hK hP 0 rfl rfl 3 (by decide) (htb _ mw_81) (fun _ h9 => h9) rfl d_Nd_keepClashOnly_12 ?_
      refine lv_iload_n hx hb d_Nd_keepClashOnly_15 rfl (lv_at hl 1 rfl) ?_
      refine lv_iconst (v := 0) hx hb d_Nd_keepClashOnly_16 (by decide) ?_
      refine ry_zast (D := (dC, dI)) (j := q) hx hb hK hP hD hS 4 2 rfl rfl rfl (by omega) (by decide) d_Nd_keepClashOnly_17 (fun H locs hP hD hS => ?_)
      have hP : va_P (dC, dI) classes [((ad 12), .inr (3, [.ref (ad 13), .ref (ad 14), .ref (ad 15), .ref (ad 16), .ref (ad 17), .int (nI unk), .int (nI cnt), .int sv, .int sk, .int ck])), ((ad 13), .inl (cI, 30, .inl LO)), ((ad 14), .inl (cI, 30, .inl ST)), ((ad 15), .inl (cI, 30, .inl HI)), ((ad 16), .inl (cZ, 30, .inl (upd KP q 0))), ((ad 17), .inl (cI, 11, .inl NB))] H := hP
      have hD : va_D A [((ad 12), .inr (3, [.ref (ad 13), .ref (ad 14), .ref (ad 15), .ref (ad 16), .ref (ad 17), .int (nI unk), .int (nI cnt), .int sv, .int sk, .int ck])), ((ad 13), .inl (cI, 30, .inl LO)), ((ad 14), .inl (cI, 30, .inl ST)), ((ad 15), .inl (cI, 30, .inl HI)), ((ad 16), .inl (cZ, 30, .inl (upd KP q 0))), ((ad 17), .inl (cI, 11, .inl NB))] := hD
      refine lv_aload_n hx hb d_Nd_keepClashOnly_18 rfl (lv_at hl 0 rfl) ?_
      refine va_get (D := (dC, dI)) (ci := 3) (v := .ref (ad 16)) (C := R_Nd) (T := F_Nd) (N := 10) hx hb htb ul_Nd hown hK hP 0 rfl rfl 3 (by decide) (htb _ mw_81) (fun _ h9 => h9) rfl d_Nd_keepClashOnly_19 ?_
      refine lv_iload_n hx hb d_Nd_keepClashOnly_22 rfl (lv_at hl 1 rfl) ?_
      refine lv_aload_n hx hb d_Nd_keepClashOnly_23 rfl (lv_at hl 0 rfl) ?_
      refine wy_callV (n := 0) (wr := []) (As := []) (rest := [.int (nI q), .ref (ad 16)]) ⟨hx, hb, hml, hown, htb⟩ (c_Nd_canKeptBeSolved l dC dI cI cL cZ ad LO ST HI (upd KP q 0) NB unk cnt sv sk ck hunk hcnt lo hi hlo hhi H.size) (gV mw_159 mw_161 mp_2 mw_4 mc_Nd_canKeptBeSolved) rfl rfl (by decide +kernel) ⟨Nat.le_of_ble_eq_true rfl, Nat.le_of_ble_eq_true rfl⟩ hP hD hS hA hK [0, 1, 2, 3, 4, 5] [] rfl rfl (by decide) (by decide) (hP.sub [0, 1, 2, 3, 4, 5] rfl) ((hD.sub [0, 1, 2, 3, 4, 5] (by decide) rfl).weaken (fun _ _ _ _ => trivial)) (ci := 3) (q0 := 0) rfl rfl rfl rfl hl.1 rfl (Nat.le_of_ble_eq_true rfl) d_Nd_keepClashOnly_24 ⟨Nat.le_of_ble_eq_true rfl, Nat.le_of_ble_eq_true rfl⟩ (fun r u H locs hpost hP hD hS => ?_)
      obtain ⟨h1, h2⟩ := hpost
      subst h1; subst h2
      have hP : va_P (dC, dI) classes [((ad 12), .inr (3, [.ref (ad 13), .ref (ad 14), .ref (ad 15), .ref (ad 16), .ref (ad 17), .int (nI unk), .int (nI cnt), .int sv, .int sk, .int ck])), ((ad 13), .inl (cI, 30, .inl LO)), ((ad 14), .inl (cI, 30, .inl ST)), ((ad 15), .inl (cI, 30, .inl HI)), ((ad 16), .inl (cZ, 30, .inl (upd KP q 0))), ((ad 17), .inl (cI, 11, .inl ((cks lo hi ST (upd KP q 0) cnt NB).2)))] H := hP
      have hD : va_D A [((ad 12), .inr (3, [.ref (ad 13), .ref (ad 14), .ref (ad 15), .ref (ad 16), .ref (ad 17), .int (nI unk), .int (nI cnt), .int sv, .int sk, .int ck])), ((ad 13), .inl (cI, 30, .inl LO)), ((ad 14), .inl (cI, 30, .inl ST)), ((ad 15), .inl (cI, 30, .inl HI)), ((ad 16), .inl (cZ, 30, .inl (upd KP q 0))), ((ad 17), .inl (cI, 11, .inl ((cks lo hi ST (upd KP q 0) cnt NB).2)))] := hD
      refine W.eq (g2 := F0 m 27 ls [.int (cks lo hi ST (upd KP q 0) cnt NB).1, .int (nI q), .ref (ad 16)]) rfl ?_
      refine ry_zast (D := (dC, dI)) (j := q) hx hb hK hP hD hS 4 2 rfl rfl (bz cks_b) (by omega) (by decide) d_Nd_keepClashOnly_27 (fun H locs hP hD hS => ?_)
      have hP : va_P (dC, dI) classes [((ad 12), .inr (3, [.ref (ad 13), .ref (ad 14), .ref (ad 15), .ref (ad 16), .ref (ad 17), .int (nI unk), .int (nI cnt), .int sv, .int sk, .int ck])), ((ad 13), .inl (cI, 30, .inl LO)), ((ad 14), .inl (cI, 30, .inl ST)), ((ad 15), .inl (cI, 30, .inl HI)), ((ad 16), .inl (cZ, 30, .inl (upd (upd KP q 0) q ((cks lo hi ST (upd KP q 0) cnt NB).1)))), ((ad 17), .inl (cI, 11, .inl ((cks lo hi ST (upd KP q 0) cnt NB).2)))] H := hP
      have hD : va_D A [((ad 12), .inr (3, [.ref (ad 13), .ref (ad 14), .ref (ad 15), .ref (ad 16), .ref (ad 17), .int (nI unk), .int (nI cnt), .int sv, .int sk, .int ck])), ((ad 13), .inl (cI, 30, .inl LO)), ((ad 14), .inl (cI, 30, .inl ST)), ((ad 15), .inl (cI, 30, .inl HI)), ((ad 16), .inl (cZ, 30, .inl (upd (upd KP q 0) q ((cks lo hi ST (upd KP q 0) cnt NB).1)))), ((ad 17), .inl (cI, 11, .inl ((cks lo hi ST (upd KP q 0) cnt NB).2)))] := hD
      refine lv_iinc (v := nI q - 1) (lv' := [(1, .int (nI q - 1)), (0, .ref (ad 12))]) hx hb d_Nd_keepClashOnly_28 hl (k := 1) rfl (by rw [Int32.sub_eq_add_neg]; rfl) (by decide) rfl (fun ls hl => ?_)
      refine lv_goto (tgt := 7) hx hb d_Nd_keepClashOnly_31 (by decide) ?_
      exact ih (upd (upd KP q 0) q (cks lo hi ST (upd KP q 0) cnt NB).1) (cks lo hi ST (upd KP q 0) cnt NB).2 ⟨by omega, by rw [hR, kco]⟩ H locs ls hP hD hS (lv_sub hl [1, 0] rfl)

set_option maxHeartbeats 4000000 in
set_option maxRecDepth 100000 in
theorem c_Nd_keepClashOnly (l : Launch) (dC : Nat → ClassId) (dI : Nat → Nat → Nat) (cI cL cZ : ClassId) (ad : Nat → Nat) (LO ST HI KP NB : Nat → Int32) (unk cnt : Nat) (sv sk ck : Int32) (hunk : unk ≤ 10) (hcnt : cnt ≤ 30) (lo hi : Nat → Nat) (hlo : ∀ j, j < cnt → LO j = nI (lo j) ∧ lo j < 11) (hhi : ∀ j, j < cnt → HI j = nI (hi j) ∧ hi j < 11) (sz : Nat) : Met l y_Nd_keepClashOnly (cw_Nd_keepClashOnly :: tb) (rmH 4 0 0) (va_Pc [.ref (ad 12)] (wy_P (dC, dI) classes (wNd cI cZ ad LO ST HI KP NB unk cnt sv sk ck) (tyI cI cL cZ) sz)) (wy_Q ry_v (fun _ (u : (Nat → Int32) × (Nat → Int32)) => u = kco lo hi ST cnt cnt KP NB) (wy_B (dC, dI) classes (tyI cI cL cZ) (va_A (wNd cI cZ ad LO ST HI KP NB unk cnt sv sk ck) sz) (fun u : (Nat → Int32) × (Nat → Int32) => (wNd cI cZ ad LO ST HI u.1 u.2 unk cnt sv sk ck))) (va_A (wNd cI cZ ad LO ST HI KP NB unk cnt sv sk ck) sz)) 0 0 (va_A (wNd cI cZ ad LO ST HI KP NB unk cnt sv sk ck) sz) := by
  refine Met.ofW (cc := b_Nd_keepClashOnly) (maxL := 2) (ret := none) (by decide +kernel) rfl ?_
  intro p e s m args below meth c s₁ B hml0 hv
  have C0 := cx_of B hml0 rfl
  obtain ⟨hx, hb, hr, hml, hown, htb, hlocks⟩ := id C0
  obtain ⟨rfl, hsz, hP, hK, hD0⟩ := hv
  subst hsz
  have hD := hD0.self (sz := s.heap.size)
  generalize hAe : va_A (wNd cI cZ ad LO ST HI KP NB unk cnt sv sk ck) s.heap.size = A at hD ⊢
  have hA : ∀ q : Nat, s.heap.size ≤ q → A q := fun q h => by rw [← hAe]; exact Or.inr h
  have hS : va_S A s.heap s.heap [] := va_S.rf
  have hl := lv_entry ([.ref (ad 12)]) (n := 2) (Nat.le_of_ble_eq_true rfl)
  rw [lg_entry_eq]
  generalize (lg_sl ([.ref (ad 12)]) ++ List.replicate (2 - (lg_sl ([.ref (ad 12)])).length) Slot.unset).toArray = ls at hl ⊢
  have hl : lv_has ls 2 [(0, .ref (ad 12))] := hl
  have hP : va_P (dC, dI) classes [((ad 12), .inr (3, [.ref (ad 13), .ref (ad 14), .ref (ad 15), .ref (ad 16), .ref (ad 17), .int (nI unk), .int (nI cnt), .int sv, .int sk, .int ck])), ((ad 13), .inl (cI, 30, .inl LO)), ((ad 14), .inl (cI, 30, .inl ST)), ((ad 15), .inl (cI, 30, .inl HI)), ((ad 16), .inl (cZ, 30, .inl KP)), ((ad 17), .inl (cI, 11, .inl NB))] s.heap := hP
  have hD : va_D A [((ad 12), .inr (3, [.ref (ad 13), .ref (ad 14), .ref (ad 15), .ref (ad 16), .ref (ad 17), .int (nI unk), .int (nI cnt), .int sv, .int sk, .int ck])), ((ad 13), .inl (cI, 30, .inl LO)), ((ad 14), .inl (cI, 30, .inl ST)), ((ad 15), .inl (cI, 30, .inl HI)), ((ad 16), .inl (cZ, 30, .inl KP)), ((ad 17), .inl (cI, 11, .inl NB))] := hD
  have hA0 := hA
  refine lv_aload_n hx hb d_Nd_keepClashOnly_0 rfl (lv_at hl 0 rfl) ?_
  refine va_get (D := (dC, dI)) (ci := 3) (v := .int (nI cnt)) (C := R_Nd) (T := F_Nd) (N := 10) hx hb htb ul_Nd hown hK hP 0 rfl rfl 6 (by decide) (htb _ mw_84) (fun _ h9 => h9) rfl d_Nd_keepClashOnly_1 ?_
  refine lv_iconst (v := 1) hx hb d_Nd_keepClashOnly_4 (by decide) ?_
  refine lv_isub hx hb d_Nd_keepClashOnly_5 ?_
  refine lv_istore_n (lv' := [(1, .int ((nI cnt) - 1)), (0, .ref (ad 12))]) hx hb d_Nd_keepClashOnly_6 rfl hl (by decide) rfl (fun ls hl => ?_)
  refine lp_Nd_keepClashOnly l C0 dC dI cI cL cZ ad LO ST HI unk cnt sv sk ck hunk hcnt lo hi hlo hhi (kco lo hi ST cnt cnt KP NB) hK hA (fun KP9 NB9 H locs ls hR hP hD hS hl => ?_) cnt KP NB ⟨Nat.le_refl _, rfl⟩ s.heap [] ls hP hD hS (lv_sub hl [1, 0] rfl)
  exact W.vret hx hb hr (fun t ht hW => ⟨⟨(), (KP9, NB9), rfl, hR.symm, by rw [ht]; exact hP, va_K.moved hW.alike hK, hD⟩, hS.F ht⟩) hS.2.2 d_Nd_keepClashOnly_34
