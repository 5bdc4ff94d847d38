/-! The law: class and reference side by side. -/
abbrev wAl (cI cL cZ : ClassId) (ad bd : Nat → Nat) (n : Nat) (J : Nat → Int64) (RS OP K F S D U V : Nat → Int32) (PT : Nat → Int64) (LO ST HI KP NB : Nat → Int32) (unk cnt : Nat) (sv sk ck th : Int32) (K2 F2 S2 DD NU VA BE WA LE RI UN CO : Nat → Int32) : va_W :=
  [(ad 0, .inr (0, [.ref (ad 1), .ref (ad 9), .ref (ad 12)])), (ad 1, .inr (1, [.ref (ad 2), .ref (ad 3), .ref (ad 4), .ref (ad 5), .ref (ad 6), .ref (ad 7), .ref (ad 8), .int (nI n)])), (ad 2, .inl (cI, 120, .inl K)), (ad 3, .inl (cI, 120, .inl F)), (ad 4, .inl (cI, 120, .inl S)), (ad 5, .inl (cI, 120, .inl D)), (ad 6, .inl (cI, 120, .inl U)), (ad 7, .inl (cI, 120, .inl V)), (ad 8, .inl (cL, 3840, .inr (.inl PT))),
   (ad 9, .inr (2, [.ref (ad 1), .ref (ad 10), .ref (ad 11)])), (ad 10, .inl (cI, 120, .inl RS)), (ad 11, .inl (cI, 120, .inl OP)),
   (ad 12, .inr (3, [.ref (ad 13), .ref (ad 14), .ref (ad 15), .ref (ad 16), .ref (ad 17), .int (nI unk), .int (nI cnt), .int sv, .int sk, .int ck])), (ad 13, .inl (cI, 30, .inl LO)), (ad 14, .inl (cI, 30, .inl ST)), (ad 15, .inl (cI, 30, .inl HI)), (ad 16, .inl (cZ, 30, .inl KP)), (ad 17, .inl (cI, 11, .inl NB)),
   (bd 0, .inr (4, [.int th, .ref (bd 1), .ref (bd 2), .ref (bd 3), .ref (bd 4), .int (nI n), .ref (bd 5), .ref (bd 6), .ref (bd 7), .ref (bd 8), .ref (bd 9), .ref (bd 10), .ref (bd 11), .ref (bd 12), .ref (bd 13), .int (nI unk), .int (nI cnt)])), (bd 1, .inl (cI, 120, .inl K2)), (bd 2, .inl (cI, 120, .inl F2)), (bd 3, .inl (cI, 120, .inl S2)), (bd 4, .inl (cI, 120, .inl DD)), (bd 5, .inl (cI, 5, .inl NU)), (bd 6, .inl (cI, 120, .inl VA)), (bd 7, .inl (cI, 120, .inl BE)), (bd 8, .inl (cI, 128, .inl WA)), (bd 9, .inl (cI, 30, .inl LE)), (bd 10, .inl (cI, 30, .inl ST)), (bd 11, .inl (cI, 30, .inl RI)), (bd 12, .inl (cI, 10, .inl UN)), (bd 13, .inl (cZ, 30, .inl CO)),
   (ad 18, .inl (cL, 1, .inr (.inl J)))]
/-- what holds between calls -/
def IV (nd : Nat → Nat × Nat × Nat) (lo hi : Nat → Nat) (n : Nat) (K F S D U : Nat → Int32) (PT : Nat → Int64) (LO ST HI KP NB : Nat → Int32) (unk cnt : Nat) (sv sk ck : Int32) (K2 F2 S2 DD LE RI : Nat → Int32) : Prop :=
  LvOk nd n K F S D U PT ∧ MoOk nd n K2 F2 S2 DD ∧ (∀ j, j < cnt → LO j = nI (lo j) ∧ lo j < 11) ∧ (∀ j, j < cnt → HI j = nI (hi j) ∧ hi j < 11) ∧ (∀ j, j < cnt → sdN (LE j) (lo j)) ∧ (∀ j, j < cnt → sdN (RI j) (hi j)) ∧ (∀ j, j < cnt → -20 ≤ (ST j).toInt ∧ (ST j).toInt ≤ 20) ∧ NdC lo hi ST cnt (KP, NB, sv, sk, ck) ∧ unk ≤ 10 ∧ cnt ≤ 30
section LW
variable {p : Program} {l : Launch} {e : Env} {R : Room} {s : State} {m : MethodId} {args : Array Value} {below : List Frame} {meth : Method} {c : Code} {H : Heap} {locs : List Loc} {cells slots : Nat} {Q : State → Prop}
variable {cc : ByteArray} {pc : Nat} {ls : Array Slot} {rest : List Value} {A : Nat → Prop} {H0 : Heap}
theorem ws_ld (hexec : p.tables.exec = Jvm.exec) (hb : c.code = cc) {b L : Nat} {xs : Nat → Int32} (hX : va_X b L xs s H0) (hbl : b < H0.size) (hbA : ¬ A b) (hS : va_S A H0 H locs) {j : Nat} (hj : j < L) (hL : L ≤ 2048) (hdg : decode cc pc = .ok (.iaload, 1))
    (kk : W p l e R s m args below meth c H locs cells slots Q (F0 m (pc + 1) ls (.int (xs j) :: rest))) : W p l e R s m args below meth c H locs cells slots Q (F0 m pc ls (.int (nI j) :: .ref b :: rest)) := by
  have e1 : (nI j).toNatClampNeg = j := nI_clamp (by omega)
  refine va_sld hexec hb hX hbl hbA hS ?_ hdg (by rw [e1]; exact kk)
  intro z
  rcases z with z | z
  · exact absurd z (nI_pos (by omega))
  · rw [e1] at z; omega
end LW
theorem lcz (a : Int64) : lg_cmp a a = 0 := lg_cmp0.mpr rfl
section LK
variable {nd : Nat → Nat × Nat × Nat} {n : Nat} {q : Nat × Nat × Nat} {K1 F1 S1 D1 U1 : Nat → Int32} {PT1 J1 : Nat → Int64} {n1 : Nat} {K2 F2 S2 DD : Nat → Int32} {n2 : Nat} {r r2 th f : Int32}
/-- both made a level, or neither -/
def lkP (nd' : Nat → Nat × Nat × Nat) (K1 F1 S1 D1 U1 : Nat → Int32) (PT1 J1 : Nat → Int64) (n1 : Nat) (K2 F2 S2 DD : Nat → Int32) (n2 : Nat) (r r2 th : Int32) : Prop := n1 = n2 ∧ LvOk nd' n2 K1 F1 S1 D1 U1 PT1 ∧ MoOk nd' n2 K2 F2 S2 DD ∧ th = r ∧ (r = 0 → J1 0 = r2.toInt64)
theorem mdp_o (hW : Wn nd n) (hd : ¬ (q.1 = 2 ∧ 60 ≤ dp nd q.2.1)) {u : MoS} (h : ∃ nd', mdp nd n q f r2 th nd' u.2.2.2.2 ∧ MoU nd' u) : u.2.2.2.2 = (mk1 (nd, n) q).2.2.2 ∧ MoU (mk1 (nd, n) q).2.2.1 u ∧ (((mk1 (nd, n) q).1 = 0 ∧ th = 0 ∧ r2 = nI (mk1 (nd, n) q).2.1) ∨ ((mk1 (nd, n) q).1 = 3 ∧ th = f)) := by
  obtain ⟨nd', h1, h2⟩ := h
  rcases h1 with ⟨h1, h3⟩ | ⟨h3, h4, h5, h6, h7, h8⟩
  · obtain ⟨v, e1, e2⟩ := mkd_mk1 hW h1
    rw [e1]; exact ⟨rfl, h2, Or.inl ⟨rfl, h3, e2⟩⟩
  · have e := mk1_full h3 hd h4
    subst h7
    rw [e, h8]; exact ⟨rfl, h2, Or.inr ⟨rfl, h6⟩⟩
theorem lk_made (hW : Wn nd n) (hf0 : ¬ f = 0) (hd : ¬ (q.1 = 2 ∧ 60 ≤ dp nd q.2.1)) (h1 : hlP (mk1 (nd, n) q) f r ((K1, F1, S1, D1, U1, PT1, n1), J1)) (h2 : ∃ nd', mdp nd n q f r2 th nd' n2 ∧ MoU nd' (K2, F2, S2, DD, n2)) : ∃ nd', lkP nd' K1 F1 S1 D1 U1 PT1 J1 n1 K2 F2 S2 DD n2 r r2 th := by
  obtain ⟨a1, a2, a3⟩ := mdp_o hW hd (u := (K2, F2, S2, DD, n2)) h2
  obtain ⟨b1, b2, b3⟩ := h1
  have a1 : n2 = (mk1 (nd, n) q).2.2.2 := a1
  have b1 : n1 = (mk1 (nd, n) q).2.2.2 := b1
  have b2 : LvOk (mk1 (nd, n) q).2.2.1 n1 K1 F1 S1 D1 U1 PT1 := b2
  rw [b1, ← a1] at b2
  refine ⟨_, b1.trans a1.symm, b2, a2, ?_, ?_⟩
  · rcases b3 with ⟨c1, c2, c3⟩ | ⟨c1, c2⟩ | ⟨c1, c2⟩
    · rcases a3 with ⟨d1, d2, d3⟩ | ⟨d1, d2⟩
      · rw [c2, d2]
      · rw [c1] at d1; exact absurd d1 (by decide)
    · rcases a3 with ⟨d1, d2, d3⟩ | ⟨d1, d2⟩ <;> rw [c1] at d1 <;> exact absurd d1 (by decide)
    · rcases a3 with ⟨d1, d2, d3⟩ | ⟨d1, d2⟩
      · rw [c1] at d1; exact absurd d1 (by decide)
      · rw [c2, d2]
  · intro hr
    rcases b3 with ⟨c1, c2, c3⟩ | ⟨c1, c2⟩ | ⟨c1, c2⟩
    · rcases a3 with ⟨d1, d2, d3⟩ | ⟨d1, d2⟩
      · rw [d3]; exact c3
      · rw [c1] at d1; exact absurd d1 (by decide)
    · rw [c2] at hr; exact absurd hr (by decide)
    · rcases a3 with ⟨d1, d2, d3⟩ | ⟨d1, d2⟩
      · rw [c1] at d1; exact absurd d1 (by decide)
      · exact absurd (c2.symm.trans hr) hf0
theorem lk_deep (hW : Wn nd n) (k : q.1 = 2) (hd : 60 ≤ dp nd q.2.1) (hm : MoOk nd n K2 F2 S2 DD) (h1 : hlP (mk1 (nd, n) q) f r ((K1, F1, S1, D1, U1, PT1, n1), J1)) : lkP nd K1 F1 S1 D1 U1 PT1 J1 n1 K2 F2 S2 DD n r r2 2 := by
  have e := mk1_deep (deep_new hW k hd) ⟨k, hd⟩
  rw [e] at h1
  obtain ⟨b1, b2, b3⟩ := h1
  have b1 : n1 = n := b1
  have b2 : LvOk nd n1 K1 F1 S1 D1 U1 PT1 := b2
  rw [b1] at b2
  rcases b3 with ⟨c1, -⟩ | ⟨-, c2⟩ | ⟨c1, -⟩
  · exact absurd c1 (show ¬ (2 : Nat) = 0 by decide)
  · exact ⟨b1, b2, hm, c2.symm, fun z => absurd (c2.symm.trans z) (by decide)⟩
  · exact absurd c1 (show ¬ (2 : Nat) = 3 by decide)
theorem lk_put {o : Nat × Nat × Tb} (h1 : hlP o 3 r ((K1, F1, S1, D1, U1, PT1, n1), J1)) (h2 : chg o r2 ((K2, F2, S2, DD, n2), th)) : ∃ nd', lkP nd' K1 F1 S1 D1 U1 PT1 J1 n1 K2 F2 S2 DD n2 r r2 th := by
  obtain ⟨b1, b2, b3⟩ := h1
  obtain ⟨d1, d2, d3, d4⟩ := h2
  have b1 : n1 = o.2.2.2 := b1
  have d3 : n2 = o.2.2.2 := d3
  have d2 : th = nI o.1 := d2
  have b2 : LvOk o.2.2.1 n1 K1 F1 S1 D1 U1 PT1 := b2
  rw [b1, ← d3] at b2
  refine ⟨_, b1.trans d3.symm, b2, d4, ?_, ?_⟩
  · rcases b3 with ⟨c1, c2, c3⟩ | ⟨c1, c2⟩ | ⟨c1, c2⟩ <;> rw [d2, c1, c2] <;> rfl
  · intro hr
    rcases b3 with ⟨c1, c2, c3⟩ | ⟨c1, c2⟩ | ⟨c1, c2⟩
    · rw [d1]; exact c3
    · rw [c2] at hr; exact absurd hr (by decide)
    · rw [c2] at hr; exact absurd hr (by decide)
end LK
theorem det_eq {nd : Nat → Nat × Nat × Nat} {n : Nat} {K F S K2 F2 S2 : Nat → Int32} (h1 : Rw nd n K F S) (h2 : Rw nd n K2 F2 S2) {j : Nat} (hj : j < n) (w : Int32) : det K F S j w = det K2 F2 S2 j w := by
  obtain ⟨a, b, c⟩ := h1 j hj
  obtain ⟨a', b', c'⟩ := h2 j hj
  unfold det
  rw [a, b, c, a', b', c']
/-- sides of needs -/
theorem sdm_b (x : Int32) (unk : Nat) : sdm x unk = 0 ∨ sdm x unk = 1 := by
  unfold sdm
  split
  · exact Or.inl rfl
  · split
    · exact Or.inl rfl
    · exact Or.inr rfl
theorem sdm_iff {x : Int32} {unk : Nat} (hu : unk ≤ 10) : sdm x unk = 1 ↔ (x = -1 ∨ hs x unk = 1) := by
  have t1 : ((-1 : Int32)).toInt = -1 := by decide
  have t0 : ((0 : Int32)).toInt = 0 := by decide
  have tu : (nI unk).toInt = unk := n_toInt (by omega)
  unfold sdm hs
  by_cases h1 : x < -1
  · rw [if_pos h1, if_pos (by rw [Int32.lt_iff_toInt_lt, t1] at h1; rw [Int32.lt_iff_toInt_lt, t0]; omega)]
    refine ⟨fun h => absurd h (by decide), fun h => ?_⟩
    rcases h with h | h
    · rw [h] at h1; exact absurd h1 (by decide)
    · exact absurd h (by decide)
  · rw [if_neg h1]
    by_cases h2 : x = -1
    · refine ⟨fun _ => Or.inl h2, fun _ => ?_⟩
      rw [if_neg (by rw [h2, Int32.le_iff_toInt_le, tu, t1]; omega)]
    · have h3 : ¬ x < 0 := by
        rw [Int32.lt_iff_toInt_lt, t1] at h1
        rw [Int32.lt_iff_toInt_lt, t0]
        have : x.toInt ≠ -1 := fun z => h2 (Int32.toInt_inj.mp (by rw [z, t1]))
        omega
      rw [if_neg h3]
      exact ⟨fun h => Or.inr h, fun h => h.resolve_left h2⟩
theorem sd_ex {x : Int32} {unk : Nat} (hu : unk ≤ 10) (h : x = -1 ∨ hs x unk = 1) : ∃ a, (sdI x = nI a ∧ a < 11) ∧ sdN x a := by
  by_cases h2 : x = -1
  · exact ⟨10, ⟨by rw [sdI, if_pos h2]; rfl, by decide⟩, Or.inl ⟨rfl, h2⟩⟩
  · have h3 := h.resolve_left h2
    rcases hs_cases x (n := unk) (by omega) with ⟨z, -⟩ | ⟨j, hj, e, -⟩
    · rw [z] at h3; exact absurd h3 (by decide)
    · exact ⟨j, ⟨by rw [sdI, if_neg h2, e], by omega⟩, Or.inr ⟨by omega, e⟩⟩
theorem up_ex {P : Nat → Int32 → Nat → Prop} {f : Nat → Int32} {g : Nat → Nat} {cnt : Nat} {x : Int32} {a : Nat} (h : ∀ j, j < cnt → P j (f j) (g j)) (hx : P cnt x a) : ∀ j, j < cnt + 1 → P j (upd f cnt x j) (if j = cnt then a else g j) := fun j hj => by
  by_cases z : j = cnt
  · rw [z, pk_us, if_pos rfl]; exact hx
  · rw [pk_un z, if_neg z]; exact h j (by omega)
section IVS
variable {nd : Nat → Nat × Nat × Nat} {lo hi : Nat → Nat} {n : Nat} {K F S D U : Nat → Int32} {PT : Nat → Int64} {LO ST HI KP NB : Nat → Int32} {unk cnt : Nat} {sv sk ck : Int32} {K2 F2 S2 DD LE RI : Nat → Int32}
theorem IV.lv {nd' : Nat → Nat × Nat × Nat} {n' : Nat} {K' F' S' D' U' : Nat → Int32} {PT' : Nat → Int64} {K2' F2' S2' DD' : Nat → Int32} (h : IV nd lo hi n K F S D U PT LO ST HI KP NB unk cnt sv sk ck K2 F2 S2 DD LE RI) (h1 : LvOk nd' n' K' F' S' D' U' PT') (h2 : MoOk nd' n' K2' F2' S2' DD') : IV nd' lo hi n' K' F' S' D' U' PT' LO ST HI KP NB unk cnt sv sk ck K2' F2' S2' DD' LE RI := ⟨h1, h2, h.2.2⟩
theorem IV.ndn {u : NdS} (h : IV nd lo hi n K F S D U PT LO ST HI KP NB unk cnt sv sk ck K2 F2 S2 DD LE RI) (hC : NdC lo hi ST cnt u) : IV nd lo hi n K F S D U PT LO ST HI u.1 u.2.1 unk cnt u.2.2.1 u.2.2.2.1 u.2.2.2.2 K2 F2 S2 DD LE RI := ⟨h.1, h.2.1, h.2.2.1, h.2.2.2.1, h.2.2.2.2.1, h.2.2.2.2.2.1, h.2.2.2.2.2.2.1, hC, h.2.2.2.2.2.2.2.2⟩
theorem IV.unkn (h : IV nd lo hi n K F S D U PT LO ST HI KP NB unk cnt sv sk ck K2 F2 S2 DD LE RI) (hu : unk < 10) : IV nd lo hi n K F S D U PT LO ST HI KP NB (unk + 1) cnt sv sk ck K2 F2 S2 DD LE RI := ⟨h.1, h.2.1, h.2.2.1, h.2.2.2.1, h.2.2.2.2.1, h.2.2.2.2.2.1, h.2.2.2.2.2.2.1, h.2.2.2.2.2.2.2.1, hu, h.2.2.2.2.2.2.2.2.2⟩
theorem IV.undo (h : IV nd lo hi n K F S D U PT LO ST HI KP NB unk cnt sv sk ck K2 F2 S2 DD LE RI) : IV nd lo hi n K F S D U PT LO ST HI KP NB unk (cnt - 1) sv 0 0 K2 F2 S2 DD LE RI := ⟨h.1, h.2.1, fun j hj => h.2.2.1 j (by omega), fun j hj => h.2.2.2.1 j (by omega), fun j hj => h.2.2.2.2.1 j (by omega), fun j hj => h.2.2.2.2.2.1 j (by omega), fun j hj => h.2.2.2.2.2.2.1 j (by omega), NdC.new, h.2.2.2.2.2.2.2.2.1, by have := h.2.2.2.2.2.2.2.2.2; omega⟩
theorem IV.need {x k y : Int32} {a b : Nat} (h : IV nd lo hi n K F S D U PT LO ST HI KP NB unk cnt sv sk ck K2 F2 S2 DD LE RI) (hx : (sdI x = nI a ∧ a < 11) ∧ sdN x a) (hy : (sdI y = nI b ∧ b < 11) ∧ sdN y b) (hk : -20 ≤ k ∧ k ≤ 20) (hc : cnt < 30) : IV nd (fun j => if j = cnt then a else lo j) (fun j => if j = cnt then b else hi j) n K F S D U PT (upd LO cnt (sdI x)) (upd ST cnt k) (upd HI cnt (sdI y)) KP NB unk (cnt + 1) sv 0 0 K2 F2 S2 DD (upd LE cnt x) (upd RI cnt y) :=
  ⟨h.1, h.2.1, up_ex (P := fun _ x a => x = nI a ∧ a < 11) h.2.2.1 hx.1, up_ex (P := fun _ x a => x = nI a ∧ a < 11) h.2.2.2.1 hy.1, up_ex (P := fun _ x a => sdN x a) h.2.2.2.2.1 hx.2, up_ex (P := fun _ x a => sdN x a) h.2.2.2.2.2.1 hy.2, up_ex (P := fun _ x _ => -20 ≤ x.toInt ∧ x.toInt ≤ 20) (g := lo) (a := a) h.2.2.2.2.2.2.1 ⟨by have := hk.1; rw [Int32.le_iff_toInt_le, show ((-20 : Int32)).toInt = -20 from by decide] at this; exact this, by have := hk.2; rw [Int32.le_iff_toInt_le, show ((20 : Int32)).toInt = 20 from by decide] at this; exact this⟩, NdC.new, h.2.2.2.2.2.2.2.2.1, hc⟩
theorem IV.B (h : IV nd lo hi n K F S D U PT LO ST HI KP NB unk cnt sv sk ck K2 F2 S2 DD LE RI) : NdB lo hi ST cnt := ⟨fun j hj => (h.2.2.1 j hj).2, fun j hj => (h.2.2.2.1 j hj).2, h.2.2.2.2.2.2.1, h.2.2.2.2.2.2.2.2.2⟩
end IVS
/-- k as class and reference ask about it -/
theorem k_cases (k : Int32) : (k < -20 ∨ 20 < k) ∨ (-20 ≤ k ∧ k ≤ 20) := by
  rw [Int32.lt_iff_toInt_lt, Int32.lt_iff_toInt_lt, Int32.le_iff_toInt_le, Int32.le_iff_toInt_le]
  omega
theorem p_cases (x : Int32) : (x < 0 ∨ 5 ≤ x) ∨ ∃ a, a < 5 ∧ x = nI a := by
  rcases pk_ix x (n := 5) (by decide) with h | h | h
  · exact Or.inl (Or.inl h)
  · exact Or.inl (Or.inr h)
  · exact Or.inr h
