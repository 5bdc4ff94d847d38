/-! THE CLAIM OUT OF ONE WALK OF THE LAW'S BODY. Your part is whole_start (and what it stands on); all else here is the same for every law, but numbers. -/
def R_law : String := "LevelRowsLaw"
def lw_P (b : Addr) (xs : List Int32) (args : Array Value) (s : State) : Prop := args = #[.ref b] ∧ s.IntsAt b xs ∧ xs.length ≤ 2048 ∧ (Jvm.Cond.and given_1 narrow_1).before args s = true
def lw_Q (_ : Array Value) (s : State) (o : Outcome) (t : State) : Prop := o = .returned (some (.int 1)) ∧ Framed s o t [] 1066 14202
def lw_Z (below : List Frame) (a : Array Value) (s : State) : State → Prop := fun t => ∃ o, t.status = .running ∧ Ended t below o ∧ lw_Q a s o t
/-- the law's own end, with 1 on the stack, nothing written that was there before, its room as the claim has it -/
theorem lw_ret {p : Program} {l : Launch} {e : Env} {s : State} {m : MethodId} {below : List Frame} {meth : Method} {c : Code} {b : Nat} (hx : p.tables.exec = Jvm.exec) (hb : c.code = code) (hr : meth.sig.returnType = ret) (hlocks : meth.locks = false) {pc : Nat} {H : Heap} {ls : Array Slot} (hdg : decode code pc = .ok (.ireturn, 1)) : W p l e room_1 s m #[Value.ref b] below meth c H [] 1066 14202 (lw_Z below #[Value.ref b] s) (F0 m pc ls [.int 1]) := by
  intro T hT X
  obtain ⟨fs, hret, hrun, hended, hW, hframe⟩ := X.leave (v := some (.int 1)) (hlocks := hlocks) (fun h => by rw [hr] at h; cases h)
  have hmeth' : T.vm.method? m = some meth := X.method'
  refine ⟨T.setFrames fs, ?_, .returned (some (.int 1)), hrun, hended, rfl, ⟨_, rfl⟩, hW, hframe⟩
  jvm_step X.here [X.here.top, hx, hb, hdg, hmeth', hr, ret, narrow_b1]
  (try refine ⟨rfl, ?_⟩); (try refine ⟨rfl, ?_⟩)
  first | (intro acts; rw [hret _ acts rfl rfl rfl]) | rw [hret _ _ rfl rfl rfl]
  exact Steps.refl _
/-- what holds at the law's entry: the machine, the code, the tables' words (any of lw_tbl by 'hts w (by decide +kernel)'), the script of L ints xs at the cell b, what the Statement gives of the start (any of its parts by flat_of_before) -/
def lw_At (p : Program) (s : State) (m : MethodId) (meth : Method) (c : Code) (b L : Nat) (xs : Nat → Int32) : Prop :=
  p.tables.exec = Jvm.exec ∧ c.code = code ∧ meth.sig.returnType = ret ∧ c.maxLocals = 8 ∧ s.vm.findClass R_law = some m.cls ∧ (∀ w ∈ lw_tbl, w.before #[Value.ref b] s = true) ∧ va_X b L xs s s.heap ∧ b < s.heap.size ∧ meth.locks = false ∧ (Jvm.Cond.and given_1 narrow_1).before #[Value.ref b] s = true

theorem st_str {own tx : String} {k : Nat} {args : Array Value} {s : State} (h1 : (Cond.stringRef own k tx).before args s = true) (h2 : (Cond.exactly (.string own k) "java/lang/String").before args s = true) : ∃ a, vk_R own k tx a s := by
  obtain ⟨a, c, cA, kA, q1, -⟩ := Cond.exactly_spec (args := args) (first := s) (o := none) (s := s) (idx := []) h2
  exact ⟨a, vk_R.of h1 q1⟩
theorem st_s0 {p : Program} {s : State} {m : MethodId} {meth : Method} {c : Code} {b L : Nat} {xs : Nat → Int32} (C0 : lw_At p s m meth c b L xs) : ∃ a, vk_R R_Lv 59 "more than 60 NEXTs in one another" a s := by
  obtain ⟨-, -, -, -, -, hts, -, -, -, hgv⟩ := C0
  exact st_str (hts _ (List.mem_append_right _ (List.mem_of_getElem? (i := 284) (by decide +kernel)))) (flat_of_before _ hgv (Cond.exactly (.string "LevelRows$Levels" 59) "java/lang/String") (by decide +kernel))
theorem st_s1 {p : Program} {s : State} {m : MethodId} {meth : Method} {c : Code} {b L : Nat} {xs : Nat → Int32} (C0 : lw_At p s m meth c b L xs) : ∃ a, vk_R R_Lv 66 "there are 120 levels" a s := by
  obtain ⟨-, -, -, -, -, hts, -, -, -, hgv⟩ := C0
  exact st_str (hts _ (List.mem_append_right _ (List.mem_of_getElem? (i := 320) (by decide +kernel)))) (flat_of_before _ hgv (Cond.exactly (.string "LevelRows$Levels" 66) "java/lang/String") (by decide +kernel))
theorem st_s2 {p : Program} {s : State} {m : MethodId} {meth : Method} {c : Code} {b L : Nat} {xs : Nat → Int32} (C0 : lw_At p s m meth c b L xs) : ∃ a, vk_R R_LR 138 "no such parameter" a s := by
  obtain ⟨-, -, -, -, -, hts, -, -, -, hgv⟩ := C0
  exact st_str (hts _ (List.mem_append_right _ (List.mem_of_getElem? (i := 381) (by decide +kernel)))) (flat_of_before _ hgv (Cond.exactly (.string "LevelRows" 138) "java/lang/String") (by decide +kernel))
theorem st_s3 {p : Program} {s : State} {m : MethodId} {meth : Method} {c : Code} {b L : Nat} {xs : Nat → Int32} (C0 : lw_At p s m meth c b L xs) : ∃ a, vk_R R_LR 136 "no such level" a s := by
  obtain ⟨-, -, -, -, -, hts, -, -, -, hgv⟩ := C0
  exact st_str (hts _ (List.mem_append_right _ (List.mem_of_getElem? (i := 400) (by decide +kernel)))) (flat_of_before _ hgv (Cond.exactly (.string "LevelRows" 136) "java/lang/String") (by decide +kernel))
theorem st_s4 {p : Program} {s : State} {m : MethodId} {meth : Method} {c : Code} {b L : Nat} {xs : Nat → Int32} (C0 : lw_At p s m meth c b L xs) : ∃ a, vk_R R_LR 60 "no such region" a s := by
  obtain ⟨-, -, -, -, -, hts, -, -, -, hgv⟩ := C0
  exact st_str (hts _ (List.mem_append_right _ (List.mem_of_getElem? (i := 448) (by decide +kernel)))) (flat_of_before _ hgv (Cond.exactly (.string "LevelRows" 60) "java/lang/String") (by decide +kernel))
theorem st_s5 {p : Program} {s : State} {m : MethodId} {meth : Method} {c : Code} {b L : Nat} {xs : Nat → Int32} (C0 : lw_At p s m meth c b L xs) : ∃ a, vk_R R_LR 98 "there are 10 unknowns" a s := by
  obtain ⟨-, -, -, -, -, hts, -, -, -, hgv⟩ := C0
  exact st_str (hts _ (List.mem_append_right _ (List.mem_of_getElem? (i := 516) (by decide +kernel)))) (flat_of_before _ hgv (Cond.exactly (.string "LevelRows" 98) "java/lang/String") (by decide +kernel))
theorem st_s6 {p : Program} {s : State} {m : MethodId} {meth : Method} {c : Code} {b L : Nat} {xs : Nat → Int32} (C0 : lw_At p s m meth c b L xs) : ∃ a, vk_R R_LR 107 "no such unknown" a s := by
  obtain ⟨-, -, -, -, -, hts, -, -, -, hgv⟩ := C0
  exact st_str (hts _ (List.mem_append_right _ (List.mem_of_getElem? (i := 533) (by decide +kernel)))) (flat_of_before _ hgv (Cond.exactly (.string "LevelRows" 107) "java/lang/String") (by decide +kernel))
theorem st_s7 {p : Program} {s : State} {m : MethodId} {meth : Method} {c : Code} {b L : Nat} {xs : Nat → Int32} (C0 : lw_At p s m meth c b L xs) : ∃ a, vk_R R_LR 111 "k is not in -20 .. 20" a s := by
  obtain ⟨-, -, -, -, -, hts, -, -, -, hgv⟩ := C0
  exact st_str (hts _ (List.mem_append_right _ (List.mem_of_getElem? (i := 535) (by decide +kernel)))) (flat_of_before _ hgv (Cond.exactly (.string "LevelRows" 111) "java/lang/String") (by decide +kernel))
theorem st_s8 {p : Program} {s : State} {m : MethodId} {meth : Method} {c : Code} {b L : Nat} {xs : Nat → Int32} (C0 : lw_At p s m meth c b L xs) : ∃ a, vk_R R_LR 117 "there are 30 needs" a s := by
  obtain ⟨-, -, -, -, -, hts, -, -, -, hgv⟩ := C0
  exact st_str (hts _ (List.mem_append_right _ (List.mem_of_getElem? (i := 537) (by decide +kernel)))) (flat_of_before _ hgv (Cond.exactly (.string "LevelRows" 117) "java/lang/String") (by decide +kernel))
theorem st_strs {p : Program} {s : State} {m : MethodId} {meth : Method} {c : Code} {b L : Nat} {xs : Nat → Int32} (C0 : lw_At p s m meth c b L xs) : strs s := ⟨st_s0 C0, st_s1 C0, st_s2 C0, st_s3 C0, st_s4 C0, st_s5 C0, st_s6 C0, st_s7 C0, st_s8 C0⟩
theorem st_ncs {p : Program} {s : State} {m : MethodId} {meth : Method} {c : Code} {b L : Nat} {xs : Nat → Int32} (C0 : lw_At p s m meth c b L xs) : ncs s := by
  obtain ⟨-, -, -, -, -, hts, -, -, -, hgv⟩ := C0
  have hq := flat_of_before _ hgv
  exact ⟨⟨va_Nc.of (hq (Cond.not (.castable "java/lang/IllegalArgumentException" "java/lang/IndexOutOfBoundsException")) (by decide +kernel)), va_Nc.of (hq (Cond.not (.castable "java/lang/IllegalStateException" "java/lang/IndexOutOfBoundsException")) (by decide +kernel))⟩, va_Nc.of (hq (Cond.not (.castable "java/lang/IllegalStateException" "java/lang/IllegalArgumentException")) (by decide +kernel))⟩
theorem st_nsts {p : Program} {s : State} {m : MethodId} {meth : Method} {c : Code} {b L : Nat} {xs : Nat → Int32} (C0 : lw_At p s m meth c b L xs) : nsts s := by
  obtain ⟨-, -, -, -, -, hts, -, -, -, hgv⟩ := C0
  exact ⟨va_Nw.of rfl (hts _ (List.mem_append_right _ (List.mem_of_getElem? (i := 25) (by decide +kernel)))), va_Nw.of rfl (hts _ (List.mem_append_right _ (List.mem_of_getElem? (i := 74) (by decide +kernel))))⟩
theorem st_thx {p : Program} {s : State} {m : MethodId} {meth : Method} {c : Code} {b L : Nat} {xs : Nat → Int32} (C0 : lw_At p s m meth c b L xs) {A : Nat → Prop} (hA : ∀ a : Nat, a < s.heap.size → ¬ A a) : thx A s s.heap := by
  obtain ⟨-, -, -, -, -, hts, -, -, -, hgv⟩ := C0
  have hq := flat_of_before _ hgv
  have h1 : (Cond.laysStatic Bundle.tN "UNASSIGNED_STACK" Bundle.steD).before #[Value.ref b] s = true := (hts _ (List.mem_append_right _ (List.mem_of_getElem? (i := 270) (by decide +kernel))))
  have h2 : (Cond.laysStatic Bundle.tN "SUPPRESSED_SENTINEL" Bundle.listD).before #[Value.ref b] s = true := (hts _ (List.mem_append_right _ (List.mem_of_getElem? (i := 272) (by decide +kernel))))
  have h3 : (Cond.initialized Bundle.tN).before #[Value.ref b] s = true := (hts _ (List.mem_append_right _ (List.mem_of_getElem? (i := 6) (by decide +kernel))))
  exact ⟨⟨va_Zqof h1 h3 (hq (Cond.isRef (.static "java/lang/Throwable" "UNASSIGNED_STACK" "[Ljava/lang/StackTraceElement;")) (by decide +kernel)) hA, va_Zqof h2 h3 (hq (Cond.isRef (.static "java/lang/Throwable" "SUPPRESSED_SENTINEL" "Ljava/util/List;")) (by decide +kernel)) hA⟩, lsq_of h1 hA, lsq_of h2 hA⟩
theorem st_cx {p : Program} {s : State} {m : MethodId} {meth : Method} {c : Code} {b L : Nat} {xs : Nat → Int32} (C0 : lw_At p s m meth c b L xs) : cx p s m #[Value.ref b] meth c b_Law_law 8 ret R_Law := by
  obtain ⟨h1, h2, h3, h4, h5, hts, -, -, h6, -⟩ := C0
  exact ⟨h1, h2, h3, h4, h5, fun w hw => hts w (List.mem_filter.mp hw).1, h6⟩
theorem st_K {p : Program} {s : State} {m : MethodId} {meth : Method} {c : Code} {b L : Nat} {xs : Nat → Int32} (C0 : lw_At p s m meth c b L xs) : ∃ (dC : Nat → ClassId) (dI : Nat → Nat → Nat) (cI cL cZ : ClassId), va_K (dC, dI) classes (tyI cI cL cZ) s := by
  obtain ⟨-, -, -, -, -, htb, -⟩ := st_cx C0
  obtain ⟨c0, i0, k0⟩ := u_known htb ul_LR (htb _ mw_16)
  obtain ⟨c1, i1, k1⟩ := u_known htb ul_Lv (htb _ mw_24)
  obtain ⟨c2, i2, k2⟩ := u_known htb ul_Rp (htb _ mw_57)
  obtain ⟨c3, i3, k3⟩ := u_known htb ul_Nd (htb _ mw_73)
  obtain ⟨c4, i4, k4⟩ := u_known htb ul_Mo (htb _ mw_543)
  obtain ⟨cI, aI, bI⟩ := k_arr (htb _ mw_54)
  obtain ⟨cL, aL, bL⟩ := k_arr (htb _ mw_55)
  obtain ⟨cZ, aZ, bZ⟩ := k_arr (htb _ mw_109)
  refine ⟨fun c => match c with | 0 => c0 | 1 => c1 | 2 => c2 | 3 => c3 | _ => c4, fun c => match c with | 0 => i0 | 1 => i1 | 2 => i2 | 3 => i3 | _ => i4, cI, cL, cZ, fun c q hq => ?_, fun k q hq => ?_⟩
  · have h5 : c < 5 := (List.getElem?_eq_some_iff.mp hq).1
    rcases (show c = 0 ∨ c = 1 ∨ c = 2 ∨ c = 3 ∨ c = 4 by omega) with rfl | rfl | rfl | rfl | rfl
    · obtain rfl : q = (R_LR, F_LR, 3) := (Option.some.inj hq).symm
      exact k0
    · obtain rfl : q = (R_Lv, F_Lv, 8) := (Option.some.inj hq).symm
      exact k1
    · obtain rfl : q = (R_Rp, F_Rp, 3) := (Option.some.inj hq).symm
      exact k2
    · obtain rfl : q = (R_Nd, F_Nd, 10) := (Option.some.inj hq).symm
      exact k3
    · obtain rfl : q = (R_Mo, F_Mo, 17) := (Option.some.inj hq).symm
      exact k4
  · have h3 : k < 3 := (List.getElem?_eq_some_iff.mp hq).1
    rcases (show k = 0 ∨ k = 1 ∨ k = 2 by omega) with rfl | rfl | rfl
    · obtain rfl : q = (cI, .int) := (Option.some.inj hq).symm
      exact ⟨aI, bI⟩
    · obtain rfl : q = (cL, .long) := (Option.some.inj hq).symm
      exact ⟨aL, bL⟩
    · obtain rfl : q = (cZ, .boolean) := (Option.some.inj hq).symm
      exact ⟨aZ, bZ⟩
